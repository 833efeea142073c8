/-! THE LAW, cases 8 to 15 -/
set_option maxHeartbeats 4000000 in
set_option maxRecDepth 100000 in
theorem lcase_8 (l : Launch) (hst : l.stackTraces = false) {p : Program} {e : Env} {s : State} {m : MethodId} {below : List Frame} {meth : Method} {c : Code} {D : va_G} {aC : Nat → ClassId} {a1 a2 : Nat → Nat} {ao aD b L : Nat} {xs : Nat → Int32} {Q : State → Prop} (G : lG p s m #[.ref b] meth c cL_law RL 9 D aC (lA s)) (hTh : wTh (lA s) s s.heap) (hNo : wNo s) (hX : va_X b L xs s s.heap) (hbl : b < s.heap.size) (hL : L ≤ 2560) {z y y' : wZ} {n : Nat} (hI : LI n z y y') (hn : 5 * n + 5 ≤ L) {fo : Nat → Int64} {go : Nat → UInt64} (kk : ∀ (z2 y2 y3 : wZ) (fo : Nat → Int64) (go : Nat → UInt64), LI (n + 1) z2 y2 y3 → JR p l e room_1 s m #[.ref b] below meth c 9 D (lA s) Q (100 + 5 * n + 5) (3000 + 30 * n + 30) (lW aC a1 a2 ao aD fo go (zc z2 y2) (zc z2 y3)) 2128 (lL b (a1 0) (a2 40) ao aD (5 * (n : Int))) []) : JR p l e room_1 s m #[.ref b] below meth c 9 D (lA s) Q (100 + 5 * n) (3000 + 30 * n) (lW aC a1 a2 ao aD fo go (zc z y) (zc z y')) 794 (lL b (a1 0) (a2 40) ao aD (5 * (n : Int))) [] := by
  obtain ⟨hR, hY, hY3, hCW, hMI, h6, h29⟩ := id hI
  have hWF := hCW.1
  obtain ⟨x1, e1, r1⟩ := sx_ex (xs (5 * n + 1))
  refine r_aload_n G 1 dL_law_794 rfl ?_
  refine r_scr (jn := 1) G hX hbl rfl (by omega) hL e1 0 5 rfl rfl dL_law_795 dL_law_796 dL_law_798 dL_law_799 dL_law_800 ?_
  refine r_aload_n G 3 dL_law_801 rfl ?_
  refine r_ws (lW_L _ _ _ _ _ _ _ _ _) ?_
  refine r_calls (w0 := []) (w2 := [(aD, oD aC go)] ++ (wd aC a2 shM (zc z y') ++ [])) (wx := [(ao, oL aC fo)] ++ (wd aC a1 shC (zc z y) ++ [])) (As := [.ref (a1 0), vi x1, .ref ao]) (st := []) (y0 := yL_trailOf) (idx := 159) G hTh hNo KW_trailOf (fun _ => lw_trailOf l hst hR hY hCW x1 r1) rfl ⟨rfl, rfl, Nat.le_of_ble_eq_true rfl, Nat.le_of_ble_eq_true rfl⟩ ⟨by show 100 + 5 * n + 5 ≤ 3162; omega, by show 3000 + 30 * n + 30 ≤ 121779; omega⟩ (Nat.le_of_ble_eq_true rfl) dL_law_802 (fun i9 wx9 hp => ?_)
  obtain ⟨ga, z2, y2, rfl, rfl, hk0, hk1⟩ := hp
  refine r_ws (lW_L _ _ _ _ _ _ _ _ _).symm ?_
  refine r_istore (Lv' := [(6, vi (kcB z x1)), (0, .ref b), (1, .ref (a1 0)), (2, .ref (a2 40)), (3, .ref ao), (4, .ref aD), (5, vi (5 * (n : Int)))]) G dL_law_805 (by decide) rfl ?_
  refine r_aload_n G 3 dL_law_807 rfl ?_
  refine r_scr (jn := 1) G hX hbl rfl (by omega) hL e1 1 6 rfl rfl dL_law_808 dL_law_809 dL_law_811 dL_law_812 dL_law_813 ?_
  refine r_ws (lW_M _ _ _ _ _ _ _ _ _) ?_
  refine r_calli (w0 := [(ao, oL aC ga)] ++ (wd aC a1 shC (zc z2 y2) ++ [(aD, oD aC go)])) (w2 := []) (ad := a2) (sh := shM) (z := z) (y := y') (q0 := 0) (nb := 40) (As := [vi x1]) (st := []) (y0 := yX8_trailOf) (idx := 161) (C := RX8) G KM_trailOf (fun hd => m_trailOf l hd hR hY3 x1 r1) rfl rfl rfl ⟨rfl, rfl, Nat.le_of_ble_eq_true rfl, Nat.le_of_ble_eq_true rfl⟩ ⟨by show 100 + 5 * n + 5 ≤ 3162; omega, by show 3000 + 30 * n + 30 ≤ 121779; omega⟩ (Nat.le_of_ble_eq_true rfl) dL_law_814 (fun b9 z3 y3 hp => ?_)
  obtain ⟨ez3, e71, hb, hRy3, hfr⟩ := hp
  subst z3
  have hRz3 := hR
  refine r_ws (lW_M _ _ _ _ _ _ _ _ _).symm ?_
  refine r_istore (Lv' := [(7, vi b9), (6, vi (kcB z x1)), (0, .ref b), (1, .ref (a1 0)), (2, .ref (a2 40)), (3, .ref ao), (4, .ref aD), (5, vi (5 * (n : Int)))]) G dL_law_817 (by decide) rfl ?_
  refine r_aload_n G 4 dL_law_819 rfl ?_
  refine r_ws (lW_M _ _ _ _ _ _ _ _ _) ?_
  refine r_calli (w0 := [(ao, oL aC ga)] ++ (wd aC a1 shC (zc z2 y2) ++ [(aD, oD aC go)])) (w2 := []) (ad := a2) (sh := shM) (z := z) (y := y3) (q0 := 0) (nb := 40) (As := []) (st := []) (y0 := yX8_thrown) (idx := 130) (C := RX8) G KM_thrown (fun hd => m_thrown l hd hRz3 hRy3) rfl rfl rfl ⟨rfl, rfl, Nat.le_of_ble_eq_true rfl, Nat.le_of_ble_eq_true rfl⟩ ⟨by show 100 + 5 * n + 5 ≤ 3162; omega, by show 3000 + 30 * n + 30 ≤ 121779; omega⟩ (Nat.le_of_ble_eq_true rfl) dL_law_820 (fun b8 z4 y4 hp => ?_)
  obtain ⟨rfl, ez4, ey4⟩ := hp
  subst z4
  subst y4
  rw [e71]
  refine r_ws (lW_M _ _ _ _ _ _ _ _ _).symm ?_
  refine r_iload G 1 dL_law_823 rfl ?_
  refine r_icmp_same (tgt := 830) G dL_law_825 (by decide) ?_
  refine r_iload G 1 dL_law_830 rfl ?_
  refine r_ifne_i (tgt := 847) G dL_law_832 (by decide) (by unfold kcB; (repeat' split) <;> omega) (fun h0 => ?_) (fun h0 => ?_)
  · obtain ⟨ez2, ey2⟩ := hk1 h0
    subst z2
    subst y2
    refine r_goto (tgt := 2128) G dL_law_847 (by decide) ?_
    refine r_sub (Lv' := lL b (a1 0) (a2 40) ao aD (5 * (n : Int))) [2, 3, 4, 5, 6, 7] rfl ?_
    exact kk z y y3 ga go (LI_q hI hRy3 hfr)
  · obtain ⟨r_, hga, hre⟩ := hk0 h0
    obtain ⟨rfl, ez2, ey2⟩ := hre
    subst z2
    subst y2
    obtain rfl := hb h0
    refine r_aload_n G 5 dL_law_835 rfl ?_
    refine r_iconst G dL_law_836 ?_
    refine r_lald (f := ga) G 0 rfl dL_law_837 ?_
    rw [hga]
    refine r_iload G 0 dL_law_838 rfl ?_
    refine r_i2l G dL_law_840 ?_
    refine r_lcmp_same G dL_law_841 ?_
    refine r_ifeq_0 (tgt := 847) G dL_law_842 (by decide) ?_
    refine r_goto (tgt := 2128) G dL_law_847 (by decide) ?_
    refine r_sub (Lv' := lL b (a1 0) (a2 40) ao aD (5 * (n : Int))) [2, 3, 4, 5, 6, 7] rfl ?_
    exact kk z y y3 ga go (LI_q hI hRy3 hfr)
set_option maxHeartbeats 4000000 in
set_option maxRecDepth 100000 in
theorem lcase_9 (l : Launch) (hst : l.stackTraces = false) {p : Program} {e : Env} {s : State} {m : MethodId} {below : List Frame} {meth : Method} {c : Code} {D : va_G} {aC : Nat → ClassId} {a1 a2 : Nat → Nat} {ao aD b L : Nat} {xs : Nat → Int32} {Q : State → Prop} (G : lG p s m #[.ref b] meth c cL_law RL 9 D aC (lA s)) (hTh : wTh (lA s) s s.heap) (hNo : wNo s) (hX : va_X b L xs s s.heap) (hbl : b < s.heap.size) (hL : L ≤ 2560) {z y y' : wZ} {n : Nat} (hI : LI n z y y') (hn : 5 * n + 5 ≤ L) {fo : Nat → Int64} {go : Nat → UInt64} (kk : ∀ (z2 y2 y3 : wZ) (fo : Nat → Int64) (go : Nat → UInt64), LI (n + 1) z2 y2 y3 → JR p l e room_1 s m #[.ref b] below meth c 9 D (lA s) Q (100 + 5 * n + 5) (3000 + 30 * n + 30) (lW aC a1 a2 ao aD fo go (zc z2 y2) (zc z2 y3)) 2128 (lL b (a1 0) (a2 40) ao aD (5 * (n : Int))) []) : JR p l e room_1 s m #[.ref b] below meth c 9 D (lA s) Q (100 + 5 * n) (3000 + 30 * n) (lW aC a1 a2 ao aD fo go (zc z y) (zc z y')) 850 (lL b (a1 0) (a2 40) ao aD (5 * (n : Int))) [] := by
  obtain ⟨hR, hY, hY3, hCW, hMI, h6, h29⟩ := id hI
  have hWF := hCW.1
  obtain ⟨x1, e1, r1⟩ := sx_ex (xs (5 * n + 1))
  refine r_aload_n G 1 dL_law_850 rfl ?_
  refine r_scr (jn := 1) G hX hbl rfl (by omega) hL e1 0 5 rfl rfl dL_law_851 dL_law_852 dL_law_854 dL_law_855 dL_law_856 ?_
  refine r_aload_n G 3 dL_law_857 rfl ?_
  refine r_ws (lW_L _ _ _ _ _ _ _ _ _) ?_
  refine r_calls (w0 := []) (w2 := [(aD, oD aC go)] ++ (wd aC a2 shM (zc z y') ++ [])) (wx := [(ao, oL aC fo)] ++ (wd aC a1 shC (zc z y) ++ [])) (As := [.ref (a1 0), vi x1, .ref ao]) (st := []) (y0 := yL_told) (idx := 162) G hTh hNo KW_told (fun _ => lw_told l hst hR hY hCW x1 r1) rfl ⟨rfl, rfl, Nat.le_of_ble_eq_true rfl, Nat.le_of_ble_eq_true rfl⟩ ⟨by show 100 + 5 * n + 5 ≤ 3162; omega, by show 3000 + 30 * n + 30 ≤ 121779; omega⟩ (Nat.le_of_ble_eq_true rfl) dL_law_858 (fun i9 wx9 hp => ?_)
  obtain ⟨ga, z2, y2, rfl, rfl, hk0, hk1⟩ := hp
  refine r_ws (lW_L _ _ _ _ _ _ _ _ _).symm ?_
  refine r_istore (Lv' := [(6, vi (kcB z x1)), (0, .ref b), (1, .ref (a1 0)), (2, .ref (a2 40)), (3, .ref ao), (4, .ref aD), (5, vi (5 * (n : Int)))]) G dL_law_861 (by decide) rfl ?_
  refine r_aload_n G 3 dL_law_863 rfl ?_
  refine r_scr (jn := 1) G hX hbl rfl (by omega) hL e1 1 6 rfl rfl dL_law_864 dL_law_865 dL_law_867 dL_law_868 dL_law_869 ?_
  refine r_ws (lW_M _ _ _ _ _ _ _ _ _) ?_
  refine r_calli (w0 := [(ao, oL aC ga)] ++ (wd aC a1 shC (zc z2 y2) ++ [(aD, oD aC go)])) (w2 := []) (ad := a2) (sh := shM) (z := z) (y := y') (q0 := 0) (nb := 40) (As := [vi x1]) (st := []) (y0 := yX8_told) (idx := 164) (C := RX8) G KM_told (fun hd => m_told l hd hR hY3 x1 r1) rfl rfl rfl ⟨rfl, rfl, Nat.le_of_ble_eq_true rfl, Nat.le_of_ble_eq_true rfl⟩ ⟨by show 100 + 5 * n + 5 ≤ 3162; omega, by show 3000 + 30 * n + 30 ≤ 121779; omega⟩ (Nat.le_of_ble_eq_true rfl) dL_law_870 (fun b9 z3 y3 hp => ?_)
  obtain ⟨ez3, e71, hb, hRy3, hfr⟩ := hp
  subst z3
  have hRz3 := hR
  refine r_ws (lW_M _ _ _ _ _ _ _ _ _).symm ?_
  refine r_istore (Lv' := [(7, vi b9), (6, vi (kcB z x1)), (0, .ref b), (1, .ref (a1 0)), (2, .ref (a2 40)), (3, .ref ao), (4, .ref aD), (5, vi (5 * (n : Int)))]) G dL_law_873 (by decide) rfl ?_
  refine r_aload_n G 4 dL_law_875 rfl ?_
  refine r_ws (lW_M _ _ _ _ _ _ _ _ _) ?_
  refine r_calli (w0 := [(ao, oL aC ga)] ++ (wd aC a1 shC (zc z2 y2) ++ [(aD, oD aC go)])) (w2 := []) (ad := a2) (sh := shM) (z := z) (y := y3) (q0 := 0) (nb := 40) (As := []) (st := []) (y0 := yX8_thrown) (idx := 130) (C := RX8) G KM_thrown (fun hd => m_thrown l hd hRz3 hRy3) rfl rfl rfl ⟨rfl, rfl, Nat.le_of_ble_eq_true rfl, Nat.le_of_ble_eq_true rfl⟩ ⟨by show 100 + 5 * n + 5 ≤ 3162; omega, by show 3000 + 30 * n + 30 ≤ 121779; omega⟩ (Nat.le_of_ble_eq_true rfl) dL_law_876 (fun b8 z4 y4 hp => ?_)
  obtain ⟨rfl, ez4, ey4⟩ := hp
  subst z4
  subst y4
  rw [e71]
  refine r_ws (lW_M _ _ _ _ _ _ _ _ _).symm ?_
  refine r_iload G 1 dL_law_879 rfl ?_
  refine r_icmp_same (tgt := 886) G dL_law_881 (by decide) ?_
  refine r_iload G 1 dL_law_886 rfl ?_
  refine r_ifne_i (tgt := 903) G dL_law_888 (by decide) (by unfold kcB; (repeat' split) <;> omega) (fun h0 => ?_) (fun h0 => ?_)
  · obtain ⟨ez2, ey2⟩ := hk1 h0
    subst z2
    subst y2
    refine r_goto (tgt := 2128) G dL_law_903 (by decide) ?_
    refine r_sub (Lv' := lL b (a1 0) (a2 40) ao aD (5 * (n : Int))) [2, 3, 4, 5, 6, 7] rfl ?_
    exact kk z y y3 ga go (LI_q hI hRy3 hfr)
  · obtain ⟨r_, hga, hre⟩ := hk0 h0
    obtain ⟨rfl, ez2, ey2⟩ := hre
    subst z2
    subst y2
    obtain rfl := hb h0
    refine r_aload_n G 5 dL_law_891 rfl ?_
    refine r_iconst G dL_law_892 ?_
    refine r_lald (f := ga) G 0 rfl dL_law_893 ?_
    rw [hga]
    refine r_iload G 0 dL_law_894 rfl ?_
    refine r_i2l G dL_law_896 ?_
    refine r_lcmp_same G dL_law_897 ?_
    refine r_ifeq_0 (tgt := 903) G dL_law_898 (by decide) ?_
    refine r_goto (tgt := 2128) G dL_law_903 (by decide) ?_
    refine r_sub (Lv' := lL b (a1 0) (a2 40) ao aD (5 * (n : Int))) [2, 3, 4, 5, 6, 7] rfl ?_
    exact kk z y y3 ga go (LI_q hI hRy3 hfr)
set_option maxHeartbeats 4000000 in
set_option maxRecDepth 100000 in
theorem lcase_10 (l : Launch) (hst : l.stackTraces = false) {p : Program} {e : Env} {s : State} {m : MethodId} {below : List Frame} {meth : Method} {c : Code} {D : va_G} {aC : Nat → ClassId} {a1 a2 : Nat → Nat} {ao aD b L : Nat} {xs : Nat → Int32} {Q : State → Prop} (G : lG p s m #[.ref b] meth c cL_law RL 9 D aC (lA s)) (hTh : wTh (lA s) s s.heap) (hNo : wNo s) (hX : va_X b L xs s s.heap) (hbl : b < s.heap.size) (hL : L ≤ 2560) {z y y' : wZ} {n : Nat} (hI : LI n z y y') (hn : 5 * n + 5 ≤ L) {fo : Nat → Int64} {go : Nat → UInt64} (kk : ∀ (z2 y2 y3 : wZ) (fo : Nat → Int64) (go : Nat → UInt64), LI (n + 1) z2 y2 y3 → JR p l e room_1 s m #[.ref b] below meth c 9 D (lA s) Q (100 + 5 * n + 5) (3000 + 30 * n + 30) (lW aC a1 a2 ao aD fo go (zc z2 y2) (zc z2 y3)) 2128 (lL b (a1 0) (a2 40) ao aD (5 * (n : Int))) []) : JR p l e room_1 s m #[.ref b] below meth c 9 D (lA s) Q (100 + 5 * n) (3000 + 30 * n) (lW aC a1 a2 ao aD fo go (zc z y) (zc z y')) 906 (lL b (a1 0) (a2 40) ao aD (5 * (n : Int))) [] := by
  obtain ⟨hR, hY, hY3, hCW, hMI, h6, h29⟩ := id hI
  have hWF := hCW.1
  obtain ⟨x1, e1, r1⟩ := sx_ex (xs (5 * n + 1))
  refine r_aload_n G 1 dL_law_906 rfl ?_
  refine r_scr (jn := 1) G hX hbl rfl (by omega) hL e1 0 5 rfl rfl dL_law_907 dL_law_908 dL_law_910 dL_law_911 dL_law_912 ?_
  refine r_aload_n G 3 dL_law_913 rfl ?_
  refine r_ws (lW_L _ _ _ _ _ _ _ _ _) ?_
  refine r_calls (w0 := []) (w2 := [(aD, oD aC go)] ++ (wd aC a2 shM (zc z y') ++ [])) (wx := [(ao, oL aC fo)] ++ (wd aC a1 shC (zc z y) ++ [])) (As := [.ref (a1 0), vi x1, .ref ao]) (st := []) (y0 := yL_isCovered) (idx := 165) G hTh hNo KW_isCovered (fun _ => lw_isCovered l hst hR hY hCW x1 r1) rfl ⟨rfl, rfl, Nat.le_of_ble_eq_true rfl, Nat.le_of_ble_eq_true rfl⟩ ⟨by show 100 + 5 * n + 5 ≤ 3162; omega, by show 3000 + 30 * n + 30 ≤ 121779; omega⟩ (Nat.le_of_ble_eq_true rfl) dL_law_914 (fun i9 wx9 hp => ?_)
  obtain ⟨ga, z2, y2, rfl, rfl, hk0, hk1⟩ := hp
  refine r_ws (lW_L _ _ _ _ _ _ _ _ _).symm ?_
  refine r_istore (Lv' := [(6, vi (kcB z x1)), (0, .ref b), (1, .ref (a1 0)), (2, .ref (a2 40)), (3, .ref ao), (4, .ref aD), (5, vi (5 * (n : Int)))]) G dL_law_917 (by decide) rfl ?_
  refine r_aload_n G 3 dL_law_919 rfl ?_
  refine r_scr (jn := 1) G hX hbl rfl (by omega) hL e1 1 6 rfl rfl dL_law_920 dL_law_921 dL_law_923 dL_law_924 dL_law_925 ?_
  refine r_ws (lW_M _ _ _ _ _ _ _ _ _) ?_
  refine r_calli (w0 := [(ao, oL aC ga)] ++ (wd aC a1 shC (zc z2 y2) ++ [(aD, oD aC go)])) (w2 := []) (ad := a2) (sh := shM) (z := z) (y := y') (q0 := 0) (nb := 40) (As := [vi x1]) (st := []) (y0 := yX8_isCovered) (idx := 167) (C := RX8) G KM_isCovered (fun hd => m_isCovered l hd hR hY3 x1 r1) rfl rfl rfl ⟨rfl, rfl, Nat.le_of_ble_eq_true rfl, Nat.le_of_ble_eq_true rfl⟩ ⟨by show 100 + 5 * n + 5 ≤ 3162; omega, by show 3000 + 30 * n + 30 ≤ 121779; omega⟩ (Nat.le_of_ble_eq_true rfl) dL_law_926 (fun b9 z3 y3 hp => ?_)
  obtain ⟨ez3, e71, hb, hRy3, hfr⟩ := hp
  subst z3
  have hRz3 := hR
  refine r_ws (lW_M _ _ _ _ _ _ _ _ _).symm ?_
  refine r_istore (Lv' := [(7, vi b9), (6, vi (kcB z x1)), (0, .ref b), (1, .ref (a1 0)), (2, .ref (a2 40)), (3, .ref ao), (4, .ref aD), (5, vi (5 * (n : Int)))]) G dL_law_929 (by decide) rfl ?_
  refine r_aload_n G 4 dL_law_931 rfl ?_
  refine r_ws (lW_M _ _ _ _ _ _ _ _ _) ?_
  refine r_calli (w0 := [(ao, oL aC ga)] ++ (wd aC a1 shC (zc z2 y2) ++ [(aD, oD aC go)])) (w2 := []) (ad := a2) (sh := shM) (z := z) (y := y3) (q0 := 0) (nb := 40) (As := []) (st := []) (y0 := yX8_thrown) (idx := 130) (C := RX8) G KM_thrown (fun hd => m_thrown l hd hRz3 hRy3) rfl rfl rfl ⟨rfl, rfl, Nat.le_of_ble_eq_true rfl, Nat.le_of_ble_eq_true rfl⟩ ⟨by show 100 + 5 * n + 5 ≤ 3162; omega, by show 3000 + 30 * n + 30 ≤ 121779; omega⟩ (Nat.le_of_ble_eq_true rfl) dL_law_932 (fun b8 z4 y4 hp => ?_)
  obtain ⟨rfl, ez4, ey4⟩ := hp
  subst z4
  subst y4
  rw [e71]
  refine r_ws (lW_M _ _ _ _ _ _ _ _ _).symm ?_
  refine r_iload G 1 dL_law_935 rfl ?_
  refine r_icmp_same (tgt := 942) G dL_law_937 (by decide) ?_
  refine r_iload G 1 dL_law_942 rfl ?_
  refine r_ifne_i (tgt := 966) G dL_law_944 (by decide) (by unfold kcB; (repeat' split) <;> omega) (fun h0 => ?_) (fun h0 => ?_)
  · obtain ⟨ez2, ey2⟩ := hk1 h0
    subst z2
    subst y2
    refine r_goto (tgt := 2128) G dL_law_966 (by decide) ?_
    refine r_sub (Lv' := lL b (a1 0) (a2 40) ao aD (5 * (n : Int))) [2, 3, 4, 5, 6, 7] rfl ?_
    exact kk z y y3 ga go (LI_q hI hRy3 hfr)
  · obtain ⟨r_, hga, hre⟩ := hk0 h0
    obtain ⟨rfl, ez2, ey2⟩ := hre
    subst z2
    subst y2
    obtain rfl := hb h0
    refine r_aload_n G 5 dL_law_947 rfl ?_
    refine r_iconst G dL_law_948 ?_
    refine r_lald (f := ga) G 0 rfl dL_law_949 ?_
    rw [hga]
    refine r_iload G 0 dL_law_950 rfl ?_
    refine r_lbool G dL_law_952 dL_law_955 dL_law_956 dL_law_959 ?_
    refine r_lcmp_same G dL_law_960 ?_
    refine r_ifeq_0 (tgt := 966) G dL_law_961 (by decide) ?_
    refine r_goto (tgt := 2128) G dL_law_966 (by decide) ?_
    refine r_sub (Lv' := lL b (a1 0) (a2 40) ao aD (5 * (n : Int))) [2, 3, 4, 5, 6, 7] rfl ?_
    exact kk z y y3 ga go (LI_q hI hRy3 hfr)
set_option maxHeartbeats 4000000 in
set_option maxRecDepth 100000 in
theorem lcase_11 (l : Launch) (hst : l.stackTraces = false) {p : Program} {e : Env} {s : State} {m : MethodId} {below : List Frame} {meth : Method} {c : Code} {D : va_G} {aC : Nat → ClassId} {a1 a2 : Nat → Nat} {ao aD b L : Nat} {xs : Nat → Int32} {Q : State → Prop} (G : lG p s m #[.ref b] meth c cL_law RL 9 D aC (lA s)) (hTh : wTh (lA s) s s.heap) (hNo : wNo s) (hX : va_X b L xs s s.heap) (hbl : b < s.heap.size) (hL : L ≤ 2560) {z y y' : wZ} {n : Nat} (hI : LI n z y y') (hn : 5 * n + 5 ≤ L) {fo : Nat → Int64} {go : Nat → UInt64} (kk : ∀ (z2 y2 y3 : wZ) (fo : Nat → Int64) (go : Nat → UInt64), LI (n + 1) z2 y2 y3 → JR p l e room_1 s m #[.ref b] below meth c 9 D (lA s) Q (100 + 5 * n + 5) (3000 + 30 * n + 30) (lW aC a1 a2 ao aD fo go (zc z2 y2) (zc z2 y3)) 2128 (lL b (a1 0) (a2 40) ao aD (5 * (n : Int))) []) : JR p l e room_1 s m #[.ref b] below meth c 9 D (lA s) Q (100 + 5 * n) (3000 + 30 * n) (lW aC a1 a2 ao aD fo go (zc z y) (zc z y')) 969 (lL b (a1 0) (a2 40) ao aD (5 * (n : Int))) [] := by
  obtain ⟨hR, hY, hY3, hCW, hMI, h6, h29⟩ := id hI
  have hWF := hCW.1
  obtain ⟨x1, e1, r1⟩ := sx_ex (xs (5 * n + 1))
  obtain ⟨x2, e2, r2⟩ := sx_ex (xs (5 * n + 2))
  refine r_aload_n G 1 dL_law_969 rfl ?_
  refine r_scr (jn := 1) G hX hbl rfl (by omega) hL e1 0 5 rfl rfl dL_law_970 dL_law_971 dL_law_973 dL_law_974 dL_law_975 ?_
  refine r_scr (jn := 2) G hX hbl rfl (by omega) hL e2 0 5 rfl rfl dL_law_976 dL_law_977 dL_law_979 dL_law_980 dL_law_981 ?_
  refine r_bool G r2 dL_law_982 dL_law_985 dL_law_986 dL_law_989 ?_
  refine r_aload_n G 3 dL_law_990 rfl ?_
  refine r_ws (lW_L _ _ _ _ _ _ _ _ _) ?_
  refine r_calls (w0 := []) (w2 := [(aD, oD aC go)] ++ (wd aC a2 shM (zc z y') ++ [])) (wx := [(ao, oL aC fo)] ++ (wd aC a1 shC (zc z y) ++ [])) (As := [.ref (a1 0), vi x1, vi (bz x2), .ref ao]) (st := []) (y0 := yL_danger) (idx := 168) G hTh hNo KW_danger (fun _ => lw_danger l hst hR hY hCW x1 r1 (bz x2) (bz_01 x2)) rfl ⟨rfl, rfl, Nat.le_of_ble_eq_true rfl, Nat.le_of_ble_eq_true rfl⟩ ⟨by show 100 + 5 * n + 5 ≤ 3162; omega, by show 3000 + 30 * n + 30 ≤ 121779; omega⟩ (Nat.le_of_ble_eq_true rfl) dL_law_991 (fun i9 wx9 hp => ?_)
  obtain ⟨ga, z2, y2, rfl, rfl, hk0, hk1⟩ := hp
  refine r_ws (lW_L _ _ _ _ _ _ _ _ _).symm ?_
  refine r_istore (Lv' := [(6, vi (kcB z x1)), (0, .ref b), (1, .ref (a1 0)), (2, .ref (a2 40)), (3, .ref ao), (4, .ref aD), (5, vi (5 * (n : Int)))]) G dL_law_994 (by decide) rfl ?_
  refine r_aload_n G 3 dL_law_996 rfl ?_
  refine r_scr (jn := 1) G hX hbl rfl (by omega) hL e1 1 6 rfl rfl dL_law_997 dL_law_998 dL_law_1000 dL_law_1001 dL_law_1002 ?_
  refine r_scr (jn := 2) G hX hbl rfl (by omega) hL e2 1 6 rfl rfl dL_law_1003 dL_law_1004 dL_law_1006 dL_law_1007 dL_law_1008 ?_
  refine r_bool G r2 dL_law_1009 dL_law_1012 dL_law_1013 dL_law_1016 ?_
  refine r_ws (lW_M _ _ _ _ _ _ _ _ _) ?_
  refine r_calli (w0 := [(ao, oL aC ga)] ++ (wd aC a1 shC (zc z2 y2) ++ [(aD, oD aC go)])) (w2 := []) (ad := a2) (sh := shM) (z := z) (y := y') (q0 := 0) (nb := 40) (As := [vi x1, vi (bz x2)]) (st := []) (y0 := yX8_danger) (idx := 170) (C := RX8) G KM_danger (fun hd => m_danger_v l hd hR hY3 x1 r1 hWF (bz x2) (bz_01 x2)) rfl rfl rfl ⟨rfl, rfl, Nat.le_of_ble_eq_true rfl, Nat.le_of_ble_eq_true rfl⟩ ⟨by show 100 + 5 * n + 5 ≤ 3162; omega, by show 3000 + 30 * n + 30 ≤ 121779; omega⟩ (Nat.le_of_ble_eq_true rfl) dL_law_1017 (fun b9 z3 y3 hp => ?_)
  obtain ⟨ez3, e71, hb, hRy3, hfr⟩ := hp
  subst z3
  have hRz3 := hR
  refine r_ws (lW_M _ _ _ _ _ _ _ _ _).symm ?_
  refine r_istore (Lv' := [(7, vi b9), (6, vi (kcB z x1)), (0, .ref b), (1, .ref (a1 0)), (2, .ref (a2 40)), (3, .ref ao), (4, .ref aD), (5, vi (5 * (n : Int)))]) G dL_law_1020 (by decide) rfl ?_
  refine r_aload_n G 4 dL_law_1022 rfl ?_
  refine r_ws (lW_M _ _ _ _ _ _ _ _ _) ?_
  refine r_calli (w0 := [(ao, oL aC ga)] ++ (wd aC a1 shC (zc z2 y2) ++ [(aD, oD aC go)])) (w2 := []) (ad := a2) (sh := shM) (z := z) (y := y3) (q0 := 0) (nb := 40) (As := []) (st := []) (y0 := yX8_thrown) (idx := 130) (C := RX8) G KM_thrown (fun hd => m_thrown l hd hRz3 hRy3) rfl rfl rfl ⟨rfl, rfl, Nat.le_of_ble_eq_true rfl, Nat.le_of_ble_eq_true rfl⟩ ⟨by show 100 + 5 * n + 5 ≤ 3162; omega, by show 3000 + 30 * n + 30 ≤ 121779; omega⟩ (Nat.le_of_ble_eq_true rfl) dL_law_1023 (fun b8 z4 y4 hp => ?_)
  obtain ⟨rfl, ez4, ey4⟩ := hp
  subst z4
  subst y4
  rw [e71]
  refine r_ws (lW_M _ _ _ _ _ _ _ _ _).symm ?_
  refine r_iload G 1 dL_law_1026 rfl ?_
  refine r_icmp_same (tgt := 1033) G dL_law_1028 (by decide) ?_
  refine r_iload G 1 dL_law_1033 rfl ?_
  refine r_ifne_i (tgt := 1050) G dL_law_1035 (by decide) (by unfold kcB; (repeat' split) <;> omega) (fun h0 => ?_) (fun h0 => ?_)
  · obtain ⟨ez2, ey2⟩ := hk1 h0
    subst z2
    subst y2
    refine r_goto (tgt := 2128) G dL_law_1050 (by decide) ?_
    refine r_sub (Lv' := lL b (a1 0) (a2 40) ao aD (5 * (n : Int))) [2, 3, 4, 5, 6, 7] rfl ?_
    exact kk z y y3 ga go (LI_q hI hRy3 hfr)
  · obtain ⟨r_, hga, hre⟩ := hk0 h0
    obtain ⟨rfl, ez2, ey2⟩ := hre
    subst z2
    subst y2
    obtain rfl := hb h0
    refine r_aload_n G 5 dL_law_1038 rfl ?_
    refine r_iconst G dL_law_1039 ?_
    refine r_lald (f := ga) G 0 rfl dL_law_1040 ?_
    rw [hga]
    refine r_iload G 0 dL_law_1041 rfl ?_
    refine r_i2l G dL_law_1043 ?_
    refine r_lcmp_same G dL_law_1044 ?_
    refine r_ifeq_0 (tgt := 1050) G dL_law_1045 (by decide) ?_
    refine r_goto (tgt := 2128) G dL_law_1050 (by decide) ?_
    refine r_sub (Lv' := lL b (a1 0) (a2 40) ao aD (5 * (n : Int))) [2, 3, 4, 5, 6, 7] rfl ?_
    exact kk z y y3 ga go (LI_q hI hRy3 hfr)
set_option maxHeartbeats 4000000 in
set_option maxRecDepth 100000 in
theorem lcase_12 (l : Launch) (hst : l.stackTraces = false) {p : Program} {e : Env} {s : State} {m : MethodId} {below : List Frame} {meth : Method} {c : Code} {D : va_G} {aC : Nat → ClassId} {a1 a2 : Nat → Nat} {ao aD b L : Nat} {xs : Nat → Int32} {Q : State → Prop} (G : lG p s m #[.ref b] meth c cL_law RL 9 D aC (lA s)) (hTh : wTh (lA s) s s.heap) (hNo : wNo s) (hX : va_X b L xs s s.heap) (hbl : b < s.heap.size) (hL : L ≤ 2560) {z y y' : wZ} {n : Nat} (hI : LI n z y y') (hn : 5 * n + 5 ≤ L) {fo : Nat → Int64} {go : Nat → UInt64} (kk : ∀ (z2 y2 y3 : wZ) (fo : Nat → Int64) (go : Nat → UInt64), LI (n + 1) z2 y2 y3 → JR p l e room_1 s m #[.ref b] below meth c 9 D (lA s) Q (100 + 5 * n + 5) (3000 + 30 * n + 30) (lW aC a1 a2 ao aD fo go (zc z2 y2) (zc z2 y3)) 2128 (lL b (a1 0) (a2 40) ao aD (5 * (n : Int))) []) : JR p l e room_1 s m #[.ref b] below meth c 9 D (lA s) Q (100 + 5 * n) (3000 + 30 * n) (lW aC a1 a2 ao aD fo go (zc z y) (zc z y')) 1053 (lL b (a1 0) (a2 40) ao aD (5 * (n : Int))) [] := by
  obtain ⟨hR, hY, hY3, hCW, hMI, h6, h29⟩ := id hI
  have hWF := hCW.1
  obtain ⟨x1, e1, r1⟩ := sx_ex (xs (5 * n + 1))
  refine r_aload_n G 1 dL_law_1053 rfl ?_
  refine r_scr (jn := 1) G hX hbl rfl (by omega) hL e1 0 5 rfl rfl dL_law_1054 dL_law_1055 dL_law_1057 dL_law_1058 dL_law_1059 ?_
  refine r_bool G r1 dL_law_1060 dL_law_1063 dL_law_1064 dL_law_1067 ?_
  refine r_calli (w0 := [(ao, oL aC fo)]) (w2 := [(aD, oD aC go)] ++ (wd aC a2 shM (zc z y') ++ [])) (ad := a1) (sh := shC) (z := z) (y := y) (q0 := 0) (nb := 0) (As := [vi (bz x1)]) (st := []) (y0 := yX7_unsafe) (idx := 171) (C := RX7) G KD_unsafe (fun hd => c_unsafe_v l hd hR hY hCW (bz x1) (bz_01 x1)) rfl rfl rfl ⟨rfl, rfl, Nat.le_of_ble_eq_true rfl, Nat.le_of_ble_eq_true rfl⟩ ⟨by show 100 + 5 * n ≤ 3162; omega, by show 3000 + 30 * n ≤ 121779; omega⟩ (Nat.le_of_ble_eq_true rfl) dL_law_1068 (fun rc z2 y2 hp => ?_)
  obtain ⟨rfl, ez2, ey2⟩ := hp
  subst z2
  subst y2
  refine r_widen (100 + 5 * n + 5) (3000 + 30 * n + 30) (by omega) (by omega) ?_
  refine r_aload_n G 2 dL_law_1071 rfl ?_
  refine r_scr (jn := 1) G hX hbl rfl (by omega) hL e1 0 5 rfl rfl dL_law_1072 dL_law_1073 dL_law_1075 dL_law_1076 dL_law_1077 ?_
  refine r_bool G r1 dL_law_1078 dL_law_1081 dL_law_1082 dL_law_1085 ?_
  refine r_ws (lW_M _ _ _ _ _ _ _ _ _) ?_
  refine r_calli (w0 := [(ao, oL aC fo)] ++ (wd aC a1 shC (zc z y) ++ [(aD, oD aC go)])) (w2 := []) (ad := a2) (sh := shM) (z := z) (y := y') (q0 := 0) (nb := 40) (As := [vi (bz x1)]) (st := [vi (unL z (vb (bz x1)) (z 2 0).toNat 0 0)]) (y0 := yX8_unsafe) (idx := 174) (C := RX8) G KM_unsafe (fun hd => m_unsafe_v l hd hR hY3 hWF (bz x1) (bz_01 x1)) rfl rfl rfl ⟨rfl, rfl, Nat.le_of_ble_eq_true rfl, Nat.le_of_ble_eq_true rfl⟩ ⟨by show 100 + 5 * n + 5 ≤ 3162; omega, by show 3000 + 30 * n + 30 ≤ 121779; omega⟩ (Nat.le_of_ble_eq_true rfl) dL_law_1086 (fun b9 z3 y3 hp => ?_)
  obtain ⟨ez3, rfl, hRy3, hfr⟩ := hp
  subst z3
  refine r_ws (lW_M _ _ _ _ _ _ _ _ _).symm ?_
  refine r_icmp_same (tgt := 2128) G dL_law_1089 (by decide) ?_
  exact kk z y y3 fo go (LI_q hI hRy3 hfr)
set_option maxHeartbeats 4000000 in
set_option maxRecDepth 100000 in
theorem lcase_13 (l : Launch) (hst : l.stackTraces = false) {p : Program} {e : Env} {s : State} {m : MethodId} {below : List Frame} {meth : Method} {c : Code} {D : va_G} {aC : Nat → ClassId} {a1 a2 : Nat → Nat} {ao aD b L : Nat} {xs : Nat → Int32} {Q : State → Prop} (G : lG p s m #[.ref b] meth c cL_law RL 9 D aC (lA s)) (hTh : wTh (lA s) s s.heap) (hNo : wNo s) (hX : va_X b L xs s s.heap) (hbl : b < s.heap.size) (hL : L ≤ 2560) {z y y' : wZ} {n : Nat} (hI : LI n z y y') (hn : 5 * n + 5 ≤ L) {fo : Nat → Int64} {go : Nat → UInt64} (kk : ∀ (z2 y2 y3 : wZ) (fo : Nat → Int64) (go : Nat → UInt64), LI (n + 1) z2 y2 y3 → JR p l e room_1 s m #[.ref b] below meth c 9 D (lA s) Q (100 + 5 * n + 5) (3000 + 30 * n + 30) (lW aC a1 a2 ao aD fo go (zc z2 y2) (zc z2 y3)) 2128 (lL b (a1 0) (a2 40) ao aD (5 * (n : Int))) []) : JR p l e room_1 s m #[.ref b] below meth c 9 D (lA s) Q (100 + 5 * n) (3000 + 30 * n) (lW aC a1 a2 ao aD fo go (zc z y) (zc z y')) 1094 (lL b (a1 0) (a2 40) ao aD (5 * (n : Int))) [] := by
  obtain ⟨hR, hY, hY3, hCW, hMI, h6, h29⟩ := id hI
  have hWF := hCW.1
  obtain ⟨x1, e1, r1⟩ := sx_ex (xs (5 * n + 1))
  obtain ⟨x2, e2, r2⟩ := sx_ex (xs (5 * n + 2))
  obtain ⟨x3, e3, r3⟩ := sx_ex (xs (5 * n + 3))
  refine r_aload_n G 1 dL_law_1094 rfl ?_
  refine r_scr (jn := 1) G hX hbl rfl (by omega) hL e1 0 5 rfl rfl dL_law_1095 dL_law_1096 dL_law_1098 dL_law_1099 dL_law_1100 ?_
  refine r_scr (jn := 2) G hX hbl rfl (by omega) hL e2 0 5 rfl rfl dL_law_1101 dL_law_1102 dL_law_1104 dL_law_1105 dL_law_1106 ?_
  refine r_scr (jn := 3) G hX hbl rfl (by omega) hL e3 0 5 rfl rfl dL_law_1107 dL_law_1108 dL_law_1110 dL_law_1111 dL_law_1112 ?_
  refine r_bool G r3 dL_law_1113 dL_law_1116 dL_law_1117 dL_law_1120 ?_
  refine r_aload_n G 3 dL_law_1121 rfl ?_
  refine r_ws (lW_L _ _ _ _ _ _ _ _ _) ?_
  refine r_calls (w0 := []) (w2 := [(aD, oD aC go)] ++ (wd aC a2 shM (zc z y') ++ [])) (wx := [(ao, oL aC fo)] ++ (wd aC a1 shC (zc z y) ++ [])) (As := [.ref (a1 0), vi x1, vi x2, vi (bz x3), .ref ao]) (st := []) (y0 := yL_report) (idx := 175) G hTh hNo KW_report (fun _ => lw_report l hst hR hY hCW x1 x2 (bz x3) r1 r2 (bz_01 x3)) rfl ⟨rfl, rfl, Nat.le_of_ble_eq_true rfl, Nat.le_of_ble_eq_true rfl⟩ ⟨by show 100 + 5 * n + 5 ≤ 3162; omega, by show 3000 + 30 * n + 30 ≤ 121779; omega⟩ (Nat.le_of_ble_eq_true rfl) dL_law_1122 (fun i9 wx9 hp => ?_)
  obtain ⟨ga, z2, y2, rfl, rfl, hk0, hk1⟩ := hp
  refine r_ws (lW_L _ _ _ _ _ _ _ _ _).symm ?_
  refine r_istore (Lv' := [(6, vi (kcRp z x1 x2)), (0, .ref b), (1, .ref (a1 0)), (2, .ref (a2 40)), (3, .ref ao), (4, .ref aD), (5, vi (5 * (n : Int)))]) G dL_law_1125 (by decide) rfl ?_
  refine r_aload_n G 3 dL_law_1127 rfl ?_
  refine r_scr (jn := 1) G hX hbl rfl (by omega) hL e1 1 6 rfl rfl dL_law_1128 dL_law_1129 dL_law_1131 dL_law_1132 dL_law_1133 ?_
  refine r_scr (jn := 2) G hX hbl rfl (by omega) hL e2 1 6 rfl rfl dL_law_1134 dL_law_1135 dL_law_1137 dL_law_1138 dL_law_1139 ?_
  refine r_scr (jn := 3) G hX hbl rfl (by omega) hL e3 1 6 rfl rfl dL_law_1140 dL_law_1141 dL_law_1143 dL_law_1144 dL_law_1145 ?_
  refine r_bool G r3 dL_law_1146 dL_law_1149 dL_law_1150 dL_law_1153 ?_
  refine r_ws (lW_M _ _ _ _ _ _ _ _ _) ?_
  refine r_calli (w0 := [(ao, oL aC ga)] ++ (wd aC a1 shC (zc z2 y2) ++ [(aD, oD aC go)])) (w2 := []) (ad := a2) (sh := shM) (z := z) (y := y') (q0 := 0) (nb := 40) (As := [vi x1, vi x2, vi (bz x3)]) (st := []) (y0 := yX8_report) (idx := 177) (C := RX8) G KM_report (fun hd => m_report l hd hR hY3 x1 x2 (bz x3) r1 r2 (bz_01 x3) hMI) rfl rfl rfl ⟨rfl, rfl, Nat.le_of_ble_eq_true rfl, Nat.le_of_ble_eq_true rfl⟩ ⟨by show 100 + 5 * n + 5 ≤ 3162; omega, by show 3000 + 30 * n + 30 ≤ 121779; omega⟩ (Nat.le_of_ble_eq_true rfl) dL_law_1154 (fun b9 z3 y3 hp => ?_)
  obtain ⟨e71, hb, hb1, hRz3, hRy3, hfr⟩ := hp
  refine r_ws (lW_M _ _ _ _ _ _ _ _ _).symm ?_
  refine r_istore (Lv' := [(7, vi b9), (6, vi (kcRp z x1 x2)), (0, .ref b), (1, .ref (a1 0)), (2, .ref (a2 40)), (3, .ref ao), (4, .ref aD), (5, vi (5 * (n : Int)))]) G dL_law_1157 (by decide) rfl ?_
  refine r_aload_n G 4 dL_law_1159 rfl ?_
  refine r_ws (lW_M _ _ _ _ _ _ _ _ _) ?_
  refine r_calli (w0 := [(ao, oL aC ga)] ++ (wd aC a1 shC (zc z2 y2) ++ [(aD, oD aC go)])) (w2 := []) (ad := a2) (sh := shM) (z := z3) (y := y3) (q0 := 0) (nb := 40) (As := []) (st := []) (y0 := yX8_thrown) (idx := 130) (C := RX8) G KM_thrown (fun hd => m_thrown l hd hRz3 hRy3) rfl rfl rfl ⟨rfl, rfl, Nat.le_of_ble_eq_true rfl, Nat.le_of_ble_eq_true rfl⟩ ⟨by show 100 + 5 * n + 5 ≤ 3162; omega, by show 3000 + 30 * n + 30 ≤ 121779; omega⟩ (Nat.le_of_ble_eq_true rfl) dL_law_1160 (fun b8 z4 y4 hp => ?_)
  obtain ⟨rfl, ez4, ey4⟩ := hp
  subst z4
  subst y4
  rw [e71]
  refine r_ws (lW_M _ _ _ _ _ _ _ _ _).symm ?_
  refine r_iload G 1 dL_law_1163 rfl ?_
  refine r_icmp_same (tgt := 1170) G dL_law_1165 (by decide) ?_
  refine r_iload G 1 dL_law_1170 rfl ?_
  refine r_ifne_i (tgt := 1194) G dL_law_1172 (by decide) (by unfold kcRp; (repeat' split) <;> omega) (fun h0 => ?_) (fun h0 => ?_)
  · obtain ⟨ez2, ey2⟩ := hk1 h0
    subst z2
    subst y2
    obtain ⟨ez3, ey3⟩ := hb1 h0
    subst z3
    refine r_goto (tgt := 2128) G dL_law_1194 (by decide) ?_
    refine r_sub (Lv' := lL b (a1 0) (a2 40) ao aD (5 * (n : Int))) [2, 3, 4, 5, 6, 7] rfl ?_
    exact kk z y y3 ga go (LI_m hI hR hY hRy3 hCW (MI_y hMI ey3) (by omega) rfl rfl)
  · obtain ⟨r_, hga, hre⟩ := hk0 h0
    obtain ⟨rfl, ez2, hRz2, hRy2, hCW2⟩ := hre
    subst z2
    obtain ⟨rfl, ez3, hMI3⟩ := hb h0
    subst z3
    refine r_aload_n G 5 dL_law_1175 rfl ?_
    refine r_iconst G dL_law_1176 ?_
    refine r_lald (f := ga) G 0 rfl dL_law_1177 ?_
    rw [hga]
    refine r_iload G 0 dL_law_1178 rfl ?_
    refine r_lbool G dL_law_1180 dL_law_1183 dL_law_1184 dL_law_1187 ?_
    refine r_lcmp_same G dL_law_1188 ?_
    refine r_ifeq_0 (tgt := 1194) G dL_law_1189 (by decide) ?_
    refine r_goto (tgt := 2128) G dL_law_1194 (by decide) ?_
    refine r_sub (Lv' := lL b (a1 0) (a2 40) ao aD (5 * (n : Int))) [2, 3, 4, 5, 6, 7] rfl ?_
    exact kk _ y2 y3 ga go (LI_m hI hRz2 hRy2 hRy3 hCW2 hMI3 (by rw [LrpF_k _ _ _ _ ⟨by decide, by decide⟩]; omega) (LrpF_k _ _ _ _ ⟨by decide, by decide⟩) (LrpF_k _ _ _ _ ⟨by decide, by decide⟩))
set_option maxHeartbeats 4000000 in
set_option maxRecDepth 100000 in
theorem lcase_14 (l : Launch) (hst : l.stackTraces = false) {p : Program} {e : Env} {s : State} {m : MethodId} {below : List Frame} {meth : Method} {c : Code} {D : va_G} {aC : Nat → ClassId} {a1 a2 : Nat → Nat} {ao aD b L : Nat} {xs : Nat → Int32} {Q : State → Prop} (G : lG p s m #[.ref b] meth c cL_law RL 9 D aC (lA s)) (hTh : wTh (lA s) s s.heap) (hNo : wNo s) (hX : va_X b L xs s s.heap) (hbl : b < s.heap.size) (hL : L ≤ 2560) {z y y' : wZ} {n : Nat} (hI : LI n z y y') (hn : 5 * n + 5 ≤ L) {fo : Nat → Int64} {go : Nat → UInt64} (kk : ∀ (z2 y2 y3 : wZ) (fo : Nat → Int64) (go : Nat → UInt64), LI (n + 1) z2 y2 y3 → JR p l e room_1 s m #[.ref b] below meth c 9 D (lA s) Q (100 + 5 * n + 5) (3000 + 30 * n + 30) (lW aC a1 a2 ao aD fo go (zc z2 y2) (zc z2 y3)) 2128 (lL b (a1 0) (a2 40) ao aD (5 * (n : Int))) []) : JR p l e room_1 s m #[.ref b] below meth c 9 D (lA s) Q (100 + 5 * n) (3000 + 30 * n) (lW aC a1 a2 ao aD fo go (zc z y) (zc z y')) 1197 (lL b (a1 0) (a2 40) ao aD (5 * (n : Int))) [] := by
  obtain ⟨hR, hY, hY3, hCW, hMI, h6, h29⟩ := id hI
  have hWF := hCW.1
  obtain ⟨x1, e1, r1⟩ := sx_ex (xs (5 * n + 1))
  refine r_aload_n G 1 dL_law_1197 rfl ?_
  refine r_scr (jn := 1) G hX hbl rfl (by omega) hL e1 0 5 rfl rfl dL_law_1198 dL_law_1199 dL_law_1201 dL_law_1202 dL_law_1203 ?_
  refine r_aload_n G 3 dL_law_1204 rfl ?_
  refine r_ws (lW_L _ _ _ _ _ _ _ _ _) ?_
  refine r_calls (w0 := []) (w2 := [(aD, oD aC go)] ++ (wd aC a2 shM (zc z y') ++ [])) (wx := [(ao, oL aC fo)] ++ (wd aC a1 shC (zc z y) ++ [])) (As := [.ref (a1 0), vi x1, .ref ao]) (st := []) (y0 := yL_trust) (idx := 178) G hTh hNo KW_trust (fun _ => lw_trust l hst hR hY hCW x1 r1) rfl ⟨rfl, rfl, Nat.le_of_ble_eq_true rfl, Nat.le_of_ble_eq_true rfl⟩ ⟨by show 100 + 5 * n + 5 ≤ 3162; omega, by show 3000 + 30 * n + 30 ≤ 121779; omega⟩ (Nat.le_of_ble_eq_true rfl) dL_law_1205 (fun i9 wx9 hp => ?_)
  obtain ⟨ga, z2, y2, rfl, rfl, hk0, hk1⟩ := hp
  refine r_ws (lW_L _ _ _ _ _ _ _ _ _).symm ?_
  refine r_istore (Lv' := [(6, vi (kcW x1)), (0, .ref b), (1, .ref (a1 0)), (2, .ref (a2 40)), (3, .ref ao), (4, .ref aD), (5, vi (5 * (n : Int)))]) G dL_law_1208 (by decide) rfl ?_
  refine r_aload_n G 3 dL_law_1210 rfl ?_
  refine r_scr (jn := 1) G hX hbl rfl (by omega) hL e1 1 6 rfl rfl dL_law_1211 dL_law_1212 dL_law_1214 dL_law_1215 dL_law_1216 ?_
  refine r_ws (lW_M _ _ _ _ _ _ _ _ _) ?_
  refine r_calli (w0 := [(ao, oL aC ga)] ++ (wd aC a1 shC (zc z2 y2) ++ [(aD, oD aC go)])) (w2 := []) (ad := a2) (sh := shM) (z := z) (y := y') (q0 := 0) (nb := 40) (As := [vi x1]) (st := []) (y0 := yX8_trust) (idx := 180) (C := RX8) G KM_trust (fun hd => m_trust l hd hR hY3 x1 r1) rfl rfl rfl ⟨rfl, rfl, Nat.le_of_ble_eq_true rfl, Nat.le_of_ble_eq_true rfl⟩ ⟨by show 100 + 5 * n + 5 ≤ 3162; omega, by show 3000 + 30 * n + 30 ≤ 121779; omega⟩ (Nat.le_of_ble_eq_true rfl) dL_law_1217 (fun b9 z3 y3 hp => ?_)
  obtain ⟨ez3, e71, hb, hRy3, hfr⟩ := hp
  subst z3
  have hRz3 := hR
  refine r_ws (lW_M _ _ _ _ _ _ _ _ _).symm ?_
  refine r_istore (Lv' := [(7, vi b9), (6, vi (kcW x1)), (0, .ref b), (1, .ref (a1 0)), (2, .ref (a2 40)), (3, .ref ao), (4, .ref aD), (5, vi (5 * (n : Int)))]) G dL_law_1220 (by decide) rfl ?_
  refine r_aload_n G 4 dL_law_1222 rfl ?_
  refine r_ws (lW_M _ _ _ _ _ _ _ _ _) ?_
  refine r_calli (w0 := [(ao, oL aC ga)] ++ (wd aC a1 shC (zc z2 y2) ++ [(aD, oD aC go)])) (w2 := []) (ad := a2) (sh := shM) (z := z) (y := y3) (q0 := 0) (nb := 40) (As := []) (st := []) (y0 := yX8_thrown) (idx := 130) (C := RX8) G KM_thrown (fun hd => m_thrown l hd hRz3 hRy3) rfl rfl rfl ⟨rfl, rfl, Nat.le_of_ble_eq_true rfl, Nat.le_of_ble_eq_true rfl⟩ ⟨by show 100 + 5 * n + 5 ≤ 3162; omega, by show 3000 + 30 * n + 30 ≤ 121779; omega⟩ (Nat.le_of_ble_eq_true rfl) dL_law_1223 (fun b8 z4 y4 hp => ?_)
  obtain ⟨rfl, ez4, ey4⟩ := hp
  subst z4
  subst y4
  rw [e71]
  refine r_ws (lW_M _ _ _ _ _ _ _ _ _).symm ?_
  refine r_iload G 1 dL_law_1226 rfl ?_
  refine r_icmp_same (tgt := 1233) G dL_law_1228 (by decide) ?_
  refine r_iload G 1 dL_law_1233 rfl ?_
  refine r_ifne_i (tgt := 1250) G dL_law_1235 (by decide) (by unfold kcW; (repeat' split) <;> omega) (fun h0 => ?_) (fun h0 => ?_)
  · obtain ⟨ez2, ey2⟩ := hk1 h0
    subst z2
    subst y2
    refine r_goto (tgt := 2128) G dL_law_1250 (by decide) ?_
    refine r_sub (Lv' := lL b (a1 0) (a2 40) ao aD (5 * (n : Int))) [2, 3, 4, 5, 6, 7] rfl ?_
    exact kk z y y3 ga go (LI_q hI hRy3 hfr)
  · obtain ⟨r_, hga, hre⟩ := hk0 h0
    obtain ⟨rfl, ez2, ey2⟩ := hre
    subst z2
    subst y2
    obtain rfl := hb h0
    refine r_aload_n G 5 dL_law_1238 rfl ?_
    refine r_iconst G dL_law_1239 ?_
    refine r_lald (f := ga) G 0 rfl dL_law_1240 ?_
    rw [hga]
    refine r_iload G 0 dL_law_1241 rfl ?_
    refine r_i2l G dL_law_1243 ?_
    refine r_lcmp_same G dL_law_1244 ?_
    refine r_ifeq_0 (tgt := 1250) G dL_law_1245 (by decide) ?_
    refine r_goto (tgt := 2128) G dL_law_1250 (by decide) ?_
    refine r_sub (Lv' := lL b (a1 0) (a2 40) ao aD (5 * (n : Int))) [2, 3, 4, 5, 6, 7] rfl ?_
    exact kk z y y3 ga go (LI_q hI hRy3 hfr)
set_option maxHeartbeats 4000000 in
set_option maxRecDepth 100000 in
theorem lcase_15 (l : Launch) (hst : l.stackTraces = false) {p : Program} {e : Env} {s : State} {m : MethodId} {below : List Frame} {meth : Method} {c : Code} {D : va_G} {aC : Nat → ClassId} {a1 a2 : Nat → Nat} {ao aD b L : Nat} {xs : Nat → Int32} {Q : State → Prop} (G : lG p s m #[.ref b] meth c cL_law RL 9 D aC (lA s)) (hTh : wTh (lA s) s s.heap) (hNo : wNo s) (hX : va_X b L xs s s.heap) (hbl : b < s.heap.size) (hL : L ≤ 2560) {z y y' : wZ} {n : Nat} (hI : LI n z y y') (hn : 5 * n + 5 ≤ L) {fo : Nat → Int64} {go : Nat → UInt64} (kk : ∀ (z2 y2 y3 : wZ) (fo : Nat → Int64) (go : Nat → UInt64), LI (n + 1) z2 y2 y3 → JR p l e room_1 s m #[.ref b] below meth c 9 D (lA s) Q (100 + 5 * n + 5) (3000 + 30 * n + 30) (lW aC a1 a2 ao aD fo go (zc z2 y2) (zc z2 y3)) 2128 (lL b (a1 0) (a2 40) ao aD (5 * (n : Int))) []) : JR p l e room_1 s m #[.ref b] below meth c 9 D (lA s) Q (100 + 5 * n) (3000 + 30 * n) (lW aC a1 a2 ao aD fo go (zc z y) (zc z y')) 1253 (lL b (a1 0) (a2 40) ao aD (5 * (n : Int))) [] := by
  obtain ⟨hR, hY, hY3, hCW, hMI, h6, h29⟩ := id hI
  have hWF := hCW.1
  obtain ⟨x1, e1, r1⟩ := sx_ex (xs (5 * n + 1))
  refine r_aload_n G 1 dL_law_1253 rfl ?_
  refine r_scr (jn := 1) G hX hbl rfl (by omega) hL e1 0 5 rfl rfl dL_law_1254 dL_law_1255 dL_law_1257 dL_law_1258 dL_law_1259 ?_
  refine r_aload_n G 3 dL_law_1260 rfl ?_
  refine r_ws (lW_L _ _ _ _ _ _ _ _ _) ?_
  refine r_calls (w0 := []) (w2 := [(aD, oD aC go)] ++ (wd aC a2 shM (zc z y') ++ [])) (wx := [(ao, oL aC fo)] ++ (wd aC a1 shC (zc z y) ++ [])) (As := [.ref (a1 0), vi x1, .ref ao]) (st := []) (y0 := yL_reports) (idx := 181) G hTh hNo KW_reports (fun _ => lw_reports l hst hR hY hCW x1 r1) rfl ⟨rfl, rfl, Nat.le_of_ble_eq_true rfl, Nat.le_of_ble_eq_true rfl⟩ ⟨by show 100 + 5 * n + 5 ≤ 3162; omega, by show 3000 + 30 * n + 30 ≤ 121779; omega⟩ (Nat.le_of_ble_eq_true rfl) dL_law_1261 (fun i9 wx9 hp => ?_)
  obtain ⟨ga, z2, y2, rfl, rfl, hk0, hk1⟩ := hp
  refine r_ws (lW_L _ _ _ _ _ _ _ _ _).symm ?_
  refine r_istore (Lv' := [(6, vi (kcT z x1)), (0, .ref b), (1, .ref (a1 0)), (2, .ref (a2 40)), (3, .ref ao), (4, .ref aD), (5, vi (5 * (n : Int)))]) G dL_law_1264 (by decide) rfl ?_
  refine r_aload_n G 3 dL_law_1266 rfl ?_
  refine r_scr (jn := 1) G hX hbl rfl (by omega) hL e1 1 6 rfl rfl dL_law_1267 dL_law_1268 dL_law_1270 dL_law_1271 dL_law_1272 ?_
  refine r_ws (lW_M _ _ _ _ _ _ _ _ _) ?_
  refine r_calli (w0 := [(ao, oL aC ga)] ++ (wd aC a1 shC (zc z2 y2) ++ [(aD, oD aC go)])) (w2 := []) (ad := a2) (sh := shM) (z := z) (y := y') (q0 := 0) (nb := 40) (As := [vi x1]) (st := []) (y0 := yX8_reports) (idx := 183) (C := RX8) G KM_reports (fun hd => m_reports l hd hR hY3 x1 r1 hMI) rfl rfl rfl ⟨rfl, rfl, Nat.le_of_ble_eq_true rfl, Nat.le_of_ble_eq_true rfl⟩ ⟨by show 100 + 5 * n + 5 ≤ 3162; omega, by show 3000 + 30 * n + 30 ≤ 121779; omega⟩ (Nat.le_of_ble_eq_true rfl) dL_law_1273 (fun b9 z3 y3 hp => ?_)
  obtain ⟨ez3, e71, hb, hRy3, hfr⟩ := hp
  subst z3
  have hRz3 := hR
  refine r_ws (lW_M _ _ _ _ _ _ _ _ _).symm ?_
  refine r_istore (Lv' := [(7, vi b9), (6, vi (kcT z x1)), (0, .ref b), (1, .ref (a1 0)), (2, .ref (a2 40)), (3, .ref ao), (4, .ref aD), (5, vi (5 * (n : Int)))]) G dL_law_1276 (by decide) rfl ?_
  refine r_aload_n G 4 dL_law_1278 rfl ?_
  refine r_ws (lW_M _ _ _ _ _ _ _ _ _) ?_
  refine r_calli (w0 := [(ao, oL aC ga)] ++ (wd aC a1 shC (zc z2 y2) ++ [(aD, oD aC go)])) (w2 := []) (ad := a2) (sh := shM) (z := z) (y := y3) (q0 := 0) (nb := 40) (As := []) (st := []) (y0 := yX8_thrown) (idx := 130) (C := RX8) G KM_thrown (fun hd => m_thrown l hd hRz3 hRy3) rfl rfl rfl ⟨rfl, rfl, Nat.le_of_ble_eq_true rfl, Nat.le_of_ble_eq_true rfl⟩ ⟨by show 100 + 5 * n + 5 ≤ 3162; omega, by show 3000 + 30 * n + 30 ≤ 121779; omega⟩ (Nat.le_of_ble_eq_true rfl) dL_law_1279 (fun b8 z4 y4 hp => ?_)
  obtain ⟨rfl, ez4, ey4⟩ := hp
  subst z4
  subst y4
  rw [e71]
  refine r_ws (lW_M _ _ _ _ _ _ _ _ _).symm ?_
  refine r_iload G 1 dL_law_1282 rfl ?_
  refine r_icmp_same (tgt := 1289) G dL_law_1284 (by decide) ?_
  refine r_iload G 1 dL_law_1289 rfl ?_
  refine r_ifne_i (tgt := 1306) G dL_law_1291 (by decide) (by unfold kcT; (repeat' split) <;> omega) (fun h0 => ?_) (fun h0 => ?_)
  · obtain ⟨ez2, ey2⟩ := hk1 h0
    subst z2
    subst y2
    refine r_goto (tgt := 2128) G dL_law_1306 (by decide) ?_
    refine r_sub (Lv' := lL b (a1 0) (a2 40) ao aD (5 * (n : Int))) [2, 3, 4, 5, 6, 7] rfl ?_
    exact kk z y y3 ga go (LI_q hI hRy3 hfr)
  · obtain ⟨r_, hga, hre⟩ := hk0 h0
    obtain ⟨rfl, ez2, ey2⟩ := hre
    subst z2
    subst y2
    obtain rfl := hb h0
    refine r_aload_n G 5 dL_law_1294 rfl ?_
    refine r_iconst G dL_law_1295 ?_
    refine r_lald (f := ga) G 0 rfl dL_law_1296 ?_
    rw [hga]
    refine r_iload G 0 dL_law_1297 rfl ?_
    refine r_i2l G dL_law_1299 ?_
    refine r_lcmp_same G dL_law_1300 ?_
    refine r_ifeq_0 (tgt := 1306) G dL_law_1301 (by decide) ?_
    refine r_goto (tgt := 2128) G dL_law_1306 (by decide) ?_
    refine r_sub (Lv' := lL b (a1 0) (a2 40) ao aD (5 * (n : Int))) [2, 3, 4, 5, 6, 7] rfl ?_
    exact kk z y y3 ga go (LI_q hI hRy3 hfr)
