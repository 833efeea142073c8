/-! THE LAW'S WRAPPERS -/
-- one contract each
theorem KC_addFork : wCV RL 7 RX7 yX7_addFork cX7_addFork 2 (some (.int)) 1 := ⟨⟨ml_L_7, im_X7_addFork, se_X7_addFork, in_X7, co_X7_addFork⟩, rfl, by decide +kernel, by decide +kernel, by decide +kernel⟩
set_option maxHeartbeats 4000000 in
set_option maxRecDepth 100000 in
theorem lw_addFork (l : Launch) (hst : l.stackTraces = false) {D : va_G} {aC : Nat → ClassId} {ad : Nat → Nat} {z y : wZ} {ao : Nat} {fo : Nat → Int64} (hR : Rng z) (hY : Rng y) (hI_z_y : CW z y) (v : Int) (hv : -2147483648 ≤ v ∧ v ≤ 2147483647) (hv2 : v = 0 ∨ v = 1) : lM l D aC yL_addFork cL_addFork 4 [(0, 9, 12, 13)] (rmX 8 5 30) [.ref (ad 0), vi v, .ref ao] ([(ao, oL aC fo)] ++ (wd aC ad shC (zc z y) ++ [])) (fun i9 u9 => ∃ (go : Nat → Int64) (z2 y2 : wZ), u9 = [(ao, oL aC go)] ++ (wd aC ad shC (zc z2 y2) ++ []) ∧ i9 = kcAF z ∧ (kcAF z = 0 → ∃ r_ : Int, go 0 = (Int32.ofInt r_).toInt64 ∧ r_ = z 0 0 ∧ z2 = afF z v ∧ Rng z2 ∧ Rng y2 ∧ CW z2 y2) ∧ (kcAF z ≠ 0 → z2 = z ∧ y2 = y)) 5 30 := by
  refine lM_of [(0, .ref (ad 0)), (1, vi v), (2, .ref ao)] (by decide +kernel) (Nat.le_of_ble_eq_true rfl) rfl ?_
  intro p e s m args below meth c A G hex hrt hTh hNo
  refine r_aload_n G 2 dL_addFork_0 rfl ?_
  refine r_iconst G dL_addFork_1 ?_
  refine r_aload_n G 0 dL_addFork_2 rfl ?_
  refine r_iload_n G 1 dL_addFork_3 rfl ?_
  refine r_xcalli (w0 := [(ao, oL aC fo)]) (w2 := []) (q0 := 0) (As := [vi v]) (st := [vi 0, .ref ao]) (y0 := yX7_addFork) (idx := 7) (C := RX7) G hTh KC_addFork (post := (fun r_ z2 y2 => kcAF z = 0 ∧ r_ = z 0 0 ∧ z2 = afF z v ∧ Rng z2 ∧ Rng y2 ∧ CW z2 y2)) (thr := (fun E => (E = eISE ∧ kcAF z = 1))) (fun hd => c_addFork l hst hd hR hY hI_z_y v hv hv2) rfl rfl rfl (xrm_ok (by decide) (by decide)) ⟨Nat.le_of_ble_eq_true rfl, Nat.le_of_ble_eq_true rfl⟩ (Nat.le_of_ble_eq_true rfl) dL_addFork_4 (fun E hE => ?_) (fun r9 z2 y2 hp => ?_)
  · obtain ⟨rfl, hk⟩ := hE
    refine r_catch G hTh (name := eISE) (by decide +kernel) [] ⟨0, 9, 12, 13⟩ [] (hex.trans rfl) (fun _ h => absurd h List.not_mem_nil) (by decide) (by decide) cl_L_13 rfl (fun q9 => ?_)
    refine r_astore_n (Lv' := [(3, .ref q9), (0, .ref (ad 0)), (1, vi v), (2, .ref ao)]) G dL_addFork_12 (by decide) rfl ?_
    refine r_iconst G dL_addFork_13 ?_
    exact r_iret G hrt ⟨Nat.le_of_ble_eq_true rfl, Nat.le_of_ble_eq_true rfl⟩ dL_addFork_14 ⟨fo, z, y, rfl, hk.symm, fun h0 => absurd (hk.symm.trans h0) (by decide), fun _ => ⟨rfl, rfl⟩⟩
  · obtain ⟨hk, hp⟩ := hp
    refine r_i2l G dL_addFork_7 ?_
    refine r_last (ws' := fun g => [(ao, oL aC g)] ++ (wd aC ad shC (zc z2 y2) ++ [])) G 0 rfl (fun _ _ => rfl) dL_addFork_8 (fun go hgo => ?_)
    refine r_goto (tgt := 15) G dL_addFork_9 (by decide) ?_
    refine r_iconst G dL_addFork_15 ?_
    exact r_iret G hrt ⟨Nat.le_of_ble_eq_true rfl, Nat.le_of_ble_eq_true rfl⟩ dL_addFork_16 ⟨go, z2, y2, rfl, hk.symm, fun _ => ⟨r9, hgo, hp⟩, fun h => absurd hk h⟩
theorem KC_addTrail : wCV RL 15 RX7 yX7_addTrail cX7_addTrail 5 (some (.int)) 4 := ⟨⟨ml_L_15, im_X7_addTrail, se_X7_addTrail, in_X7, co_X7_addTrail⟩, rfl, by decide +kernel, by decide +kernel, by decide +kernel⟩
set_option maxHeartbeats 4000000 in
set_option maxRecDepth 100000 in
theorem lw_addTrail (l : Launch) (hst : l.stackTraces = false) {D : va_G} {aC : Nat → ClassId} {ad : Nat → Nat} {z y : wZ} {ao : Nat} {fo : Nat → Int64} (hR : Rng z) (hY : Rng y) (hI_z_y : CW z y) (a : Int) (b : Int) (t : Int) (g : Int) (ha : -2147483648 ≤ a ∧ a ≤ 2147483647) (hb : -2147483648 ≤ b ∧ b ≤ 2147483647) (ht : -2147483648 ≤ t ∧ t ≤ 2147483647) (hg : -2147483648 ≤ g ∧ g ≤ 2147483647) : lM l D aC yL_addTrail cL_addTrail 7 [(0, 14, 17, 19), (0, 14, 21, 21), (0, 14, 25, 13)] (rmX 8 5 30) [.ref (ad 0), vi a, vi b, vi t, vi g, .ref ao] ([(ao, oL aC fo)] ++ (wd aC ad shC (zc z y) ++ [])) (fun i9 u9 => ∃ (go : Nat → Int64) (z2 y2 : wZ), u9 = [(ao, oL aC go)] ++ (wd aC ad shC (zc z2 y2) ++ []) ∧ i9 = kcAT z a b t g ∧ (kcAT z a b t g = 0 → ∃ r_ : Int, go 0 = (Int32.ofInt r_).toInt64 ∧ r_ = z 1 0 ∧ z2 = jnF z a b t g ∧ Rng z2 ∧ Rng y2 ∧ CW z2 y2) ∧ (kcAT z a b t g ≠ 0 → z2 = z ∧ y2 = y)) 5 30 := by
  refine lM_of [(0, .ref (ad 0)), (1, vi a), (2, vi b), (3, vi t), (4, vi g), (5, .ref ao)] (by decide +kernel) (Nat.le_of_ble_eq_true rfl) rfl ?_
  intro p e s m args below meth c A G hex hrt hTh hNo
  refine r_aload G 5 dL_addTrail_0 rfl ?_
  refine r_iconst G dL_addTrail_2 ?_
  refine r_aload_n G 0 dL_addTrail_3 rfl ?_
  refine r_iload_n G 1 dL_addTrail_4 rfl ?_
  refine r_iload_n G 2 dL_addTrail_5 rfl ?_
  refine r_iload_n G 3 dL_addTrail_6 rfl ?_
  refine r_iload G 4 dL_addTrail_7 rfl ?_
  refine r_xcalli (w0 := [(ao, oL aC fo)]) (w2 := []) (q0 := 0) (As := [vi a, vi b, vi t, vi g]) (st := [vi 0, .ref ao]) (y0 := yX7_addTrail) (idx := 15) (C := RX7) G hTh KC_addTrail (post := (fun r_ z2 y2 => kcAT z a b t g = 0 ∧ r_ = z 1 0 ∧ z2 = jnF z a b t g ∧ Rng z2 ∧ Rng y2 ∧ CW z2 y2)) (thr := (fun E => (E = eIOB ∧ kcAT z a b t g = 1) ∨ (E = eIAE ∧ kcAT z a b t g = 2) ∨ (E = eISE ∧ kcAT z a b t g = 3))) (fun hd => c_addTrail l hst hd hR hY hI_z_y a b t g ha hb ht hg) rfl rfl rfl (xrm_ok (by decide) (by decide)) ⟨Nat.le_of_ble_eq_true rfl, Nat.le_of_ble_eq_true rfl⟩ (Nat.le_of_ble_eq_true rfl) dL_addTrail_9 (fun E hE => ?_) (fun r9 z2 y2 hp => ?_)
  · rcases hE with ⟨rfl, hk⟩ | ⟨rfl, hk⟩ | ⟨rfl, hk⟩
    · refine r_catch G hTh (name := eIOB) (by decide +kernel) [] ⟨0, 14, 17, 19⟩ [⟨0, 14, 21, 21⟩, ⟨0, 14, 25, 13⟩] (hex.trans rfl) (fun _ h => absurd h List.not_mem_nil) (by decide) (by decide) cl_L_19 rfl (fun q9 => ?_)
      refine r_astore (Lv' := [(6, .ref q9), (0, .ref (ad 0)), (1, vi a), (2, vi b), (3, vi t), (4, vi g), (5, .ref ao)]) G dL_addTrail_17 (by decide) rfl ?_
      refine r_iconst G dL_addTrail_19 ?_
      exact r_iret G hrt ⟨Nat.le_of_ble_eq_true rfl, Nat.le_of_ble_eq_true rfl⟩ dL_addTrail_20 ⟨fo, z, y, rfl, hk.symm, fun h0 => absurd (hk.symm.trans h0) (by decide), fun _ => ⟨rfl, rfl⟩⟩
    · refine r_catch G hTh (name := eIAE) (by decide +kernel) [⟨0, 14, 17, 19⟩] ⟨0, 14, 21, 21⟩ [⟨0, 14, 25, 13⟩] (hex.trans rfl) (List.forall_mem_cons.mpr ⟨Or.inr ⟨by decide, eIOB, cl_L_19, hNo eIAE (by decide +kernel) eIOB (by decide +kernel) (by decide +kernel)⟩, fun _ h => absurd h List.not_mem_nil⟩) (by decide) (by decide) cl_L_21 rfl (fun q9 => ?_)
      refine r_astore (Lv' := [(6, .ref q9), (0, .ref (ad 0)), (1, vi a), (2, vi b), (3, vi t), (4, vi g), (5, .ref ao)]) G dL_addTrail_21 (by decide) rfl ?_
      refine r_iconst G dL_addTrail_23 ?_
      exact r_iret G hrt ⟨Nat.le_of_ble_eq_true rfl, Nat.le_of_ble_eq_true rfl⟩ dL_addTrail_24 ⟨fo, z, y, rfl, hk.symm, fun h0 => absurd (hk.symm.trans h0) (by decide), fun _ => ⟨rfl, rfl⟩⟩
    · refine r_catch G hTh (name := eISE) (by decide +kernel) [⟨0, 14, 17, 19⟩, ⟨0, 14, 21, 21⟩] ⟨0, 14, 25, 13⟩ [] (hex.trans rfl) (List.forall_mem_cons.mpr ⟨Or.inr ⟨by decide, eIOB, cl_L_19, hNo eISE (by decide +kernel) eIOB (by decide +kernel) (by decide +kernel)⟩, List.forall_mem_cons.mpr ⟨Or.inr ⟨by decide, eIAE, cl_L_21, hNo eISE (by decide +kernel) eIAE (by decide +kernel) (by decide +kernel)⟩, fun _ h => absurd h List.not_mem_nil⟩⟩) (by decide) (by decide) cl_L_13 rfl (fun q9 => ?_)
      refine r_astore (Lv' := [(6, .ref q9), (0, .ref (ad 0)), (1, vi a), (2, vi b), (3, vi t), (4, vi g), (5, .ref ao)]) G dL_addTrail_25 (by decide) rfl ?_
      refine r_iconst G dL_addTrail_27 ?_
      exact r_iret G hrt ⟨Nat.le_of_ble_eq_true rfl, Nat.le_of_ble_eq_true rfl⟩ dL_addTrail_28 ⟨fo, z, y, rfl, hk.symm, fun h0 => absurd (hk.symm.trans h0) (by decide), fun _ => ⟨rfl, rfl⟩⟩
  · obtain ⟨hk, hp⟩ := hp
    refine r_i2l G dL_addTrail_12 ?_
    refine r_last (ws' := fun g => [(ao, oL aC g)] ++ (wd aC ad shC (zc z2 y2) ++ [])) G 0 rfl (fun _ _ => rfl) dL_addTrail_13 (fun go hgo => ?_)
    refine r_goto (tgt := 29) G dL_addTrail_14 (by decide) ?_
    refine r_iconst G dL_addTrail_29 ?_
    exact r_iret G hrt ⟨Nat.le_of_ble_eq_true rfl, Nat.le_of_ble_eq_true rfl⟩ dL_addTrail_30 ⟨go, z2, y2, rfl, hk.symm, fun _ => ⟨r9, hgo, hp⟩, fun h => absurd hk h⟩
theorem KC_washOut : wCV RL 23 RX7 yX7_washOut cX7_washOut 3 (some (.boolean)) 1 := ⟨⟨ml_L_23, im_X7_washOut, se_X7_washOut, in_X7, co_X7_washOut⟩, rfl, by decide +kernel, by decide +kernel, by decide +kernel⟩
set_option maxHeartbeats 4000000 in
set_option maxRecDepth 100000 in
theorem lw_washOut (l : Launch) (hst : l.stackTraces = false) {D : va_G} {aC : Nat → ClassId} {ad : Nat → Nat} {z y : wZ} {ao : Nat} {fo : Nat → Int64} (hR : Rng z) (hY : Rng y) (hI_z_y : CW z y) (t : Int) (ht : -2147483648 ≤ t ∧ t ≤ 2147483647) : lM l D aC yL_washOut cL_washOut 4 [(0, 16, 19, 19)] (rmX 8 5 30) [.ref (ad 0), vi t, .ref ao] ([(ao, oL aC fo)] ++ (wd aC ad shC (zc z y) ++ [])) (fun i9 u9 => ∃ (go : Nat → Int64) (z2 y2 : wZ), u9 = [(ao, oL aC go)] ++ (wd aC ad shC (zc z2 y2) ++ []) ∧ i9 = kcT z t ∧ (kcT z t = 0 → ∃ r_ : Int, go 0 = gZ (Int32.ofInt r_) ∧ r_ = 1 - z 15 t ∧ z2 = zp z 15 t 1 ∧ Rng z2 ∧ Rng y2 ∧ CW z2 y2) ∧ (kcT z t ≠ 0 → z2 = z ∧ y2 = y)) 5 30 := by
  refine lM_of [(0, .ref (ad 0)), (1, vi t), (2, .ref ao)] (by decide +kernel) (Nat.le_of_ble_eq_true rfl) rfl ?_
  intro p e s m args below meth c A G hex hrt hTh hNo
  refine r_aload_n G 2 dL_washOut_0 rfl ?_
  refine r_iconst G dL_washOut_1 ?_
  refine r_aload_n G 0 dL_washOut_2 rfl ?_
  refine r_iload_n G 1 dL_washOut_3 rfl ?_
  refine r_xcalli (w0 := [(ao, oL aC fo)]) (w2 := []) (q0 := 0) (As := [vi t]) (st := [vi 0, .ref ao]) (y0 := yX7_washOut) (idx := 23) (C := RX7) G hTh KC_washOut (post := (fun r_ z2 y2 => kcT z t = 0 ∧ r_ = 1 - z 15 t ∧ z2 = zp z 15 t 1 ∧ Rng z2 ∧ Rng y2 ∧ CW z2 y2)) (thr := (fun E => (E = eIOB ∧ kcT z t = 1))) (fun hd => c_washOut l hst hd hR hY hI_z_y t ht) rfl rfl rfl (xrm_ok (by decide) (by decide)) ⟨Nat.le_of_ble_eq_true rfl, Nat.le_of_ble_eq_true rfl⟩ (Nat.le_of_ble_eq_true rfl) dL_washOut_4 (fun E hE => ?_) (fun r9 z2 y2 hp => ?_)
  · obtain ⟨rfl, hk⟩ := hE
    refine r_catch G hTh (name := eIOB) (by decide +kernel) [] ⟨0, 16, 19, 19⟩ [] (hex.trans rfl) (fun _ h => absurd h List.not_mem_nil) (by decide) (by decide) cl_L_19 rfl (fun q9 => ?_)
    refine r_astore_n (Lv' := [(3, .ref q9), (0, .ref (ad 0)), (1, vi t), (2, .ref ao)]) G dL_washOut_19 (by decide) rfl ?_
    refine r_iconst G dL_washOut_20 ?_
    exact r_iret G hrt ⟨Nat.le_of_ble_eq_true rfl, Nat.le_of_ble_eq_true rfl⟩ dL_washOut_21 ⟨fo, z, y, rfl, hk.symm, fun h0 => absurd (hk.symm.trans h0) (by decide), fun _ => ⟨rfl, rfl⟩⟩
  · obtain ⟨hk, hp⟩ := hp
    refine r_lbool G dL_washOut_7 dL_washOut_10 dL_washOut_11 dL_washOut_14 ?_
    refine r_last (ws' := fun g => [(ao, oL aC g)] ++ (wd aC ad shC (zc z2 y2) ++ [])) G 0 rfl (fun _ _ => rfl) dL_washOut_15 (fun go hgo => ?_)
    refine r_goto (tgt := 22) G dL_washOut_16 (by decide) ?_
    refine r_iconst G dL_washOut_22 ?_
    exact r_iret G hrt ⟨Nat.le_of_ble_eq_true rfl, Nat.le_of_ble_eq_true rfl⟩ dL_washOut_23 ⟨go, z2, y2, rfl, hk.symm, fun _ => ⟨r9, hgo, hp⟩, fun h => absurd hk h⟩
theorem c_isGone_v (l : Launch) (hst : l.stackTraces = false) {D : va_G} {aC : Nat → ClassId} {ad : Nat → Nat} (hd : wDi ad shC) {z y : wZ} (hR : Rng z) (hY : Rng y) (hI_z_y : CW z y) (t : Int) (ht : -2147483648 ≤ t ∧ t ≤ 2147483647) (v : Int) (hv : v = 0 ∨ v = 1) : xMi l D aC ad shC yX7_isGone cX7_isGone 3 (.boolean) (rmX 7 1 6) [.ref (ad 0), vi t, vi v] z y (fun r_ z2 y2 => kcT z t = 0 ∧ r_ = z (vb v) t ∧ z2 = z ∧ y2 = y) (fun E => (E = eIOB ∧ kcT z t = 1)) 1 6 := by
  rcases hv with rfl | rfl
  · rw [vb_0]; exact c_isGone_0 l hst hd hR hY hI_z_y t ht
  · rw [vb_1]; exact c_isGone_1 l hst hd hR hY hI_z_y t ht
theorem KC_isGone : wCV RL 27 RX7 yX7_isGone cX7_isGone 3 (some (.boolean)) 2 := ⟨⟨ml_L_27, im_X7_isGone, se_X7_isGone, in_X7, co_X7_isGone⟩, rfl, by decide +kernel, by decide +kernel, by decide +kernel⟩
set_option maxHeartbeats 4000000 in
set_option maxRecDepth 100000 in
theorem lw_isGone (l : Launch) (hst : l.stackTraces = false) {D : va_G} {aC : Nat → ClassId} {ad : Nat → Nat} {z y : wZ} {ao : Nat} {fo : Nat → Int64} (hR : Rng z) (hY : Rng y) (hI_z_y : CW z y) (t : Int) (ht : -2147483648 ≤ t ∧ t ≤ 2147483647) (v : Int) (hv : v = 0 ∨ v = 1) : lM l D aC yL_isGone cL_isGone 5 [(0, 17, 20, 19)] (rmX 8 5 30) [.ref (ad 0), vi t, vi v, .ref ao] ([(ao, oL aC fo)] ++ (wd aC ad shC (zc z y) ++ [])) (fun i9 u9 => ∃ (go : Nat → Int64) (z2 y2 : wZ), u9 = [(ao, oL aC go)] ++ (wd aC ad shC (zc z2 y2) ++ []) ∧ i9 = kcT z t ∧ (kcT z t = 0 → ∃ r_ : Int, go 0 = gZ (Int32.ofInt r_) ∧ r_ = z (vb v) t ∧ z2 = z ∧ y2 = y) ∧ (kcT z t ≠ 0 → z2 = z ∧ y2 = y)) 5 30 := by
  refine lM_of [(0, .ref (ad 0)), (1, vi t), (2, vi v), (3, .ref ao)] (by decide +kernel) (Nat.le_of_ble_eq_true rfl) rfl ?_
  intro p e s m args below meth c A G hex hrt hTh hNo
  refine r_aload_n G 3 dL_isGone_0 rfl ?_
  refine r_iconst G dL_isGone_1 ?_
  refine r_aload_n G 0 dL_isGone_2 rfl ?_
  refine r_iload_n G 1 dL_isGone_3 rfl ?_
  refine r_iload_n G 2 dL_isGone_4 rfl ?_
  refine r_xcalli (w0 := [(ao, oL aC fo)]) (w2 := []) (q0 := 0) (As := [vi t, vi v]) (st := [vi 0, .ref ao]) (y0 := yX7_isGone) (idx := 27) (C := RX7) G hTh KC_isGone (post := (fun r_ z2 y2 => kcT z t = 0 ∧ r_ = z (vb v) t ∧ z2 = z ∧ y2 = y)) (thr := (fun E => (E = eIOB ∧ kcT z t = 1))) (fun hd => c_isGone_v l hst hd hR hY hI_z_y t ht v hv) rfl rfl rfl (xrm_ok (by decide) (by decide)) ⟨Nat.le_of_ble_eq_true rfl, Nat.le_of_ble_eq_true rfl⟩ (Nat.le_of_ble_eq_true rfl) dL_isGone_5 (fun E hE => ?_) (fun r9 z2 y2 hp => ?_)
  · obtain ⟨rfl, hk⟩ := hE
    refine r_catch G hTh (name := eIOB) (by decide +kernel) [] ⟨0, 17, 20, 19⟩ [] (hex.trans rfl) (fun _ h => absurd h List.not_mem_nil) (by decide) (by decide) cl_L_19 rfl (fun q9 => ?_)
    refine r_astore (Lv' := [(4, .ref q9), (0, .ref (ad 0)), (1, vi t), (2, vi v), (3, .ref ao)]) G dL_isGone_20 (by decide) rfl ?_
    refine r_iconst G dL_isGone_22 ?_
    exact r_iret G hrt ⟨Nat.le_of_ble_eq_true rfl, Nat.le_of_ble_eq_true rfl⟩ dL_isGone_23 ⟨fo, z, y, rfl, hk.symm, fun h0 => absurd (hk.symm.trans h0) (by decide), fun _ => ⟨rfl, rfl⟩⟩
  · obtain ⟨hk, hp⟩ := hp
    refine r_lbool G dL_isGone_8 dL_isGone_11 dL_isGone_12 dL_isGone_15 ?_
    refine r_last (ws' := fun g => [(ao, oL aC g)] ++ (wd aC ad shC (zc z2 y2) ++ [])) G 0 rfl (fun _ _ => rfl) dL_isGone_16 (fun go hgo => ?_)
    refine r_goto (tgt := 24) G dL_isGone_17 (by decide) ?_
    refine r_iconst G dL_isGone_24 ?_
    exact r_iret G hrt ⟨Nat.le_of_ble_eq_true rfl, Nat.le_of_ble_eq_true rfl⟩ dL_isGone_25 ⟨go, z2, y2, rfl, hk.symm, fun _ => ⟨r9, hgo, hp⟩, fun h => absurd hk h⟩
theorem c_minutes_v (l : Launch) (hst : l.stackTraces = false) {D : va_G} {aC : Nat → ClassId} {ad : Nat → Nat} (hd : wDi ad shC) {z y : wZ} (hR : Rng z) (hY : Rng y) (hI_z_y : CW z y) (a : Int) (b : Int) (ha : -2147483648 ≤ a ∧ a ≤ 2147483647) (hb : -2147483648 ≤ b ∧ b ≤ 2147483647) (v : Int) (hv : v = 0 ∨ v = 1) : xMi l D aC ad shC yX7_minutes cX7_minutes 5 (.int) (rmX 7 3 18) [.ref (ad 0), vi a, vi b, vi v] z y (fun r_ z2 y2 => kcMn z (vb v) a b = 0 ∧ r_ = ds z (vb v) a b ∧ z2 = z ∧ y2 = y) (fun E => (E = eIOB ∧ kcMn z (vb v) a b = 1) ∨ (E = eNSE ∧ kcMn z (vb v) a b = 2)) 3 18 := by
  rcases hv with rfl | rfl
  · rw [vb_0]; exact c_minutes_0 l hst hd hR hY hI_z_y a b ha hb
  · rw [vb_1]; exact c_minutes_1 l hst hd hR hY hI_z_y a b ha hb
theorem KC_minutes : wCV RL 31 RX7 yX7_minutes cX7_minutes 5 (some (.int)) 3 := ⟨⟨ml_L_31, im_X7_minutes, se_X7_minutes, in_X7, co_X7_minutes⟩, rfl, by decide +kernel, by decide +kernel, by decide +kernel⟩
set_option maxHeartbeats 4000000 in
set_option maxRecDepth 100000 in
theorem lw_minutes (l : Launch) (hst : l.stackTraces = false) {D : va_G} {aC : Nat → ClassId} {ad : Nat → Nat} {z y : wZ} {ao : Nat} {fo : Nat → Int64} (hR : Rng z) (hY : Rng y) (hI_z_y : CW z y) (a : Int) (b : Int) (ha : -2147483648 ≤ a ∧ a ≤ 2147483647) (hb : -2147483648 ≤ b ∧ b ≤ 2147483647) (v : Int) (hv : v = 0 ∨ v = 1) : lM l D aC yL_minutes cL_minutes 6 [(0, 12, 15, 19), (0, 12, 19, 35)] (rmX 8 5 30) [.ref (ad 0), vi a, vi b, vi v, .ref ao] ([(ao, oL aC fo)] ++ (wd aC ad shC (zc z y) ++ [])) (fun i9 u9 => ∃ (go : Nat → Int64) (z2 y2 : wZ), u9 = [(ao, oL aC go)] ++ (wd aC ad shC (zc z2 y2) ++ []) ∧ i9 = kcMn z (vb v) a b ∧ (kcMn z (vb v) a b = 0 → ∃ r_ : Int, go 0 = (Int32.ofInt r_).toInt64 ∧ r_ = ds z (vb v) a b ∧ z2 = z ∧ y2 = y) ∧ (kcMn z (vb v) a b ≠ 0 → z2 = z ∧ y2 = y)) 5 30 := by
  refine lM_of [(0, .ref (ad 0)), (1, vi a), (2, vi b), (3, vi v), (4, .ref ao)] (by decide +kernel) (Nat.le_of_ble_eq_true rfl) rfl ?_
  intro p e s m args below meth c A G hex hrt hTh hNo
  refine r_aload G 4 dL_minutes_0 rfl ?_
  refine r_iconst G dL_minutes_2 ?_
  refine r_aload_n G 0 dL_minutes_3 rfl ?_
  refine r_iload_n G 1 dL_minutes_4 rfl ?_
  refine r_iload_n G 2 dL_minutes_5 rfl ?_
  refine r_iload_n G 3 dL_minutes_6 rfl ?_
  refine r_xcalli (w0 := [(ao, oL aC fo)]) (w2 := []) (q0 := 0) (As := [vi a, vi b, vi v]) (st := [vi 0, .ref ao]) (y0 := yX7_minutes) (idx := 31) (C := RX7) G hTh KC_minutes (post := (fun r_ z2 y2 => kcMn z (vb v) a b = 0 ∧ r_ = ds z (vb v) a b ∧ z2 = z ∧ y2 = y)) (thr := (fun E => (E = eIOB ∧ kcMn z (vb v) a b = 1) ∨ (E = eNSE ∧ kcMn z (vb v) a b = 2))) (fun hd => c_minutes_v l hst hd hR hY hI_z_y a b ha hb v hv) rfl rfl rfl (xrm_ok (by decide) (by decide)) ⟨Nat.le_of_ble_eq_true rfl, Nat.le_of_ble_eq_true rfl⟩ (Nat.le_of_ble_eq_true rfl) dL_minutes_7 (fun E hE => ?_) (fun r9 z2 y2 hp => ?_)
  · rcases hE with ⟨rfl, hk⟩ | ⟨rfl, hk⟩
    · refine r_catch G hTh (name := eIOB) (by decide +kernel) [] ⟨0, 12, 15, 19⟩ [⟨0, 12, 19, 35⟩] (hex.trans rfl) (fun _ h => absurd h List.not_mem_nil) (by decide) (by decide) cl_L_19 rfl (fun q9 => ?_)
      refine r_astore (Lv' := [(5, .ref q9), (0, .ref (ad 0)), (1, vi a), (2, vi b), (3, vi v), (4, .ref ao)]) G dL_minutes_15 (by decide) rfl ?_
      refine r_iconst G dL_minutes_17 ?_
      exact r_iret G hrt ⟨Nat.le_of_ble_eq_true rfl, Nat.le_of_ble_eq_true rfl⟩ dL_minutes_18 ⟨fo, z, y, rfl, hk.symm, fun h0 => absurd (hk.symm.trans h0) (by decide), fun _ => ⟨rfl, rfl⟩⟩
    · refine r_catch G hTh (name := eNSE) (by decide +kernel) [⟨0, 12, 15, 19⟩] ⟨0, 12, 19, 35⟩ [] (hex.trans rfl) (List.forall_mem_cons.mpr ⟨Or.inr ⟨by decide, eIOB, cl_L_19, hNo eNSE (by decide +kernel) eIOB (by decide +kernel) (by decide +kernel)⟩, fun _ h => absurd h List.not_mem_nil⟩) (by decide) (by decide) cl_L_35 rfl (fun q9 => ?_)
      refine r_astore (Lv' := [(5, .ref q9), (0, .ref (ad 0)), (1, vi a), (2, vi b), (3, vi v), (4, .ref ao)]) G dL_minutes_19 (by decide) rfl ?_
      refine r_iconst G dL_minutes_21 ?_
      exact r_iret G hrt ⟨Nat.le_of_ble_eq_true rfl, Nat.le_of_ble_eq_true rfl⟩ dL_minutes_22 ⟨fo, z, y, rfl, hk.symm, fun h0 => absurd (hk.symm.trans h0) (by decide), fun _ => ⟨rfl, rfl⟩⟩
  · obtain ⟨hk, hp⟩ := hp
    refine r_i2l G dL_minutes_10 ?_
    refine r_last (ws' := fun g => [(ao, oL aC g)] ++ (wd aC ad shC (zc z2 y2) ++ [])) G 0 rfl (fun _ _ => rfl) dL_minutes_11 (fun go hgo => ?_)
    refine r_goto (tgt := 23) G dL_minutes_12 (by decide) ?_
    refine r_iconst G dL_minutes_23 ?_
    exact r_iret G hrt ⟨Nat.le_of_ble_eq_true rfl, Nat.le_of_ble_eq_true rfl⟩ dL_minutes_24 ⟨go, z2, y2, rfl, hk.symm, fun _ => ⟨r9, hgo, hp⟩, fun h => absurd hk h⟩
theorem KC_firstTrail : wCV RL 37 RX7 yX7_firstTrail cX7_firstTrail 4 (some (.int)) 2 := ⟨⟨ml_L_37, im_X7_firstTrail, se_X7_firstTrail, in_X7, co_X7_firstTrail⟩, rfl, by decide +kernel, by decide +kernel, by decide +kernel⟩
set_option maxHeartbeats 4000000 in
set_option maxRecDepth 100000 in
theorem lw_firstTrail (l : Launch) (hst : l.stackTraces = false) {D : va_G} {aC : Nat → ClassId} {ad : Nat → Nat} {z y : wZ} {ao : Nat} {fo : Nat → Int64} (hR : Rng z) (hY : Rng y) (hI_z_y : CW z y) (a : Int) (b : Int) (ha : -2147483648 ≤ a ∧ a ≤ 2147483647) (hb : -2147483648 ≤ b ∧ b ≤ 2147483647) : lM l D aC yL_firstTrail cL_firstTrail 5 [(0, 10, 13, 19), (0, 10, 17, 35)] (rmX 8 5 30) [.ref (ad 0), vi a, vi b, .ref ao] ([(ao, oL aC fo)] ++ (wd aC ad shC (zc z y) ++ [])) (fun i9 u9 => ∃ (go : Nat → Int64) (z2 y2 : wZ), u9 = [(ao, oL aC go)] ++ (wd aC ad shC (zc z2 y2) ++ []) ∧ i9 = kcFT z a b ∧ (kcFT z a b = 0 → ∃ r_ : Int, go 0 = (Int32.ofInt r_).toInt64 ∧ r_ = nxt z a b ∧ z2 = z ∧ y2 = y) ∧ (kcFT z a b ≠ 0 → z2 = z ∧ y2 = y)) 5 30 := by
  refine lM_of [(0, .ref (ad 0)), (1, vi a), (2, vi b), (3, .ref ao)] (by decide +kernel) (Nat.le_of_ble_eq_true rfl) rfl ?_
  intro p e s m args below meth c A G hex hrt hTh hNo
  refine r_aload_n G 3 dL_firstTrail_0 rfl ?_
  refine r_iconst G dL_firstTrail_1 ?_
  refine r_aload_n G 0 dL_firstTrail_2 rfl ?_
  refine r_iload_n G 1 dL_firstTrail_3 rfl ?_
  refine r_iload_n G 2 dL_firstTrail_4 rfl ?_
  refine r_xcalli (w0 := [(ao, oL aC fo)]) (w2 := []) (q0 := 0) (As := [vi a, vi b]) (st := [vi 0, .ref ao]) (y0 := yX7_firstTrail) (idx := 37) (C := RX7) G hTh KC_firstTrail (post := (fun r_ z2 y2 => kcFT z a b = 0 ∧ r_ = nxt z a b ∧ z2 = z ∧ y2 = y)) (thr := (fun E => (E = eIOB ∧ kcFT z a b = 1) ∨ (E = eNSE ∧ kcFT z a b = 2))) (fun hd => c_firstTrail l hst hd hR hY hI_z_y a b ha hb) rfl rfl rfl (xrm_ok (by decide) (by decide)) ⟨Nat.le_of_ble_eq_true rfl, Nat.le_of_ble_eq_true rfl⟩ (Nat.le_of_ble_eq_true rfl) dL_firstTrail_5 (fun E hE => ?_) (fun r9 z2 y2 hp => ?_)
  · rcases hE with ⟨rfl, hk⟩ | ⟨rfl, hk⟩
    · refine r_catch G hTh (name := eIOB) (by decide +kernel) [] ⟨0, 10, 13, 19⟩ [⟨0, 10, 17, 35⟩] (hex.trans rfl) (fun _ h => absurd h List.not_mem_nil) (by decide) (by decide) cl_L_19 rfl (fun q9 => ?_)
      refine r_astore (Lv' := [(4, .ref q9), (0, .ref (ad 0)), (1, vi a), (2, vi b), (3, .ref ao)]) G dL_firstTrail_13 (by decide) rfl ?_
      refine r_iconst G dL_firstTrail_15 ?_
      exact r_iret G hrt ⟨Nat.le_of_ble_eq_true rfl, Nat.le_of_ble_eq_true rfl⟩ dL_firstTrail_16 ⟨fo, z, y, rfl, hk.symm, fun h0 => absurd (hk.symm.trans h0) (by decide), fun _ => ⟨rfl, rfl⟩⟩
    · refine r_catch G hTh (name := eNSE) (by decide +kernel) [⟨0, 10, 13, 19⟩] ⟨0, 10, 17, 35⟩ [] (hex.trans rfl) (List.forall_mem_cons.mpr ⟨Or.inr ⟨by decide, eIOB, cl_L_19, hNo eNSE (by decide +kernel) eIOB (by decide +kernel) (by decide +kernel)⟩, fun _ h => absurd h List.not_mem_nil⟩) (by decide) (by decide) cl_L_35 rfl (fun q9 => ?_)
      refine r_astore (Lv' := [(4, .ref q9), (0, .ref (ad 0)), (1, vi a), (2, vi b), (3, .ref ao)]) G dL_firstTrail_17 (by decide) rfl ?_
      refine r_iconst G dL_firstTrail_19 ?_
      exact r_iret G hrt ⟨Nat.le_of_ble_eq_true rfl, Nat.le_of_ble_eq_true rfl⟩ dL_firstTrail_20 ⟨fo, z, y, rfl, hk.symm, fun h0 => absurd (hk.symm.trans h0) (by decide), fun _ => ⟨rfl, rfl⟩⟩
  · obtain ⟨hk, hp⟩ := hp
    refine r_i2l G dL_firstTrail_8 ?_
    refine r_last (ws' := fun g => [(ao, oL aC g)] ++ (wd aC ad shC (zc z2 y2) ++ [])) G 0 rfl (fun _ _ => rfl) dL_firstTrail_9 (fun go hgo => ?_)
    refine r_goto (tgt := 21) G dL_firstTrail_10 (by decide) ?_
    refine r_iconst G dL_firstTrail_21 ?_
    exact r_iret G hrt ⟨Nat.le_of_ble_eq_true rfl, Nat.le_of_ble_eq_true rfl⟩ dL_firstTrail_22 ⟨go, z2, y2, rfl, hk.symm, fun _ => ⟨r9, hgo, hp⟩, fun h => absurd hk h⟩
theorem KC_addWood : wCV RL 41 RX7 yX7_addWood cX7_addWood 2 (some (.int)) 1 := ⟨⟨ml_L_41, im_X7_addWood, se_X7_addWood, in_X7, co_X7_addWood⟩, rfl, by decide +kernel, by decide +kernel, by decide +kernel⟩
set_option maxHeartbeats 4000000 in
set_option maxRecDepth 100000 in
theorem lw_addWood (l : Launch) (hst : l.stackTraces = false) {D : va_G} {aC : Nat → ClassId} {ad : Nat → Nat} {z y : wZ} {ao : Nat} {fo : Nat → Int64} (hR : Rng z) (hY : Rng y) (hI_z_y : CW z y) (v : Int) (hv : -2147483648 ≤ v ∧ v ≤ 2147483647) (hwd : z 6 0 ≤ 59900) : lM l D aC yL_addWood cL_addWood 4 [(0, 9, 12, 21)] (rmX 8 5 30) [.ref (ad 0), vi v, .ref ao] ([(ao, oL aC fo)] ++ (wd aC ad shC (zc z y) ++ [])) (fun i9 u9 => ∃ (go : Nat → Int64) (z2 y2 : wZ), u9 = [(ao, oL aC go)] ++ (wd aC ad shC (zc z2 y2) ++ []) ∧ i9 = kcAW v ∧ (kcAW v = 0 → ∃ r_ : Int, go 0 = (Int32.ofInt r_).toInt64 ∧ r_ = z 6 0 + v ∧ z2 = zp z 6 0 (z 6 0 + v) ∧ Rng z2 ∧ Rng y2 ∧ CW z2 y2) ∧ (kcAW v ≠ 0 → z2 = z ∧ y2 = y)) 5 30 := by
  refine lM_of [(0, .ref (ad 0)), (1, vi v), (2, .ref ao)] (by decide +kernel) (Nat.le_of_ble_eq_true rfl) rfl ?_
  intro p e s m args below meth c A G hex hrt hTh hNo
  refine r_aload_n G 2 dL_addWood_0 rfl ?_
  refine r_iconst G dL_addWood_1 ?_
  refine r_aload_n G 0 dL_addWood_2 rfl ?_
  refine r_iload_n G 1 dL_addWood_3 rfl ?_
  refine r_xcalli (w0 := [(ao, oL aC fo)]) (w2 := []) (q0 := 0) (As := [vi v]) (st := [vi 0, .ref ao]) (y0 := yX7_addWood) (idx := 41) (C := RX7) G hTh KC_addWood (post := (fun r_ z2 y2 => kcAW v = 0 ∧ r_ = z 6 0 + v ∧ z2 = zp z 6 0 (z 6 0 + v) ∧ Rng z2 ∧ Rng y2 ∧ CW z2 y2)) (thr := (fun E => (E = eIAE ∧ kcAW v = 1))) (fun hd => c_addWood l hst hd hR hY hI_z_y v hv hwd) rfl rfl rfl (xrm_ok (by decide) (by decide)) ⟨Nat.le_of_ble_eq_true rfl, Nat.le_of_ble_eq_true rfl⟩ (Nat.le_of_ble_eq_true rfl) dL_addWood_4 (fun E hE => ?_) (fun r9 z2 y2 hp => ?_)
  · obtain ⟨rfl, hk⟩ := hE
    refine r_catch G hTh (name := eIAE) (by decide +kernel) [] ⟨0, 9, 12, 21⟩ [] (hex.trans rfl) (fun _ h => absurd h List.not_mem_nil) (by decide) (by decide) cl_L_21 rfl (fun q9 => ?_)
    refine r_astore_n (Lv' := [(3, .ref q9), (0, .ref (ad 0)), (1, vi v), (2, .ref ao)]) G dL_addWood_12 (by decide) rfl ?_
    refine r_iconst G dL_addWood_13 ?_
    exact r_iret G hrt ⟨Nat.le_of_ble_eq_true rfl, Nat.le_of_ble_eq_true rfl⟩ dL_addWood_14 ⟨fo, z, y, rfl, hk.symm, fun h0 => absurd (hk.symm.trans h0) (by decide), fun _ => ⟨rfl, rfl⟩⟩
  · obtain ⟨hk, hp⟩ := hp
    refine r_i2l G dL_addWood_7 ?_
    refine r_last (ws' := fun g => [(ao, oL aC g)] ++ (wd aC ad shC (zc z2 y2) ++ [])) G 0 rfl (fun _ _ => rfl) dL_addWood_8 (fun go hgo => ?_)
    refine r_goto (tgt := 15) G dL_addWood_9 (by decide) ?_
    refine r_iconst G dL_addWood_15 ?_
    exact r_iret G hrt ⟨Nat.le_of_ble_eq_true rfl, Nat.le_of_ble_eq_true rfl⟩ dL_addWood_16 ⟨go, z2, y2, rfl, hk.symm, fun _ => ⟨r9, hgo, hp⟩, fun h => absurd hk h⟩
theorem KC_cut : wCV RL 45 RX7 yX7_cut cX7_cut 4 (some (.int)) 2 := ⟨⟨ml_L_45, im_X7_cut, se_X7_cut, in_X7, co_X7_cut⟩, rfl, by decide +kernel, by decide +kernel, by decide +kernel⟩
set_option maxHeartbeats 4000000 in
set_option maxRecDepth 100000 in
theorem lw_cut (l : Launch) (hst : l.stackTraces = false) {D : va_G} {aC : Nat → ClassId} {ad : Nat → Nat} {z y : wZ} {ao : Nat} {fo : Nat → Int64} (hR : Rng z) (hY : Rng y) (hI_z_y : CW z y) (f : Int) (q : Int) (hf : -2147483648 ≤ f ∧ f ≤ 2147483647) (hq : -2147483648 ≤ q ∧ q ≤ 2147483647) : lM l D aC yL_cut cL_cut 5 [(0, 10, 13, 19), (0, 10, 17, 21), (0, 10, 21, 35), (0, 10, 25, 48), (0, 10, 29, 13)] (rmX 8 5 30) [.ref (ad 0), vi f, vi q, .ref ao] ([(ao, oL aC fo)] ++ (wd aC ad shC (zc z y) ++ [])) (fun i9 u9 => ∃ (go : Nat → Int64) (z2 y2 : wZ), u9 = [(ao, oL aC go)] ++ (wd aC ad shC (zc z2 y2) ++ []) ∧ i9 = kcCu z f q ∧ (kcCu z f q = 0 → ∃ r_ : Int, go 0 = (Int32.ofInt r_).toInt64 ∧ r_ = z 2 0 ∧ z2 = cuF z f q ∧ Rng z2 ∧ Rng y2 ∧ CW z2 y2) ∧ (kcCu z f q ≠ 0 → z2 = z ∧ y2 = y)) 5 30 := by
  refine lM_of [(0, .ref (ad 0)), (1, vi f), (2, vi q), (3, .ref ao)] (by decide +kernel) (Nat.le_of_ble_eq_true rfl) rfl ?_
  intro p e s m args below meth c A G hex hrt hTh hNo
  refine r_aload_n G 3 dL_cut_0 rfl ?_
  refine r_iconst G dL_cut_1 ?_
  refine r_aload_n G 0 dL_cut_2 rfl ?_
  refine r_iload_n G 1 dL_cut_3 rfl ?_
  refine r_iload_n G 2 dL_cut_4 rfl ?_
  refine r_xcalli (w0 := [(ao, oL aC fo)]) (w2 := []) (q0 := 0) (As := [vi f, vi q]) (st := [vi 0, .ref ao]) (y0 := yX7_cut) (idx := 45) (C := RX7) G hTh KC_cut (post := (fun r_ z2 y2 => kcCu z f q = 0 ∧ r_ = z 2 0 ∧ z2 = cuF z f q ∧ Rng z2 ∧ Rng y2 ∧ CW z2 y2)) (thr := (fun E => (E = eIOB ∧ kcCu z f q = 1) ∨ (E = eIAE ∧ kcCu z f q = 2) ∨ (E = eNSE ∧ kcCu z f q = 3) ∨ (E = eUOE ∧ kcCu z f q = 4) ∨ (E = eISE ∧ kcCu z f q = 5))) (fun hd => c_cut l hst hd hR hY hI_z_y f q hf hq) rfl rfl rfl (xrm_ok (by decide) (by decide)) ⟨Nat.le_of_ble_eq_true rfl, Nat.le_of_ble_eq_true rfl⟩ (Nat.le_of_ble_eq_true rfl) dL_cut_5 (fun E hE => ?_) (fun r9 z2 y2 hp => ?_)
  · rcases hE with ⟨rfl, hk⟩ | ⟨rfl, hk⟩ | ⟨rfl, hk⟩ | ⟨rfl, hk⟩ | ⟨rfl, hk⟩
    · refine r_catch G hTh (name := eIOB) (by decide +kernel) [] ⟨0, 10, 13, 19⟩ [⟨0, 10, 17, 21⟩, ⟨0, 10, 21, 35⟩, ⟨0, 10, 25, 48⟩, ⟨0, 10, 29, 13⟩] (hex.trans rfl) (fun _ h => absurd h List.not_mem_nil) (by decide) (by decide) cl_L_19 rfl (fun q9 => ?_)
      refine r_astore (Lv' := [(4, .ref q9), (0, .ref (ad 0)), (1, vi f), (2, vi q), (3, .ref ao)]) G dL_cut_13 (by decide) rfl ?_
      refine r_iconst G dL_cut_15 ?_
      exact r_iret G hrt ⟨Nat.le_of_ble_eq_true rfl, Nat.le_of_ble_eq_true rfl⟩ dL_cut_16 ⟨fo, z, y, rfl, hk.symm, fun h0 => absurd (hk.symm.trans h0) (by decide), fun _ => ⟨rfl, rfl⟩⟩
    · refine r_catch G hTh (name := eIAE) (by decide +kernel) [⟨0, 10, 13, 19⟩] ⟨0, 10, 17, 21⟩ [⟨0, 10, 21, 35⟩, ⟨0, 10, 25, 48⟩, ⟨0, 10, 29, 13⟩] (hex.trans rfl) (List.forall_mem_cons.mpr ⟨Or.inr ⟨by decide, eIOB, cl_L_19, hNo eIAE (by decide +kernel) eIOB (by decide +kernel) (by decide +kernel)⟩, fun _ h => absurd h List.not_mem_nil⟩) (by decide) (by decide) cl_L_21 rfl (fun q9 => ?_)
      refine r_astore (Lv' := [(4, .ref q9), (0, .ref (ad 0)), (1, vi f), (2, vi q), (3, .ref ao)]) G dL_cut_17 (by decide) rfl ?_
      refine r_iconst G dL_cut_19 ?_
      exact r_iret G hrt ⟨Nat.le_of_ble_eq_true rfl, Nat.le_of_ble_eq_true rfl⟩ dL_cut_20 ⟨fo, z, y, rfl, hk.symm, fun h0 => absurd (hk.symm.trans h0) (by decide), fun _ => ⟨rfl, rfl⟩⟩
    · refine r_catch G hTh (name := eNSE) (by decide +kernel) [⟨0, 10, 13, 19⟩, ⟨0, 10, 17, 21⟩] ⟨0, 10, 21, 35⟩ [⟨0, 10, 25, 48⟩, ⟨0, 10, 29, 13⟩] (hex.trans rfl) (List.forall_mem_cons.mpr ⟨Or.inr ⟨by decide, eIOB, cl_L_19, hNo eNSE (by decide +kernel) eIOB (by decide +kernel) (by decide +kernel)⟩, List.forall_mem_cons.mpr ⟨Or.inr ⟨by decide, eIAE, cl_L_21, hNo eNSE (by decide +kernel) eIAE (by decide +kernel) (by decide +kernel)⟩, fun _ h => absurd h List.not_mem_nil⟩⟩) (by decide) (by decide) cl_L_35 rfl (fun q9 => ?_)
      refine r_astore (Lv' := [(4, .ref q9), (0, .ref (ad 0)), (1, vi f), (2, vi q), (3, .ref ao)]) G dL_cut_21 (by decide) rfl ?_
      refine r_iconst G dL_cut_23 ?_
      exact r_iret G hrt ⟨Nat.le_of_ble_eq_true rfl, Nat.le_of_ble_eq_true rfl⟩ dL_cut_24 ⟨fo, z, y, rfl, hk.symm, fun h0 => absurd (hk.symm.trans h0) (by decide), fun _ => ⟨rfl, rfl⟩⟩
    · refine r_catch G hTh (name := eUOE) (by decide +kernel) [⟨0, 10, 13, 19⟩, ⟨0, 10, 17, 21⟩, ⟨0, 10, 21, 35⟩] ⟨0, 10, 25, 48⟩ [⟨0, 10, 29, 13⟩] (hex.trans rfl) (List.forall_mem_cons.mpr ⟨Or.inr ⟨by decide, eIOB, cl_L_19, hNo eUOE (by decide +kernel) eIOB (by decide +kernel) (by decide +kernel)⟩, List.forall_mem_cons.mpr ⟨Or.inr ⟨by decide, eIAE, cl_L_21, hNo eUOE (by decide +kernel) eIAE (by decide +kernel) (by decide +kernel)⟩, List.forall_mem_cons.mpr ⟨Or.inr ⟨by decide, eNSE, cl_L_35, hNo eUOE (by decide +kernel) eNSE (by decide +kernel) (by decide +kernel)⟩, fun _ h => absurd h List.not_mem_nil⟩⟩⟩) (by decide) (by decide) cl_L_48 rfl (fun q9 => ?_)
      refine r_astore (Lv' := [(4, .ref q9), (0, .ref (ad 0)), (1, vi f), (2, vi q), (3, .ref ao)]) G dL_cut_25 (by decide) rfl ?_
      refine r_iconst G dL_cut_27 ?_
      exact r_iret G hrt ⟨Nat.le_of_ble_eq_true rfl, Nat.le_of_ble_eq_true rfl⟩ dL_cut_28 ⟨fo, z, y, rfl, hk.symm, fun h0 => absurd (hk.symm.trans h0) (by decide), fun _ => ⟨rfl, rfl⟩⟩
    · refine r_catch G hTh (name := eISE) (by decide +kernel) [⟨0, 10, 13, 19⟩, ⟨0, 10, 17, 21⟩, ⟨0, 10, 21, 35⟩, ⟨0, 10, 25, 48⟩] ⟨0, 10, 29, 13⟩ [] (hex.trans rfl) (List.forall_mem_cons.mpr ⟨Or.inr ⟨by decide, eIOB, cl_L_19, hNo eISE (by decide +kernel) eIOB (by decide +kernel) (by decide +kernel)⟩, List.forall_mem_cons.mpr ⟨Or.inr ⟨by decide, eIAE, cl_L_21, hNo eISE (by decide +kernel) eIAE (by decide +kernel) (by decide +kernel)⟩, List.forall_mem_cons.mpr ⟨Or.inr ⟨by decide, eNSE, cl_L_35, hNo eISE (by decide +kernel) eNSE (by decide +kernel) (by decide +kernel)⟩, List.forall_mem_cons.mpr ⟨Or.inr ⟨by decide, eUOE, cl_L_48, hNo eISE (by decide +kernel) eUOE (by decide +kernel) (by decide +kernel)⟩, fun _ h => absurd h List.not_mem_nil⟩⟩⟩⟩) (by decide) (by decide) cl_L_13 rfl (fun q9 => ?_)
      refine r_astore (Lv' := [(4, .ref q9), (0, .ref (ad 0)), (1, vi f), (2, vi q), (3, .ref ao)]) G dL_cut_29 (by decide) rfl ?_
      refine r_iconst G dL_cut_31 ?_
      exact r_iret G hrt ⟨Nat.le_of_ble_eq_true rfl, Nat.le_of_ble_eq_true rfl⟩ dL_cut_32 ⟨fo, z, y, rfl, hk.symm, fun h0 => absurd (hk.symm.trans h0) (by decide), fun _ => ⟨rfl, rfl⟩⟩
  · obtain ⟨hk, hp⟩ := hp
    refine r_i2l G dL_cut_8 ?_
    refine r_last (ws' := fun g => [(ao, oL aC g)] ++ (wd aC ad shC (zc z2 y2) ++ [])) G 0 rfl (fun _ _ => rfl) dL_cut_9 (fun go hgo => ?_)
    refine r_goto (tgt := 33) G dL_cut_10 (by decide) ?_
    refine r_iconst G dL_cut_33 ?_
    exact r_iret G hrt ⟨Nat.le_of_ble_eq_true rfl, Nat.le_of_ble_eq_true rfl⟩ dL_cut_34 ⟨go, z2, y2, rfl, hk.symm, fun _ => ⟨r9, hgo, hp⟩, fun h => absurd hk h⟩
theorem KC_trailOf : wCV RL 50 RX7 yX7_trailOf cX7_trailOf 2 (some (.int)) 1 := ⟨⟨ml_L_50, im_X7_trailOf, se_X7_trailOf, in_X7, co_X7_trailOf⟩, rfl, by decide +kernel, by decide +kernel, by decide +kernel⟩
set_option maxHeartbeats 4000000 in
set_option maxRecDepth 100000 in
theorem lw_trailOf (l : Launch) (hst : l.stackTraces = false) {D : va_G} {aC : Nat → ClassId} {ad : Nat → Nat} {z y : wZ} {ao : Nat} {fo : Nat → Int64} (hR : Rng z) (hY : Rng y) (hI_z_y : CW z y) (b : Int) (hb : -2147483648 ≤ b ∧ b ≤ 2147483647) : lM l D aC yL_trailOf cL_trailOf 4 [(0, 9, 12, 19)] (rmX 8 5 30) [.ref (ad 0), vi b, .ref ao] ([(ao, oL aC fo)] ++ (wd aC ad shC (zc z y) ++ [])) (fun i9 u9 => ∃ (go : Nat → Int64) (z2 y2 : wZ), u9 = [(ao, oL aC go)] ++ (wd aC ad shC (zc z2 y2) ++ []) ∧ i9 = kcB z b ∧ (kcB z b = 0 → ∃ r_ : Int, go 0 = (Int32.ofInt r_).toInt64 ∧ r_ = z 19 b ∧ z2 = z ∧ y2 = y) ∧ (kcB z b ≠ 0 → z2 = z ∧ y2 = y)) 5 30 := by
  refine lM_of [(0, .ref (ad 0)), (1, vi b), (2, .ref ao)] (by decide +kernel) (Nat.le_of_ble_eq_true rfl) rfl ?_
  intro p e s m args below meth c A G hex hrt hTh hNo
  refine r_aload_n G 2 dL_trailOf_0 rfl ?_
  refine r_iconst G dL_trailOf_1 ?_
  refine r_aload_n G 0 dL_trailOf_2 rfl ?_
  refine r_iload_n G 1 dL_trailOf_3 rfl ?_
  refine r_xcalli (w0 := [(ao, oL aC fo)]) (w2 := []) (q0 := 0) (As := [vi b]) (st := [vi 0, .ref ao]) (y0 := yX7_trailOf) (idx := 50) (C := RX7) G hTh KC_trailOf (post := (fun r_ z2 y2 => kcB z b = 0 ∧ r_ = z 19 b ∧ z2 = z ∧ y2 = y)) (thr := (fun E => (E = eIOB ∧ kcB z b = 1))) (fun hd => c_trailOf l hst hd hR hY hI_z_y b hb) rfl rfl rfl (xrm_ok (by decide) (by decide)) ⟨Nat.le_of_ble_eq_true rfl, Nat.le_of_ble_eq_true rfl⟩ (Nat.le_of_ble_eq_true rfl) dL_trailOf_4 (fun E hE => ?_) (fun r9 z2 y2 hp => ?_)
  · obtain ⟨rfl, hk⟩ := hE
    refine r_catch G hTh (name := eIOB) (by decide +kernel) [] ⟨0, 9, 12, 19⟩ [] (hex.trans rfl) (fun _ h => absurd h List.not_mem_nil) (by decide) (by decide) cl_L_19 rfl (fun q9 => ?_)
    refine r_astore_n (Lv' := [(3, .ref q9), (0, .ref (ad 0)), (1, vi b), (2, .ref ao)]) G dL_trailOf_12 (by decide) rfl ?_
    refine r_iconst G dL_trailOf_13 ?_
    exact r_iret G hrt ⟨Nat.le_of_ble_eq_true rfl, Nat.le_of_ble_eq_true rfl⟩ dL_trailOf_14 ⟨fo, z, y, rfl, hk.symm, fun h0 => absurd (hk.symm.trans h0) (by decide), fun _ => ⟨rfl, rfl⟩⟩
  · obtain ⟨hk, hp⟩ := hp
    refine r_i2l G dL_trailOf_7 ?_
    refine r_last (ws' := fun g => [(ao, oL aC g)] ++ (wd aC ad shC (zc z2 y2) ++ [])) G 0 rfl (fun _ _ => rfl) dL_trailOf_8 (fun go hgo => ?_)
    refine r_goto (tgt := 15) G dL_trailOf_9 (by decide) ?_
    refine r_iconst G dL_trailOf_15 ?_
    exact r_iret G hrt ⟨Nat.le_of_ble_eq_true rfl, Nat.le_of_ble_eq_true rfl⟩ dL_trailOf_16 ⟨go, z2, y2, rfl, hk.symm, fun _ => ⟨r9, hgo, hp⟩, fun h => absurd hk h⟩
theorem KC_told : wCV RL 53 RX7 yX7_told cX7_told 2 (some (.int)) 1 := ⟨⟨ml_L_53, im_X7_told, se_X7_told, in_X7, co_X7_told⟩, rfl, by decide +kernel, by decide +kernel, by decide +kernel⟩
set_option maxHeartbeats 4000000 in
set_option maxRecDepth 100000 in
theorem lw_told (l : Launch) (hst : l.stackTraces = false) {D : va_G} {aC : Nat → ClassId} {ad : Nat → Nat} {z y : wZ} {ao : Nat} {fo : Nat → Int64} (hR : Rng z) (hY : Rng y) (hI_z_y : CW z y) (b : Int) (hb : -2147483648 ≤ b ∧ b ≤ 2147483647) : lM l D aC yL_told cL_told 4 [(0, 9, 12, 19)] (rmX 8 5 30) [.ref (ad 0), vi b, .ref ao] ([(ao, oL aC fo)] ++ (wd aC ad shC (zc z y) ++ [])) (fun i9 u9 => ∃ (go : Nat → Int64) (z2 y2 : wZ), u9 = [(ao, oL aC go)] ++ (wd aC ad shC (zc z2 y2) ++ []) ∧ i9 = kcB z b ∧ (kcB z b = 0 → ∃ r_ : Int, go 0 = (Int32.ofInt r_).toInt64 ∧ r_ = z 20 b ∧ z2 = z ∧ y2 = y) ∧ (kcB z b ≠ 0 → z2 = z ∧ y2 = y)) 5 30 := by
  refine lM_of [(0, .ref (ad 0)), (1, vi b), (2, .ref ao)] (by decide +kernel) (Nat.le_of_ble_eq_true rfl) rfl ?_
  intro p e s m args below meth c A G hex hrt hTh hNo
  refine r_aload_n G 2 dL_told_0 rfl ?_
  refine r_iconst G dL_told_1 ?_
  refine r_aload_n G 0 dL_told_2 rfl ?_
  refine r_iload_n G 1 dL_told_3 rfl ?_
  refine r_xcalli (w0 := [(ao, oL aC fo)]) (w2 := []) (q0 := 0) (As := [vi b]) (st := [vi 0, .ref ao]) (y0 := yX7_told) (idx := 53) (C := RX7) G hTh KC_told (post := (fun r_ z2 y2 => kcB z b = 0 ∧ r_ = z 20 b ∧ z2 = z ∧ y2 = y)) (thr := (fun E => (E = eIOB ∧ kcB z b = 1))) (fun hd => c_told l hst hd hR hY hI_z_y b hb) rfl rfl rfl (xrm_ok (by decide) (by decide)) ⟨Nat.le_of_ble_eq_true rfl, Nat.le_of_ble_eq_true rfl⟩ (Nat.le_of_ble_eq_true rfl) dL_told_4 (fun E hE => ?_) (fun r9 z2 y2 hp => ?_)
  · obtain ⟨rfl, hk⟩ := hE
    refine r_catch G hTh (name := eIOB) (by decide +kernel) [] ⟨0, 9, 12, 19⟩ [] (hex.trans rfl) (fun _ h => absurd h List.not_mem_nil) (by decide) (by decide) cl_L_19 rfl (fun q9 => ?_)
    refine r_astore_n (Lv' := [(3, .ref q9), (0, .ref (ad 0)), (1, vi b), (2, .ref ao)]) G dL_told_12 (by decide) rfl ?_
    refine r_iconst G dL_told_13 ?_
    exact r_iret G hrt ⟨Nat.le_of_ble_eq_true rfl, Nat.le_of_ble_eq_true rfl⟩ dL_told_14 ⟨fo, z, y, rfl, hk.symm, fun h0 => absurd (hk.symm.trans h0) (by decide), fun _ => ⟨rfl, rfl⟩⟩
  · obtain ⟨hk, hp⟩ := hp
    refine r_i2l G dL_told_7 ?_
    refine r_last (ws' := fun g => [(ao, oL aC g)] ++ (wd aC ad shC (zc z2 y2) ++ [])) G 0 rfl (fun _ _ => rfl) dL_told_8 (fun go hgo => ?_)
    refine r_goto (tgt := 15) G dL_told_9 (by decide) ?_
    refine r_iconst G dL_told_15 ?_
    exact r_iret G hrt ⟨Nat.le_of_ble_eq_true rfl, Nat.le_of_ble_eq_true rfl⟩ dL_told_16 ⟨go, z2, y2, rfl, hk.symm, fun _ => ⟨r9, hgo, hp⟩, fun h => absurd hk h⟩
theorem KC_isCovered : wCV RL 56 RX7 yX7_isCovered cX7_isCovered 2 (some (.boolean)) 1 := ⟨⟨ml_L_56, im_X7_isCovered, se_X7_isCovered, in_X7, co_X7_isCovered⟩, rfl, by decide +kernel, by decide +kernel, by decide +kernel⟩
set_option maxHeartbeats 4000000 in
set_option maxRecDepth 100000 in
theorem lw_isCovered (l : Launch) (hst : l.stackTraces = false) {D : va_G} {aC : Nat → ClassId} {ad : Nat → Nat} {z y : wZ} {ao : Nat} {fo : Nat → Int64} (hR : Rng z) (hY : Rng y) (hI_z_y : CW z y) (b : Int) (hb : -2147483648 ≤ b ∧ b ≤ 2147483647) : lM l D aC yL_isCovered cL_isCovered 4 [(0, 16, 19, 19)] (rmX 8 5 30) [.ref (ad 0), vi b, .ref ao] ([(ao, oL aC fo)] ++ (wd aC ad shC (zc z y) ++ [])) (fun i9 u9 => ∃ (go : Nat → Int64) (z2 y2 : wZ), u9 = [(ao, oL aC go)] ++ (wd aC ad shC (zc z2 y2) ++ []) ∧ i9 = kcB z b ∧ (kcB z b = 0 → ∃ r_ : Int, go 0 = gZ (Int32.ofInt r_) ∧ r_ = z 21 b ∧ z2 = z ∧ y2 = y) ∧ (kcB z b ≠ 0 → z2 = z ∧ y2 = y)) 5 30 := by
  refine lM_of [(0, .ref (ad 0)), (1, vi b), (2, .ref ao)] (by decide +kernel) (Nat.le_of_ble_eq_true rfl) rfl ?_
  intro p e s m args below meth c A G hex hrt hTh hNo
  refine r_aload_n G 2 dL_isCovered_0 rfl ?_
  refine r_iconst G dL_isCovered_1 ?_
  refine r_aload_n G 0 dL_isCovered_2 rfl ?_
  refine r_iload_n G 1 dL_isCovered_3 rfl ?_
  refine r_xcalli (w0 := [(ao, oL aC fo)]) (w2 := []) (q0 := 0) (As := [vi b]) (st := [vi 0, .ref ao]) (y0 := yX7_isCovered) (idx := 56) (C := RX7) G hTh KC_isCovered (post := (fun r_ z2 y2 => kcB z b = 0 ∧ r_ = z 21 b ∧ z2 = z ∧ y2 = y)) (thr := (fun E => (E = eIOB ∧ kcB z b = 1))) (fun hd => c_isCovered l hst hd hR hY hI_z_y b hb) rfl rfl rfl (xrm_ok (by decide) (by decide)) ⟨Nat.le_of_ble_eq_true rfl, Nat.le_of_ble_eq_true rfl⟩ (Nat.le_of_ble_eq_true rfl) dL_isCovered_4 (fun E hE => ?_) (fun r9 z2 y2 hp => ?_)
  · obtain ⟨rfl, hk⟩ := hE
    refine r_catch G hTh (name := eIOB) (by decide +kernel) [] ⟨0, 16, 19, 19⟩ [] (hex.trans rfl) (fun _ h => absurd h List.not_mem_nil) (by decide) (by decide) cl_L_19 rfl (fun q9 => ?_)
    refine r_astore_n (Lv' := [(3, .ref q9), (0, .ref (ad 0)), (1, vi b), (2, .ref ao)]) G dL_isCovered_19 (by decide) rfl ?_
    refine r_iconst G dL_isCovered_20 ?_
    exact r_iret G hrt ⟨Nat.le_of_ble_eq_true rfl, Nat.le_of_ble_eq_true rfl⟩ dL_isCovered_21 ⟨fo, z, y, rfl, hk.symm, fun h0 => absurd (hk.symm.trans h0) (by decide), fun _ => ⟨rfl, rfl⟩⟩
  · obtain ⟨hk, hp⟩ := hp
    refine r_lbool G dL_isCovered_7 dL_isCovered_10 dL_isCovered_11 dL_isCovered_14 ?_
    refine r_last (ws' := fun g => [(ao, oL aC g)] ++ (wd aC ad shC (zc z2 y2) ++ [])) G 0 rfl (fun _ _ => rfl) dL_isCovered_15 (fun go hgo => ?_)
    refine r_goto (tgt := 22) G dL_isCovered_16 (by decide) ?_
    refine r_iconst G dL_isCovered_22 ?_
    exact r_iret G hrt ⟨Nat.le_of_ble_eq_true rfl, Nat.le_of_ble_eq_true rfl⟩ dL_isCovered_23 ⟨go, z2, y2, rfl, hk.symm, fun _ => ⟨r9, hgo, hp⟩, fun h => absurd hk h⟩
theorem c_danger_v (l : Launch) (hst : l.stackTraces = false) {D : va_G} {aC : Nat → ClassId} {ad : Nat → Nat} (hd : wDi ad shC) {z y : wZ} (hR : Rng z) (hY : Rng y) (hI_z_y : CW z y) (b : Int) (hb : -2147483648 ≤ b ∧ b ≤ 2147483647) (v : Int) (hv : v = 0 ∨ v = 1) : xMi l D aC ad shC yX7_danger cX7_danger 3 (.int) (rmX 7 1 6) [.ref (ad 0), vi b, vi v] z y (fun r_ z2 y2 => kcB z b = 0 ∧ r_ = dgC z (vb v) (ds z (vb v)) b ∧ z2 = z ∧ y2 = y) (fun E => (E = eIOB ∧ kcB z b = 1)) 1 6 := by
  rcases hv with rfl | rfl
  · rw [vb_0]; exact c_danger_0 l hst hd hR hY hI_z_y b hb
  · rw [vb_1]; exact c_danger_1 l hst hd hR hY hI_z_y b hb
theorem KC_danger : wCV RL 59 RX7 yX7_danger cX7_danger 3 (some (.int)) 2 := ⟨⟨ml_L_59, im_X7_danger, se_X7_danger, in_X7, co_X7_danger⟩, rfl, by decide +kernel, by decide +kernel, by decide +kernel⟩
set_option maxHeartbeats 4000000 in
set_option maxRecDepth 100000 in
theorem lw_danger (l : Launch) (hst : l.stackTraces = false) {D : va_G} {aC : Nat → ClassId} {ad : Nat → Nat} {z y : wZ} {ao : Nat} {fo : Nat → Int64} (hR : Rng z) (hY : Rng y) (hI_z_y : CW z y) (b : Int) (hb : -2147483648 ≤ b ∧ b ≤ 2147483647) (v : Int) (hv : v = 0 ∨ v = 1) : lM l D aC yL_danger cL_danger 5 [(0, 10, 13, 19)] (rmX 8 5 30) [.ref (ad 0), vi b, vi v, .ref ao] ([(ao, oL aC fo)] ++ (wd aC ad shC (zc z y) ++ [])) (fun i9 u9 => ∃ (go : Nat → Int64) (z2 y2 : wZ), u9 = [(ao, oL aC go)] ++ (wd aC ad shC (zc z2 y2) ++ []) ∧ i9 = kcB z b ∧ (kcB z b = 0 → ∃ r_ : Int, go 0 = (Int32.ofInt r_).toInt64 ∧ r_ = dgC z (vb v) (ds z (vb v)) b ∧ z2 = z ∧ y2 = y) ∧ (kcB z b ≠ 0 → z2 = z ∧ y2 = y)) 5 30 := by
  refine lM_of [(0, .ref (ad 0)), (1, vi b), (2, vi v), (3, .ref ao)] (by decide +kernel) (Nat.le_of_ble_eq_true rfl) rfl ?_
  intro p e s m args below meth c A G hex hrt hTh hNo
  refine r_aload_n G 3 dL_danger_0 rfl ?_
  refine r_iconst G dL_danger_1 ?_
  refine r_aload_n G 0 dL_danger_2 rfl ?_
  refine r_iload_n G 1 dL_danger_3 rfl ?_
  refine r_iload_n G 2 dL_danger_4 rfl ?_
  refine r_xcalli (w0 := [(ao, oL aC fo)]) (w2 := []) (q0 := 0) (As := [vi b, vi v]) (st := [vi 0, .ref ao]) (y0 := yX7_danger) (idx := 59) (C := RX7) G hTh KC_danger (post := (fun r_ z2 y2 => kcB z b = 0 ∧ r_ = dgC z (vb v) (ds z (vb v)) b ∧ z2 = z ∧ y2 = y)) (thr := (fun E => (E = eIOB ∧ kcB z b = 1))) (fun hd => c_danger_v l hst hd hR hY hI_z_y b hb v hv) rfl rfl rfl (xrm_ok (by decide) (by decide)) ⟨Nat.le_of_ble_eq_true rfl, Nat.le_of_ble_eq_true rfl⟩ (Nat.le_of_ble_eq_true rfl) dL_danger_5 (fun E hE => ?_) (fun r9 z2 y2 hp => ?_)
  · obtain ⟨rfl, hk⟩ := hE
    refine r_catch G hTh (name := eIOB) (by decide +kernel) [] ⟨0, 10, 13, 19⟩ [] (hex.trans rfl) (fun _ h => absurd h List.not_mem_nil) (by decide) (by decide) cl_L_19 rfl (fun q9 => ?_)
    refine r_astore (Lv' := [(4, .ref q9), (0, .ref (ad 0)), (1, vi b), (2, vi v), (3, .ref ao)]) G dL_danger_13 (by decide) rfl ?_
    refine r_iconst G dL_danger_15 ?_
    exact r_iret G hrt ⟨Nat.le_of_ble_eq_true rfl, Nat.le_of_ble_eq_true rfl⟩ dL_danger_16 ⟨fo, z, y, rfl, hk.symm, fun h0 => absurd (hk.symm.trans h0) (by decide), fun _ => ⟨rfl, rfl⟩⟩
  · obtain ⟨hk, hp⟩ := hp
    refine r_i2l G dL_danger_8 ?_
    refine r_last (ws' := fun g => [(ao, oL aC g)] ++ (wd aC ad shC (zc z2 y2) ++ [])) G 0 rfl (fun _ _ => rfl) dL_danger_9 (fun go hgo => ?_)
    refine r_goto (tgt := 17) G dL_danger_10 (by decide) ?_
    refine r_iconst G dL_danger_17 ?_
    exact r_iret G hrt ⟨Nat.le_of_ble_eq_true rfl, Nat.le_of_ble_eq_true rfl⟩ dL_danger_18 ⟨go, z2, y2, rfl, hk.symm, fun _ => ⟨r9, hgo, hp⟩, fun h => absurd hk h⟩
theorem KC_report : wCV RL 63 RX7 yX7_report cX7_report 4 (some (.boolean)) 3 := ⟨⟨ml_L_63, im_X7_report, se_X7_report, in_X7, co_X7_report⟩, rfl, by decide +kernel, by decide +kernel, by decide +kernel⟩
set_option maxHeartbeats 4000000 in
set_option maxRecDepth 100000 in
theorem lw_report (l : Launch) (hst : l.stackTraces = false) {D : va_G} {aC : Nat → ClassId} {ad : Nat → Nat} {z y : wZ} {ao : Nat} {fo : Nat → Int64} (hR : Rng z) (hY : Rng y) (hI_z_y : CW z y) (w : Int) (t : Int) (g : Int) (hw : -2147483648 ≤ w ∧ w ≤ 2147483647) (ht : -2147483648 ≤ t ∧ t ≤ 2147483647) (hg : g = 0 ∨ g = 1) : lM l D aC yL_report cL_report 6 [(0, 19, 22, 21), (0, 19, 26, 19)] (rmX 8 5 30) [.ref (ad 0), vi w, vi t, vi g, .ref ao] ([(ao, oL aC fo)] ++ (wd aC ad shC (zc z y) ++ [])) (fun i9 u9 => ∃ (go : Nat → Int64) (z2 y2 : wZ), u9 = [(ao, oL aC go)] ++ (wd aC ad shC (zc z2 y2) ++ []) ∧ i9 = kcRp z w t ∧ (kcRp z w t = 0 → ∃ r_ : Int, go 0 = gZ (Int32.ofInt r_) ∧ r_ = rpF z w t g 16 t ∧ z2 = rpF z w t g ∧ Rng z2 ∧ Rng y2 ∧ CW z2 y2) ∧ (kcRp z w t ≠ 0 → z2 = z ∧ y2 = y)) 5 30 := by
  refine lM_of [(0, .ref (ad 0)), (1, vi w), (2, vi t), (3, vi g), (4, .ref ao)] (by decide +kernel) (Nat.le_of_ble_eq_true rfl) rfl ?_
  intro p e s m args below meth c A G hex hrt hTh hNo
  refine r_aload G 4 dL_report_0 rfl ?_
  refine r_iconst G dL_report_2 ?_
  refine r_aload_n G 0 dL_report_3 rfl ?_
  refine r_iload_n G 1 dL_report_4 rfl ?_
  refine r_iload_n G 2 dL_report_5 rfl ?_
  refine r_iload_n G 3 dL_report_6 rfl ?_
  refine r_xcalli (w0 := [(ao, oL aC fo)]) (w2 := []) (q0 := 0) (As := [vi w, vi t, vi g]) (st := [vi 0, .ref ao]) (y0 := yX7_report) (idx := 63) (C := RX7) G hTh KC_report (post := (fun r_ z2 y2 => kcRp z w t = 0 ∧ r_ = rpF z w t g 16 t ∧ z2 = rpF z w t g ∧ Rng z2 ∧ Rng y2 ∧ CW z2 y2)) (thr := (fun E => (E = eIAE ∧ kcRp z w t = 1) ∨ (E = eIOB ∧ kcRp z w t = 2))) (fun hd => c_report l hst hd hR hY hI_z_y w t g hw ht hg) rfl rfl rfl (xrm_ok (by decide) (by decide)) ⟨Nat.le_of_ble_eq_true rfl, Nat.le_of_ble_eq_true rfl⟩ (Nat.le_of_ble_eq_true rfl) dL_report_7 (fun E hE => ?_) (fun r9 z2 y2 hp => ?_)
  · rcases hE with ⟨rfl, hk⟩ | ⟨rfl, hk⟩
    · refine r_catch G hTh (name := eIAE) (by decide +kernel) [] ⟨0, 19, 22, 21⟩ [⟨0, 19, 26, 19⟩] (hex.trans rfl) (fun _ h => absurd h List.not_mem_nil) (by decide) (by decide) cl_L_21 rfl (fun q9 => ?_)
      refine r_astore (Lv' := [(5, .ref q9), (0, .ref (ad 0)), (1, vi w), (2, vi t), (3, vi g), (4, .ref ao)]) G dL_report_22 (by decide) rfl ?_
      refine r_iconst G dL_report_24 ?_
      exact r_iret G hrt ⟨Nat.le_of_ble_eq_true rfl, Nat.le_of_ble_eq_true rfl⟩ dL_report_25 ⟨fo, z, y, rfl, hk.symm, fun h0 => absurd (hk.symm.trans h0) (by decide), fun _ => ⟨rfl, rfl⟩⟩
    · refine r_catch G hTh (name := eIOB) (by decide +kernel) [⟨0, 19, 22, 21⟩] ⟨0, 19, 26, 19⟩ [] (hex.trans rfl) (List.forall_mem_cons.mpr ⟨Or.inr ⟨by decide, eIAE, cl_L_21, hNo eIOB (by decide +kernel) eIAE (by decide +kernel) (by decide +kernel)⟩, fun _ h => absurd h List.not_mem_nil⟩) (by decide) (by decide) cl_L_19 rfl (fun q9 => ?_)
      refine r_astore (Lv' := [(5, .ref q9), (0, .ref (ad 0)), (1, vi w), (2, vi t), (3, vi g), (4, .ref ao)]) G dL_report_26 (by decide) rfl ?_
      refine r_iconst G dL_report_28 ?_
      exact r_iret G hrt ⟨Nat.le_of_ble_eq_true rfl, Nat.le_of_ble_eq_true rfl⟩ dL_report_29 ⟨fo, z, y, rfl, hk.symm, fun h0 => absurd (hk.symm.trans h0) (by decide), fun _ => ⟨rfl, rfl⟩⟩
  · obtain ⟨hk, hp⟩ := hp
    refine r_lbool G dL_report_10 dL_report_13 dL_report_14 dL_report_17 ?_
    refine r_last (ws' := fun g => [(ao, oL aC g)] ++ (wd aC ad shC (zc z2 y2) ++ [])) G 0 rfl (fun _ _ => rfl) dL_report_18 (fun go hgo => ?_)
    refine r_goto (tgt := 30) G dL_report_19 (by decide) ?_
    refine r_iconst G dL_report_30 ?_
    exact r_iret G hrt ⟨Nat.le_of_ble_eq_true rfl, Nat.le_of_ble_eq_true rfl⟩ dL_report_31 ⟨go, z2, y2, rfl, hk.symm, fun _ => ⟨r9, hgo, hp⟩, fun h => absurd hk h⟩
theorem KC_trust : wCV RL 67 RX7 yX7_trust cX7_trust 2 (some (.int)) 1 := ⟨⟨ml_L_67, im_X7_trust, se_X7_trust, in_X7, co_X7_trust⟩, rfl, by decide +kernel, by decide +kernel, by decide +kernel⟩
set_option maxHeartbeats 4000000 in
set_option maxRecDepth 100000 in
theorem lw_trust (l : Launch) (hst : l.stackTraces = false) {D : va_G} {aC : Nat → ClassId} {ad : Nat → Nat} {z y : wZ} {ao : Nat} {fo : Nat → Int64} (hR : Rng z) (hY : Rng y) (hI_z_y : CW z y) (w : Int) (hw : -2147483648 ≤ w ∧ w ≤ 2147483647) : lM l D aC yL_trust cL_trust 4 [(0, 9, 12, 21)] (rmX 8 5 30) [.ref (ad 0), vi w, .ref ao] ([(ao, oL aC fo)] ++ (wd aC ad shC (zc z y) ++ [])) (fun i9 u9 => ∃ (go : Nat → Int64) (z2 y2 : wZ), u9 = [(ao, oL aC go)] ++ (wd aC ad shC (zc z2 y2) ++ []) ∧ i9 = kcW w ∧ (kcW w = 0 → ∃ r_ : Int, go 0 = (Int32.ofInt r_).toInt64 ∧ r_ = z 22 w ∧ z2 = z ∧ y2 = y) ∧ (kcW w ≠ 0 → z2 = z ∧ y2 = y)) 5 30 := by
  refine lM_of [(0, .ref (ad 0)), (1, vi w), (2, .ref ao)] (by decide +kernel) (Nat.le_of_ble_eq_true rfl) rfl ?_
  intro p e s m args below meth c A G hex hrt hTh hNo
  refine r_aload_n G 2 dL_trust_0 rfl ?_
  refine r_iconst G dL_trust_1 ?_
  refine r_aload_n G 0 dL_trust_2 rfl ?_
  refine r_iload_n G 1 dL_trust_3 rfl ?_
  refine r_xcalli (w0 := [(ao, oL aC fo)]) (w2 := []) (q0 := 0) (As := [vi w]) (st := [vi 0, .ref ao]) (y0 := yX7_trust) (idx := 67) (C := RX7) G hTh KC_trust (post := (fun r_ z2 y2 => kcW w = 0 ∧ r_ = z 22 w ∧ z2 = z ∧ y2 = y)) (thr := (fun E => (E = eIAE ∧ kcW w = 1))) (fun hd => c_trust l hst hd hR hY hI_z_y w hw) rfl rfl rfl (xrm_ok (by decide) (by decide)) ⟨Nat.le_of_ble_eq_true rfl, Nat.le_of_ble_eq_true rfl⟩ (Nat.le_of_ble_eq_true rfl) dL_trust_4 (fun E hE => ?_) (fun r9 z2 y2 hp => ?_)
  · obtain ⟨rfl, hk⟩ := hE
    refine r_catch G hTh (name := eIAE) (by decide +kernel) [] ⟨0, 9, 12, 21⟩ [] (hex.trans rfl) (fun _ h => absurd h List.not_mem_nil) (by decide) (by decide) cl_L_21 rfl (fun q9 => ?_)
    refine r_astore_n (Lv' := [(3, .ref q9), (0, .ref (ad 0)), (1, vi w), (2, .ref ao)]) G dL_trust_12 (by decide) rfl ?_
    refine r_iconst G dL_trust_13 ?_
    exact r_iret G hrt ⟨Nat.le_of_ble_eq_true rfl, Nat.le_of_ble_eq_true rfl⟩ dL_trust_14 ⟨fo, z, y, rfl, hk.symm, fun h0 => absurd (hk.symm.trans h0) (by decide), fun _ => ⟨rfl, rfl⟩⟩
  · obtain ⟨hk, hp⟩ := hp
    refine r_i2l G dL_trust_7 ?_
    refine r_last (ws' := fun g => [(ao, oL aC g)] ++ (wd aC ad shC (zc z2 y2) ++ [])) G 0 rfl (fun _ _ => rfl) dL_trust_8 (fun go hgo => ?_)
    refine r_goto (tgt := 15) G dL_trust_9 (by decide) ?_
    refine r_iconst G dL_trust_15 ?_
    exact r_iret G hrt ⟨Nat.le_of_ble_eq_true rfl, Nat.le_of_ble_eq_true rfl⟩ dL_trust_16 ⟨go, z2, y2, rfl, hk.symm, fun _ => ⟨r9, hgo, hp⟩, fun h => absurd hk h⟩
theorem KC_reports : wCV RL 70 RX7 yX7_reports cX7_reports 2 (some (.int)) 1 := ⟨⟨ml_L_70, im_X7_reports, se_X7_reports, in_X7, co_X7_reports⟩, rfl, by decide +kernel, by decide +kernel, by decide +kernel⟩
set_option maxHeartbeats 4000000 in
set_option maxRecDepth 100000 in
theorem lw_reports (l : Launch) (hst : l.stackTraces = false) {D : va_G} {aC : Nat → ClassId} {ad : Nat → Nat} {z y : wZ} {ao : Nat} {fo : Nat → Int64} (hR : Rng z) (hY : Rng y) (hI_z_y : CW z y) (t : Int) (ht : -2147483648 ≤ t ∧ t ≤ 2147483647) : lM l D aC yL_reports cL_reports 4 [(0, 9, 12, 19)] (rmX 8 5 30) [.ref (ad 0), vi t, .ref ao] ([(ao, oL aC fo)] ++ (wd aC ad shC (zc z y) ++ [])) (fun i9 u9 => ∃ (go : Nat → Int64) (z2 y2 : wZ), u9 = [(ao, oL aC go)] ++ (wd aC ad shC (zc z2 y2) ++ []) ∧ i9 = kcT z t ∧ (kcT z t = 0 → ∃ r_ : Int, go 0 = (Int32.ofInt r_).toInt64 ∧ r_ = cntL z t 10 0 0 ∧ z2 = z ∧ y2 = y) ∧ (kcT z t ≠ 0 → z2 = z ∧ y2 = y)) 5 30 := by
  refine lM_of [(0, .ref (ad 0)), (1, vi t), (2, .ref ao)] (by decide +kernel) (Nat.le_of_ble_eq_true rfl) rfl ?_
  intro p e s m args below meth c A G hex hrt hTh hNo
  refine r_aload_n G 2 dL_reports_0 rfl ?_
  refine r_iconst G dL_reports_1 ?_
  refine r_aload_n G 0 dL_reports_2 rfl ?_
  refine r_iload_n G 1 dL_reports_3 rfl ?_
  refine r_xcalli (w0 := [(ao, oL aC fo)]) (w2 := []) (q0 := 0) (As := [vi t]) (st := [vi 0, .ref ao]) (y0 := yX7_reports) (idx := 70) (C := RX7) G hTh KC_reports (post := (fun r_ z2 y2 => kcT z t = 0 ∧ r_ = cntL z t 10 0 0 ∧ z2 = z ∧ y2 = y)) (thr := (fun E => (E = eIOB ∧ kcT z t = 1))) (fun hd => c_reports l hst hd hR hY hI_z_y t ht) rfl rfl rfl (xrm_ok (by decide) (by decide)) ⟨Nat.le_of_ble_eq_true rfl, Nat.le_of_ble_eq_true rfl⟩ (Nat.le_of_ble_eq_true rfl) dL_reports_4 (fun E hE => ?_) (fun r9 z2 y2 hp => ?_)
  · obtain ⟨rfl, hk⟩ := hE
    refine r_catch G hTh (name := eIOB) (by decide +kernel) [] ⟨0, 9, 12, 19⟩ [] (hex.trans rfl) (fun _ h => absurd h List.not_mem_nil) (by decide) (by decide) cl_L_19 rfl (fun q9 => ?_)
    refine r_astore_n (Lv' := [(3, .ref q9), (0, .ref (ad 0)), (1, vi t), (2, .ref ao)]) G dL_reports_12 (by decide) rfl ?_
    refine r_iconst G dL_reports_13 ?_
    exact r_iret G hrt ⟨Nat.le_of_ble_eq_true rfl, Nat.le_of_ble_eq_true rfl⟩ dL_reports_14 ⟨fo, z, y, rfl, hk.symm, fun h0 => absurd (hk.symm.trans h0) (by decide), fun _ => ⟨rfl, rfl⟩⟩
  · obtain ⟨hk, hp⟩ := hp
    refine r_i2l G dL_reports_7 ?_
    refine r_last (ws' := fun g => [(ao, oL aC g)] ++ (wd aC ad shC (zc z2 y2) ++ [])) G 0 rfl (fun _ _ => rfl) dL_reports_8 (fun go hgo => ?_)
    refine r_goto (tgt := 15) G dL_reports_9 (by decide) ?_
    refine r_iconst G dL_reports_15 ?_
    exact r_iret G hrt ⟨Nat.le_of_ble_eq_true rfl, Nat.le_of_ble_eq_true rfl⟩ dL_reports_16 ⟨go, z2, y2, rfl, hk.symm, fun _ => ⟨r9, hgo, hp⟩, fun h => absurd hk h⟩
theorem KC_addTask : wCV RL 73 RX7 yX7_addTask cX7_addTask 4 (some (.int)) 3 := ⟨⟨ml_L_73, im_X7_addTask, se_X7_addTask, in_X7, co_X7_addTask⟩, rfl, by decide +kernel, by decide +kernel, by decide +kernel⟩
set_option maxHeartbeats 4000000 in
set_option maxRecDepth 100000 in
theorem lw_addTask (l : Launch) (hst : l.stackTraces = false) {D : va_G} {aC : Nat → ClassId} {ad : Nat → Nat} {z y : wZ} {ao : Nat} {fo : Nat → Int64} (hR : Rng z) (hY : Rng y) (hI_z_y : CW z y) (k : Int) (n : Int) (u : Int) (hn : -2147483648 ≤ n ∧ n ≤ 2147483647) (hu : -2147483648 ≤ u ∧ u ≤ 2147483647) (hk : 0 ≤ k ∧ k ≤ 65535) : lM l D aC yL_addTask cL_addTask 6 [(0, 12, 15, 21), (0, 12, 19, 19), (0, 12, 23, 13)] (rmX 8 5 30) [.ref (ad 0), vi k, vi n, vi u, .ref ao] ([(ao, oL aC fo)] ++ (wd aC ad shC (zc z y) ++ [])) (fun i9 u9 => ∃ (go : Nat → Int64) (z2 y2 : wZ), u9 = [(ao, oL aC go)] ++ (wd aC ad shC (zc z2 y2) ++ []) ∧ i9 = kcAK z k n u ∧ (kcAK z k n u = 0 → ∃ r_ : Int, go 0 = (Int32.ofInt r_).toInt64 ∧ r_ = z 3 0 ∧ z2 = mkF z k n u ∧ Rng z2 ∧ Rng y2 ∧ CW z2 y2) ∧ (kcAK z k n u ≠ 0 → z2 = z ∧ y2 = y)) 5 30 := by
  refine lM_of [(0, .ref (ad 0)), (1, vi k), (2, vi n), (3, vi u), (4, .ref ao)] (by decide +kernel) (Nat.le_of_ble_eq_true rfl) rfl ?_
  intro p e s m args below meth c A G hex hrt hTh hNo
  refine r_aload G 4 dL_addTask_0 rfl ?_
  refine r_iconst G dL_addTask_2 ?_
  refine r_aload_n G 0 dL_addTask_3 rfl ?_
  refine r_iload_n G 1 dL_addTask_4 rfl ?_
  refine r_iload_n G 2 dL_addTask_5 rfl ?_
  refine r_iload_n G 3 dL_addTask_6 rfl ?_
  refine r_xcalli (w0 := [(ao, oL aC fo)]) (w2 := []) (q0 := 0) (As := [vi k, vi n, vi u]) (st := [vi 0, .ref ao]) (y0 := yX7_addTask) (idx := 73) (C := RX7) G hTh KC_addTask (post := (fun r_ z2 y2 => kcAK z k n u = 0 ∧ r_ = z 3 0 ∧ z2 = mkF z k n u ∧ Rng z2 ∧ Rng y2 ∧ CW z2 y2)) (thr := (fun E => (E = eIAE ∧ kcAK z k n u = 1) ∨ (E = eIOB ∧ kcAK z k n u = 2) ∨ (E = eISE ∧ kcAK z k n u = 3))) (fun hd => c_addTask l hst hd hR hY hI_z_y k n u hn hu hk) rfl rfl rfl (xrm_ok (by decide) (by decide)) ⟨Nat.le_of_ble_eq_true rfl, Nat.le_of_ble_eq_true rfl⟩ (Nat.le_of_ble_eq_true rfl) dL_addTask_7 (fun E hE => ?_) (fun r9 z2 y2 hp => ?_)
  · rcases hE with ⟨rfl, hk⟩ | ⟨rfl, hk⟩ | ⟨rfl, hk⟩
    · refine r_catch G hTh (name := eIAE) (by decide +kernel) [] ⟨0, 12, 15, 21⟩ [⟨0, 12, 19, 19⟩, ⟨0, 12, 23, 13⟩] (hex.trans rfl) (fun _ h => absurd h List.not_mem_nil) (by decide) (by decide) cl_L_21 rfl (fun q9 => ?_)
      refine r_astore (Lv' := [(5, .ref q9), (0, .ref (ad 0)), (1, vi k), (2, vi n), (3, vi u), (4, .ref ao)]) G dL_addTask_15 (by decide) rfl ?_
      refine r_iconst G dL_addTask_17 ?_
      exact r_iret G hrt ⟨Nat.le_of_ble_eq_true rfl, Nat.le_of_ble_eq_true rfl⟩ dL_addTask_18 ⟨fo, z, y, rfl, hk.symm, fun h0 => absurd (hk.symm.trans h0) (by decide), fun _ => ⟨rfl, rfl⟩⟩
    · refine r_catch G hTh (name := eIOB) (by decide +kernel) [⟨0, 12, 15, 21⟩] ⟨0, 12, 19, 19⟩ [⟨0, 12, 23, 13⟩] (hex.trans rfl) (List.forall_mem_cons.mpr ⟨Or.inr ⟨by decide, eIAE, cl_L_21, hNo eIOB (by decide +kernel) eIAE (by decide +kernel) (by decide +kernel)⟩, fun _ h => absurd h List.not_mem_nil⟩) (by decide) (by decide) cl_L_19 rfl (fun q9 => ?_)
      refine r_astore (Lv' := [(5, .ref q9), (0, .ref (ad 0)), (1, vi k), (2, vi n), (3, vi u), (4, .ref ao)]) G dL_addTask_19 (by decide) rfl ?_
      refine r_iconst G dL_addTask_21 ?_
      exact r_iret G hrt ⟨Nat.le_of_ble_eq_true rfl, Nat.le_of_ble_eq_true rfl⟩ dL_addTask_22 ⟨fo, z, y, rfl, hk.symm, fun h0 => absurd (hk.symm.trans h0) (by decide), fun _ => ⟨rfl, rfl⟩⟩
    · refine r_catch G hTh (name := eISE) (by decide +kernel) [⟨0, 12, 15, 21⟩, ⟨0, 12, 19, 19⟩] ⟨0, 12, 23, 13⟩ [] (hex.trans rfl) (List.forall_mem_cons.mpr ⟨Or.inr ⟨by decide, eIAE, cl_L_21, hNo eISE (by decide +kernel) eIAE (by decide +kernel) (by decide +kernel)⟩, List.forall_mem_cons.mpr ⟨Or.inr ⟨by decide, eIOB, cl_L_19, hNo eISE (by decide +kernel) eIOB (by decide +kernel) (by decide +kernel)⟩, fun _ h => absurd h List.not_mem_nil⟩⟩) (by decide) (by decide) cl_L_13 rfl (fun q9 => ?_)
      refine r_astore (Lv' := [(5, .ref q9), (0, .ref (ad 0)), (1, vi k), (2, vi n), (3, vi u), (4, .ref ao)]) G dL_addTask_23 (by decide) rfl ?_
      refine r_iconst G dL_addTask_25 ?_
      exact r_iret G hrt ⟨Nat.le_of_ble_eq_true rfl, Nat.le_of_ble_eq_true rfl⟩ dL_addTask_26 ⟨fo, z, y, rfl, hk.symm, fun h0 => absurd (hk.symm.trans h0) (by decide), fun _ => ⟨rfl, rfl⟩⟩
  · obtain ⟨hk, hp⟩ := hp
    refine r_i2l G dL_addTask_10 ?_
    refine r_last (ws' := fun g => [(ao, oL aC g)] ++ (wd aC ad shC (zc z2 y2) ++ [])) G 0 rfl (fun _ _ => rfl) dL_addTask_11 (fun go hgo => ?_)
    refine r_goto (tgt := 27) G dL_addTask_12 (by decide) ?_
    refine r_iconst G dL_addTask_27 ?_
    exact r_iret G hrt ⟨Nat.le_of_ble_eq_true rfl, Nat.le_of_ble_eq_true rfl⟩ dL_addTask_28 ⟨go, z2, y2, rfl, hk.symm, fun _ => ⟨r9, hgo, hp⟩, fun h => absurd hk h⟩
theorem KC_kindOf : wCV RL 77 RX7 yX7_kindOf cX7_kindOf 2 (some (.char)) 1 := ⟨⟨ml_L_77, im_X7_kindOf, se_X7_kindOf, in_X7, co_X7_kindOf⟩, rfl, by decide +kernel, by decide +kernel, by decide +kernel⟩
set_option maxHeartbeats 4000000 in
set_option maxRecDepth 100000 in
theorem lw_kindOf (l : Launch) (hst : l.stackTraces = false) {D : va_G} {aC : Nat → ClassId} {ad : Nat → Nat} {z y : wZ} {ao : Nat} {fo : Nat → Int64} (hR : Rng z) (hY : Rng y) (hI_z_y : CW z y) (t : Int) (ht : -2147483648 ≤ t ∧ t ≤ 2147483647) : lM l D aC yL_kindOf cL_kindOf 4 [(0, 9, 12, 19)] (rmX 8 5 30) [.ref (ad 0), vi t, .ref ao] ([(ao, oL aC fo)] ++ (wd aC ad shC (zc z y) ++ [])) (fun i9 u9 => ∃ (go : Nat → Int64) (z2 y2 : wZ), u9 = [(ao, oL aC go)] ++ (wd aC ad shC (zc z2 y2) ++ []) ∧ i9 = kcK z t ∧ (kcK z t = 0 → ∃ r_ : Int, go 0 = (Int32.ofInt r_).toInt64 ∧ r_ = z 23 t ∧ z2 = z ∧ y2 = y) ∧ (kcK z t ≠ 0 → z2 = z ∧ y2 = y)) 5 30 := by
  refine lM_of [(0, .ref (ad 0)), (1, vi t), (2, .ref ao)] (by decide +kernel) (Nat.le_of_ble_eq_true rfl) rfl ?_
  intro p e s m args below meth c A G hex hrt hTh hNo
  refine r_aload_n G 2 dL_kindOf_0 rfl ?_
  refine r_iconst G dL_kindOf_1 ?_
  refine r_aload_n G 0 dL_kindOf_2 rfl ?_
  refine r_iload_n G 1 dL_kindOf_3 rfl ?_
  refine r_xcalli (w0 := [(ao, oL aC fo)]) (w2 := []) (q0 := 0) (As := [vi t]) (st := [vi 0, .ref ao]) (y0 := yX7_kindOf) (idx := 77) (C := RX7) G hTh KC_kindOf (post := (fun r_ z2 y2 => kcK z t = 0 ∧ r_ = z 23 t ∧ z2 = z ∧ y2 = y)) (thr := (fun E => (E = eIOB ∧ kcK z t = 1))) (fun hd => c_kindOf l hst hd hR hY hI_z_y t ht) rfl rfl rfl (xrm_ok (by decide) (by decide)) ⟨Nat.le_of_ble_eq_true rfl, Nat.le_of_ble_eq_true rfl⟩ (Nat.le_of_ble_eq_true rfl) dL_kindOf_4 (fun E hE => ?_) (fun r9 z2 y2 hp => ?_)
  · obtain ⟨rfl, hk⟩ := hE
    refine r_catch G hTh (name := eIOB) (by decide +kernel) [] ⟨0, 9, 12, 19⟩ [] (hex.trans rfl) (fun _ h => absurd h List.not_mem_nil) (by decide) (by decide) cl_L_19 rfl (fun q9 => ?_)
    refine r_astore_n (Lv' := [(3, .ref q9), (0, .ref (ad 0)), (1, vi t), (2, .ref ao)]) G dL_kindOf_12 (by decide) rfl ?_
    refine r_iconst G dL_kindOf_13 ?_
    exact r_iret G hrt ⟨Nat.le_of_ble_eq_true rfl, Nat.le_of_ble_eq_true rfl⟩ dL_kindOf_14 ⟨fo, z, y, rfl, hk.symm, fun h0 => absurd (hk.symm.trans h0) (by decide), fun _ => ⟨rfl, rfl⟩⟩
  · obtain ⟨hk, hp⟩ := hp
    refine r_i2l G dL_kindOf_7 ?_
    refine r_last (ws' := fun g => [(ao, oL aC g)] ++ (wd aC ad shC (zc z2 y2) ++ [])) G 0 rfl (fun _ _ => rfl) dL_kindOf_8 (fun go hgo => ?_)
    refine r_goto (tgt := 15) G dL_kindOf_9 (by decide) ?_
    refine r_iconst G dL_kindOf_15 ?_
    exact r_iret G hrt ⟨Nat.le_of_ble_eq_true rfl, Nat.le_of_ble_eq_true rfl⟩ dL_kindOf_16 ⟨go, z2, y2, rfl, hk.symm, fun _ => ⟨r9, hgo, hp⟩, fun h => absurd hk h⟩
theorem KC_numberOf : wCV RL 81 RX7 yX7_numberOf cX7_numberOf 2 (some (.int)) 1 := ⟨⟨ml_L_81, im_X7_numberOf, se_X7_numberOf, in_X7, co_X7_numberOf⟩, rfl, by decide +kernel, by decide +kernel, by decide +kernel⟩
set_option maxHeartbeats 4000000 in
set_option maxRecDepth 100000 in
theorem lw_numberOf (l : Launch) (hst : l.stackTraces = false) {D : va_G} {aC : Nat → ClassId} {ad : Nat → Nat} {z y : wZ} {ao : Nat} {fo : Nat → Int64} (hR : Rng z) (hY : Rng y) (hI_z_y : CW z y) (t : Int) (ht : -2147483648 ≤ t ∧ t ≤ 2147483647) : lM l D aC yL_numberOf cL_numberOf 4 [(0, 9, 12, 19)] (rmX 8 5 30) [.ref (ad 0), vi t, .ref ao] ([(ao, oL aC fo)] ++ (wd aC ad shC (zc z y) ++ [])) (fun i9 u9 => ∃ (go : Nat → Int64) (z2 y2 : wZ), u9 = [(ao, oL aC go)] ++ (wd aC ad shC (zc z2 y2) ++ []) ∧ i9 = kcK z t ∧ (kcK z t = 0 → ∃ r_ : Int, go 0 = (Int32.ofInt r_).toInt64 ∧ r_ = z 24 t ∧ z2 = z ∧ y2 = y) ∧ (kcK z t ≠ 0 → z2 = z ∧ y2 = y)) 5 30 := by
  refine lM_of [(0, .ref (ad 0)), (1, vi t), (2, .ref ao)] (by decide +kernel) (Nat.le_of_ble_eq_true rfl) rfl ?_
  intro p e s m args below meth c A G hex hrt hTh hNo
  refine r_aload_n G 2 dL_numberOf_0 rfl ?_
  refine r_iconst G dL_numberOf_1 ?_
  refine r_aload_n G 0 dL_numberOf_2 rfl ?_
  refine r_iload_n G 1 dL_numberOf_3 rfl ?_
  refine r_xcalli (w0 := [(ao, oL aC fo)]) (w2 := []) (q0 := 0) (As := [vi t]) (st := [vi 0, .ref ao]) (y0 := yX7_numberOf) (idx := 81) (C := RX7) G hTh KC_numberOf (post := (fun r_ z2 y2 => kcK z t = 0 ∧ r_ = z 24 t ∧ z2 = z ∧ y2 = y)) (thr := (fun E => (E = eIOB ∧ kcK z t = 1))) (fun hd => c_numberOf l hst hd hR hY hI_z_y t ht) rfl rfl rfl (xrm_ok (by decide) (by decide)) ⟨Nat.le_of_ble_eq_true rfl, Nat.le_of_ble_eq_true rfl⟩ (Nat.le_of_ble_eq_true rfl) dL_numberOf_4 (fun E hE => ?_) (fun r9 z2 y2 hp => ?_)
  · obtain ⟨rfl, hk⟩ := hE
    refine r_catch G hTh (name := eIOB) (by decide +kernel) [] ⟨0, 9, 12, 19⟩ [] (hex.trans rfl) (fun _ h => absurd h List.not_mem_nil) (by decide) (by decide) cl_L_19 rfl (fun q9 => ?_)
    refine r_astore_n (Lv' := [(3, .ref q9), (0, .ref (ad 0)), (1, vi t), (2, .ref ao)]) G dL_numberOf_12 (by decide) rfl ?_
    refine r_iconst G dL_numberOf_13 ?_
    exact r_iret G hrt ⟨Nat.le_of_ble_eq_true rfl, Nat.le_of_ble_eq_true rfl⟩ dL_numberOf_14 ⟨fo, z, y, rfl, hk.symm, fun h0 => absurd (hk.symm.trans h0) (by decide), fun _ => ⟨rfl, rfl⟩⟩
  · obtain ⟨hk, hp⟩ := hp
    refine r_i2l G dL_numberOf_7 ?_
    refine r_last (ws' := fun g => [(ao, oL aC g)] ++ (wd aC ad shC (zc z2 y2) ++ [])) G 0 rfl (fun _ _ => rfl) dL_numberOf_8 (fun go hgo => ?_)
    refine r_goto (tgt := 15) G dL_numberOf_9 (by decide) ?_
    refine r_iconst G dL_numberOf_15 ?_
    exact r_iret G hrt ⟨Nat.le_of_ble_eq_true rfl, Nat.le_of_ble_eq_true rfl⟩ dL_numberOf_16 ⟨go, z2, y2, rfl, hk.symm, fun _ => ⟨r9, hgo, hp⟩, fun h => absurd hk h⟩
theorem KC_doneBy : wCV RL 84 RX7 yX7_doneBy cX7_doneBy 2 (some (.int)) 1 := ⟨⟨ml_L_84, im_X7_doneBy, se_X7_doneBy, in_X7, co_X7_doneBy⟩, rfl, by decide +kernel, by decide +kernel, by decide +kernel⟩
set_option maxHeartbeats 4000000 in
set_option maxRecDepth 100000 in
theorem lw_doneBy (l : Launch) (hst : l.stackTraces = false) {D : va_G} {aC : Nat → ClassId} {ad : Nat → Nat} {z y : wZ} {ao : Nat} {fo : Nat → Int64} (hR : Rng z) (hY : Rng y) (hI_z_y : CW z y) (t : Int) (ht : -2147483648 ≤ t ∧ t ≤ 2147483647) : lM l D aC yL_doneBy cL_doneBy 4 [(0, 9, 12, 19), (0, 9, 15, 35)] (rmX 8 5 30) [.ref (ad 0), vi t, .ref ao] ([(ao, oL aC fo)] ++ (wd aC ad shC (zc z y) ++ [])) (fun i9 u9 => ∃ (go : Nat → Int64) (z2 y2 : wZ), u9 = [(ao, oL aC go)] ++ (wd aC ad shC (zc z2 y2) ++ []) ∧ i9 = kcDB z t ∧ (kcDB z t = 0 → ∃ r_ : Int, go 0 = (Int32.ofInt r_).toInt64 ∧ r_ = z 26 t ∧ z2 = z ∧ y2 = y) ∧ (kcDB z t ≠ 0 → z2 = z ∧ y2 = y)) 5 30 := by
  refine lM_of [(0, .ref (ad 0)), (1, vi t), (2, .ref ao)] (by decide +kernel) (Nat.le_of_ble_eq_true rfl) rfl ?_
  intro p e s m args below meth c A G hex hrt hTh hNo
  refine r_aload_n G 2 dL_doneBy_0 rfl ?_
  refine r_iconst G dL_doneBy_1 ?_
  refine r_aload_n G 0 dL_doneBy_2 rfl ?_
  refine r_iload_n G 1 dL_doneBy_3 rfl ?_
  refine r_xcalli (w0 := [(ao, oL aC fo)]) (w2 := []) (q0 := 0) (As := [vi t]) (st := [vi 0, .ref ao]) (y0 := yX7_doneBy) (idx := 84) (C := RX7) G hTh KC_doneBy (post := (fun r_ z2 y2 => kcDB z t = 0 ∧ r_ = z 26 t ∧ z2 = z ∧ y2 = y)) (thr := (fun E => (E = eIOB ∧ kcDB z t = 1) ∨ (E = eNSE ∧ kcDB z t = 2))) (fun hd => c_doneBy l hst hd hR hY hI_z_y t ht) rfl rfl rfl (xrm_ok (by decide) (by decide)) ⟨Nat.le_of_ble_eq_true rfl, Nat.le_of_ble_eq_true rfl⟩ (Nat.le_of_ble_eq_true rfl) dL_doneBy_4 (fun E hE => ?_) (fun r9 z2 y2 hp => ?_)
  · rcases hE with ⟨rfl, hk⟩ | ⟨rfl, hk⟩
    · refine r_catch G hTh (name := eIOB) (by decide +kernel) [] ⟨0, 9, 12, 19⟩ [⟨0, 9, 15, 35⟩] (hex.trans rfl) (fun _ h => absurd h List.not_mem_nil) (by decide) (by decide) cl_L_19 rfl (fun q9 => ?_)
      refine r_astore_n (Lv' := [(3, .ref q9), (0, .ref (ad 0)), (1, vi t), (2, .ref ao)]) G dL_doneBy_12 (by decide) rfl ?_
      refine r_iconst G dL_doneBy_13 ?_
      exact r_iret G hrt ⟨Nat.le_of_ble_eq_true rfl, Nat.le_of_ble_eq_true rfl⟩ dL_doneBy_14 ⟨fo, z, y, rfl, hk.symm, fun h0 => absurd (hk.symm.trans h0) (by decide), fun _ => ⟨rfl, rfl⟩⟩
    · refine r_catch G hTh (name := eNSE) (by decide +kernel) [⟨0, 9, 12, 19⟩] ⟨0, 9, 15, 35⟩ [] (hex.trans rfl) (List.forall_mem_cons.mpr ⟨Or.inr ⟨by decide, eIOB, cl_L_19, hNo eNSE (by decide +kernel) eIOB (by decide +kernel) (by decide +kernel)⟩, fun _ h => absurd h List.not_mem_nil⟩) (by decide) (by decide) cl_L_35 rfl (fun q9 => ?_)
      refine r_astore_n (Lv' := [(3, .ref q9), (0, .ref (ad 0)), (1, vi t), (2, .ref ao)]) G dL_doneBy_15 (by decide) rfl ?_
      refine r_iconst G dL_doneBy_16 ?_
      exact r_iret G hrt ⟨Nat.le_of_ble_eq_true rfl, Nat.le_of_ble_eq_true rfl⟩ dL_doneBy_17 ⟨fo, z, y, rfl, hk.symm, fun h0 => absurd (hk.symm.trans h0) (by decide), fun _ => ⟨rfl, rfl⟩⟩
  · obtain ⟨hk, hp⟩ := hp
    refine r_i2l G dL_doneBy_7 ?_
    refine r_last (ws' := fun g => [(ao, oL aC g)] ++ (wd aC ad shC (zc z2 y2) ++ [])) G 0 rfl (fun _ _ => rfl) dL_doneBy_8 (fun go hgo => ?_)
    refine r_goto (tgt := 18) G dL_doneBy_9 (by decide) ?_
    refine r_iconst G dL_doneBy_18 ?_
    exact r_iret G hrt ⟨Nat.le_of_ble_eq_true rfl, Nat.le_of_ble_eq_true rfl⟩ dL_doneBy_19 ⟨go, z2, y2, rfl, hk.symm, fun _ => ⟨r9, hgo, hp⟩, fun h => absurd hk h⟩
theorem KC_addRanger : wCV RL 87 RX7 yX7_addRanger cX7_addRanger 3 (some (.int)) 2 := ⟨⟨ml_L_87, im_X7_addRanger, se_X7_addRanger, in_X7, co_X7_addRanger⟩, rfl, by decide +kernel, by decide +kernel, by decide +kernel⟩
set_option maxHeartbeats 4000000 in
set_option maxRecDepth 100000 in
theorem lw_addRanger (l : Launch) (hst : l.stackTraces = false) {D : va_G} {aC : Nat → ClassId} {ad : Nat → Nat} {z y : wZ} {ao : Nat} {fo : Nat → Int64} (hR : Rng z) (hY : Rng y) (hI_z_y : CW z y) (f : Int) (tl : Int) (hf : -2147483648 ≤ f ∧ f ≤ 2147483647) (htl : -2147483648 ≤ tl ∧ tl ≤ 2147483647) : lM l D aC yL_addRanger cL_addRanger 5 [(0, 10, 13, 19), (0, 10, 17, 21), (0, 10, 21, 13)] (rmX 8 5 30) [.ref (ad 0), vi f, vi tl, .ref ao] ([(ao, oL aC fo)] ++ (wd aC ad shC (zc z y) ++ [])) (fun i9 u9 => ∃ (go : Nat → Int64) (z2 y2 : wZ), u9 = [(ao, oL aC go)] ++ (wd aC ad shC (zc z2 y2) ++ []) ∧ i9 = kcAR z f tl ∧ (kcAR z f tl = 0 → ∃ r_ : Int, go 0 = (Int32.ofInt r_).toInt64 ∧ r_ = z 4 0 ∧ z2 = enlF z f tl ∧ Rng z2 ∧ Rng y2 ∧ CW z2 y2) ∧ (kcAR z f tl ≠ 0 → z2 = z ∧ y2 = y)) 5 30 := by
  refine lM_of [(0, .ref (ad 0)), (1, vi f), (2, vi tl), (3, .ref ao)] (by decide +kernel) (Nat.le_of_ble_eq_true rfl) rfl ?_
  intro p e s m args below meth c A G hex hrt hTh hNo
  refine r_aload_n G 3 dL_addRanger_0 rfl ?_
  refine r_iconst G dL_addRanger_1 ?_
  refine r_aload_n G 0 dL_addRanger_2 rfl ?_
  refine r_iload_n G 1 dL_addRanger_3 rfl ?_
  refine r_iload_n G 2 dL_addRanger_4 rfl ?_
  refine r_xcalli (w0 := [(ao, oL aC fo)]) (w2 := []) (q0 := 0) (As := [vi f, vi tl]) (st := [vi 0, .ref ao]) (y0 := yX7_addRanger) (idx := 87) (C := RX7) G hTh KC_addRanger (post := (fun r_ z2 y2 => kcAR z f tl = 0 ∧ r_ = z 4 0 ∧ z2 = enlF z f tl ∧ Rng z2 ∧ Rng y2 ∧ CW z2 y2)) (thr := (fun E => (E = eIOB ∧ kcAR z f tl = 1) ∨ (E = eIAE ∧ kcAR z f tl = 2) ∨ (E = eISE ∧ kcAR z f tl = 3))) (fun hd => c_addRanger l hst hd hR hY hI_z_y f tl hf htl) rfl rfl rfl (xrm_ok (by decide) (by decide)) ⟨Nat.le_of_ble_eq_true rfl, Nat.le_of_ble_eq_true rfl⟩ (Nat.le_of_ble_eq_true rfl) dL_addRanger_5 (fun E hE => ?_) (fun r9 z2 y2 hp => ?_)
  · rcases hE with ⟨rfl, hk⟩ | ⟨rfl, hk⟩ | ⟨rfl, hk⟩
    · refine r_catch G hTh (name := eIOB) (by decide +kernel) [] ⟨0, 10, 13, 19⟩ [⟨0, 10, 17, 21⟩, ⟨0, 10, 21, 13⟩] (hex.trans rfl) (fun _ h => absurd h List.not_mem_nil) (by decide) (by decide) cl_L_19 rfl (fun q9 => ?_)
      refine r_astore (Lv' := [(4, .ref q9), (0, .ref (ad 0)), (1, vi f), (2, vi tl), (3, .ref ao)]) G dL_addRanger_13 (by decide) rfl ?_
      refine r_iconst G dL_addRanger_15 ?_
      exact r_iret G hrt ⟨Nat.le_of_ble_eq_true rfl, Nat.le_of_ble_eq_true rfl⟩ dL_addRanger_16 ⟨fo, z, y, rfl, hk.symm, fun h0 => absurd (hk.symm.trans h0) (by decide), fun _ => ⟨rfl, rfl⟩⟩
    · refine r_catch G hTh (name := eIAE) (by decide +kernel) [⟨0, 10, 13, 19⟩] ⟨0, 10, 17, 21⟩ [⟨0, 10, 21, 13⟩] (hex.trans rfl) (List.forall_mem_cons.mpr ⟨Or.inr ⟨by decide, eIOB, cl_L_19, hNo eIAE (by decide +kernel) eIOB (by decide +kernel) (by decide +kernel)⟩, fun _ h => absurd h List.not_mem_nil⟩) (by decide) (by decide) cl_L_21 rfl (fun q9 => ?_)
      refine r_astore (Lv' := [(4, .ref q9), (0, .ref (ad 0)), (1, vi f), (2, vi tl), (3, .ref ao)]) G dL_addRanger_17 (by decide) rfl ?_
      refine r_iconst G dL_addRanger_19 ?_
      exact r_iret G hrt ⟨Nat.le_of_ble_eq_true rfl, Nat.le_of_ble_eq_true rfl⟩ dL_addRanger_20 ⟨fo, z, y, rfl, hk.symm, fun h0 => absurd (hk.symm.trans h0) (by decide), fun _ => ⟨rfl, rfl⟩⟩
    · refine r_catch G hTh (name := eISE) (by decide +kernel) [⟨0, 10, 13, 19⟩, ⟨0, 10, 17, 21⟩] ⟨0, 10, 21, 13⟩ [] (hex.trans rfl) (List.forall_mem_cons.mpr ⟨Or.inr ⟨by decide, eIOB, cl_L_19, hNo eISE (by decide +kernel) eIOB (by decide +kernel) (by decide +kernel)⟩, List.forall_mem_cons.mpr ⟨Or.inr ⟨by decide, eIAE, cl_L_21, hNo eISE (by decide +kernel) eIAE (by decide +kernel) (by decide +kernel)⟩, fun _ h => absurd h List.not_mem_nil⟩⟩) (by decide) (by decide) cl_L_13 rfl (fun q9 => ?_)
      refine r_astore (Lv' := [(4, .ref q9), (0, .ref (ad 0)), (1, vi f), (2, vi tl), (3, .ref ao)]) G dL_addRanger_21 (by decide) rfl ?_
      refine r_iconst G dL_addRanger_23 ?_
      exact r_iret G hrt ⟨Nat.le_of_ble_eq_true rfl, Nat.le_of_ble_eq_true rfl⟩ dL_addRanger_24 ⟨fo, z, y, rfl, hk.symm, fun h0 => absurd (hk.symm.trans h0) (by decide), fun _ => ⟨rfl, rfl⟩⟩
  · obtain ⟨hk, hp⟩ := hp
    refine r_i2l G dL_addRanger_8 ?_
    refine r_last (ws' := fun g => [(ao, oL aC g)] ++ (wd aC ad shC (zc z2 y2) ++ [])) G 0 rfl (fun _ _ => rfl) dL_addRanger_9 (fun go hgo => ?_)
    refine r_goto (tgt := 25) G dL_addRanger_10 (by decide) ?_
    refine r_iconst G dL_addRanger_25 ?_
    exact r_iret G hrt ⟨Nat.le_of_ble_eq_true rfl, Nat.le_of_ble_eq_true rfl⟩ dL_addRanger_26 ⟨go, z2, y2, rfl, hk.symm, fun _ => ⟨r9, hgo, hp⟩, fun h => absurd hk h⟩
theorem KC_forkOf : wCV RL 90 RX7 yX7_forkOf cX7_forkOf 2 (some (.int)) 1 := ⟨⟨ml_L_90, im_X7_forkOf, se_X7_forkOf, in_X7, co_X7_forkOf⟩, rfl, by decide +kernel, by decide +kernel, by decide +kernel⟩
set_option maxHeartbeats 4000000 in
set_option maxRecDepth 100000 in
theorem lw_forkOf (l : Launch) (hst : l.stackTraces = false) {D : va_G} {aC : Nat → ClassId} {ad : Nat → Nat} {z y : wZ} {ao : Nat} {fo : Nat → Int64} (hR : Rng z) (hY : Rng y) (hI_z_y : CW z y) (r : Int) (hr : -2147483648 ≤ r ∧ r ≤ 2147483647) : lM l D aC yL_forkOf cL_forkOf 4 [(0, 9, 12, 19)] (rmX 8 5 30) [.ref (ad 0), vi r, .ref ao] ([(ao, oL aC fo)] ++ (wd aC ad shC (zc z y) ++ [])) (fun i9 u9 => ∃ (go : Nat → Int64) (z2 y2 : wZ), u9 = [(ao, oL aC go)] ++ (wd aC ad shC (zc z2 y2) ++ []) ∧ i9 = kcR z r ∧ (kcR z r = 0 → ∃ r_ : Int, go 0 = (Int32.ofInt r_).toInt64 ∧ r_ = z 27 r ∧ z2 = z ∧ y2 = y) ∧ (kcR z r ≠ 0 → z2 = z ∧ y2 = y)) 5 30 := by
  refine lM_of [(0, .ref (ad 0)), (1, vi r), (2, .ref ao)] (by decide +kernel) (Nat.le_of_ble_eq_true rfl) rfl ?_
  intro p e s m args below meth c A G hex hrt hTh hNo
  refine r_aload_n G 2 dL_forkOf_0 rfl ?_
  refine r_iconst G dL_forkOf_1 ?_
  refine r_aload_n G 0 dL_forkOf_2 rfl ?_
  refine r_iload_n G 1 dL_forkOf_3 rfl ?_
  refine r_xcalli (w0 := [(ao, oL aC fo)]) (w2 := []) (q0 := 0) (As := [vi r]) (st := [vi 0, .ref ao]) (y0 := yX7_forkOf) (idx := 90) (C := RX7) G hTh KC_forkOf (post := (fun r_ z2 y2 => kcR z r = 0 ∧ r_ = z 27 r ∧ z2 = z ∧ y2 = y)) (thr := (fun E => (E = eIOB ∧ kcR z r = 1))) (fun hd => c_forkOf l hst hd hR hY hI_z_y r hr) rfl rfl rfl (xrm_ok (by decide) (by decide)) ⟨Nat.le_of_ble_eq_true rfl, Nat.le_of_ble_eq_true rfl⟩ (Nat.le_of_ble_eq_true rfl) dL_forkOf_4 (fun E hE => ?_) (fun r9 z2 y2 hp => ?_)
  · obtain ⟨rfl, hk⟩ := hE
    refine r_catch G hTh (name := eIOB) (by decide +kernel) [] ⟨0, 9, 12, 19⟩ [] (hex.trans rfl) (fun _ h => absurd h List.not_mem_nil) (by decide) (by decide) cl_L_19 rfl (fun q9 => ?_)
    refine r_astore_n (Lv' := [(3, .ref q9), (0, .ref (ad 0)), (1, vi r), (2, .ref ao)]) G dL_forkOf_12 (by decide) rfl ?_
    refine r_iconst G dL_forkOf_13 ?_
    exact r_iret G hrt ⟨Nat.le_of_ble_eq_true rfl, Nat.le_of_ble_eq_true rfl⟩ dL_forkOf_14 ⟨fo, z, y, rfl, hk.symm, fun h0 => absurd (hk.symm.trans h0) (by decide), fun _ => ⟨rfl, rfl⟩⟩
  · obtain ⟨hk, hp⟩ := hp
    refine r_i2l G dL_forkOf_7 ?_
    refine r_last (ws' := fun g => [(ao, oL aC g)] ++ (wd aC ad shC (zc z2 y2) ++ [])) G 0 rfl (fun _ _ => rfl) dL_forkOf_8 (fun go hgo => ?_)
    refine r_goto (tgt := 15) G dL_forkOf_9 (by decide) ?_
    refine r_iconst G dL_forkOf_15 ?_
    exact r_iret G hrt ⟨Nat.le_of_ble_eq_true rfl, Nat.le_of_ble_eq_true rfl⟩ dL_forkOf_16 ⟨go, z2, y2, rfl, hk.symm, fun _ => ⟨r9, hgo, hp⟩, fun h => absurd hk h⟩
theorem KC_worked : wCV RL 93 RX7 yX7_worked cX7_worked 2 (some (.int)) 1 := ⟨⟨ml_L_93, im_X7_worked, se_X7_worked, in_X7, co_X7_worked⟩, rfl, by decide +kernel, by decide +kernel, by decide +kernel⟩
set_option maxHeartbeats 4000000 in
set_option maxRecDepth 100000 in
theorem lw_worked (l : Launch) (hst : l.stackTraces = false) {D : va_G} {aC : Nat → ClassId} {ad : Nat → Nat} {z y : wZ} {ao : Nat} {fo : Nat → Int64} (hR : Rng z) (hY : Rng y) (hI_z_y : CW z y) (r : Int) (hr : -2147483648 ≤ r ∧ r ≤ 2147483647) : lM l D aC yL_worked cL_worked 4 [(0, 9, 12, 19)] (rmX 8 5 30) [.ref (ad 0), vi r, .ref ao] ([(ao, oL aC fo)] ++ (wd aC ad shC (zc z y) ++ [])) (fun i9 u9 => ∃ (go : Nat → Int64) (z2 y2 : wZ), u9 = [(ao, oL aC go)] ++ (wd aC ad shC (zc z2 y2) ++ []) ∧ i9 = kcR z r ∧ (kcR z r = 0 → ∃ r_ : Int, go 0 = (Int32.ofInt r_).toInt64 ∧ r_ = z 29 r ∧ z2 = z ∧ y2 = y) ∧ (kcR z r ≠ 0 → z2 = z ∧ y2 = y)) 5 30 := by
  refine lM_of [(0, .ref (ad 0)), (1, vi r), (2, .ref ao)] (by decide +kernel) (Nat.le_of_ble_eq_true rfl) rfl ?_
  intro p e s m args below meth c A G hex hrt hTh hNo
  refine r_aload_n G 2 dL_worked_0 rfl ?_
  refine r_iconst G dL_worked_1 ?_
  refine r_aload_n G 0 dL_worked_2 rfl ?_
  refine r_iload_n G 1 dL_worked_3 rfl ?_
  refine r_xcalli (w0 := [(ao, oL aC fo)]) (w2 := []) (q0 := 0) (As := [vi r]) (st := [vi 0, .ref ao]) (y0 := yX7_worked) (idx := 93) (C := RX7) G hTh KC_worked (post := (fun r_ z2 y2 => kcR z r = 0 ∧ r_ = z 29 r ∧ z2 = z ∧ y2 = y)) (thr := (fun E => (E = eIOB ∧ kcR z r = 1))) (fun hd => c_worked l hst hd hR hY hI_z_y r hr) rfl rfl rfl (xrm_ok (by decide) (by decide)) ⟨Nat.le_of_ble_eq_true rfl, Nat.le_of_ble_eq_true rfl⟩ (Nat.le_of_ble_eq_true rfl) dL_worked_4 (fun E hE => ?_) (fun r9 z2 y2 hp => ?_)
  · obtain ⟨rfl, hk⟩ := hE
    refine r_catch G hTh (name := eIOB) (by decide +kernel) [] ⟨0, 9, 12, 19⟩ [] (hex.trans rfl) (fun _ h => absurd h List.not_mem_nil) (by decide) (by decide) cl_L_19 rfl (fun q9 => ?_)
    refine r_astore_n (Lv' := [(3, .ref q9), (0, .ref (ad 0)), (1, vi r), (2, .ref ao)]) G dL_worked_12 (by decide) rfl ?_
    refine r_iconst G dL_worked_13 ?_
    exact r_iret G hrt ⟨Nat.le_of_ble_eq_true rfl, Nat.le_of_ble_eq_true rfl⟩ dL_worked_14 ⟨fo, z, y, rfl, hk.symm, fun h0 => absurd (hk.symm.trans h0) (by decide), fun _ => ⟨rfl, rfl⟩⟩
  · obtain ⟨hk, hp⟩ := hp
    refine r_i2l G dL_worked_7 ?_
    refine r_last (ws' := fun g => [(ao, oL aC g)] ++ (wd aC ad shC (zc z2 y2) ++ [])) G 0 rfl (fun _ _ => rfl) dL_worked_8 (fun go hgo => ?_)
    refine r_goto (tgt := 15) G dL_worked_9 (by decide) ?_
    refine r_iconst G dL_worked_15 ?_
    exact r_iret G hrt ⟨Nat.le_of_ble_eq_true rfl, Nat.le_of_ble_eq_true rfl⟩ dL_worked_16 ⟨go, z2, y2, rfl, hk.symm, fun _ => ⟨r9, hgo, hp⟩, fun h => absurd hk h⟩
theorem KC_day : wCV RL 96 RX7 yX7_day cX7_day 3 (some (.int)) 0 := ⟨⟨ml_L_96, im_X7_day, se_X7_day, in_X7, co_X7_day⟩, rfl, by decide +kernel, by decide +kernel, by decide +kernel⟩
set_option maxHeartbeats 4000000 in
set_option maxRecDepth 100000 in
theorem lw_day (l : Launch) (hst : l.stackTraces = false) {D : va_G} {aC : Nat → ClassId} {ad : Nat → Nat} {z y : wZ} {ao : Nat} {fo : Nat → Int64} (hR : Rng z) (hY : Rng y) (hI_z_y : CW z y) (hwk : ∀ q, 0 ≤ q → q < z 4 0 → z 29 q ≤ 480 * z 7 0) : lM l D aC yL_day cL_day 3 [(0, 8, 11, 13)] (rmX 8 5 30) [.ref (ad 0), .ref ao] ([(ao, oL aC fo)] ++ (wd aC ad shC (zc z y) ++ [])) (fun i9 u9 => ∃ (go : Nat → Int64) (z2 y2 : wZ), u9 = [(ao, oL aC go)] ++ (wd aC ad shC (zc z2 y2) ++ []) ∧ i9 = kcDy z ∧ (kcDy z = 0 → ∃ r_ : Int, go 0 = (Int32.ofInt r_).toInt64 ∧ r_ = (dyL (z 4 0).toNat 0 z 0).1 ∧ z2 = zp (dyL (z 4 0).toNat 0 z 0).2 7 0 (z 7 0 + 1) ∧ Rng z2 ∧ Rng y2 ∧ CW z2 y2 ∧ z2 6 0 ≤ z 6 0 ∧ ∀ q, 0 ≤ q → q < z 4 0 → z2 29 q ≤ 480 * (z 7 0 + 1)) ∧ (kcDy z ≠ 0 → z2 = z ∧ y2 = y)) 5 30 := by
  refine lM_of [(0, .ref (ad 0)), (1, .ref ao)] (by decide +kernel) (Nat.le_of_ble_eq_true rfl) rfl ?_
  intro p e s m args below meth c A G hex hrt hTh hNo
  refine r_aload_n G 1 dL_day_0 rfl ?_
  refine r_iconst G dL_day_1 ?_
  refine r_aload_n G 0 dL_day_2 rfl ?_
  refine r_xcalli (w0 := [(ao, oL aC fo)]) (w2 := []) (q0 := 0) (As := []) (st := [vi 0, .ref ao]) (y0 := yX7_day) (idx := 96) (C := RX7) G hTh KC_day (post := (fun r_ z2 y2 => kcDy z = 0 ∧ r_ = (dyL (z 4 0).toNat 0 z 0).1 ∧ z2 = zp (dyL (z 4 0).toNat 0 z 0).2 7 0 (z 7 0 + 1) ∧ Rng z2 ∧ Rng y2 ∧ CW z2 y2 ∧ z2 6 0 ≤ z 6 0 ∧ ∀ q, 0 ≤ q → q < z 4 0 → z2 29 q ≤ 480 * (z 7 0 + 1))) (thr := (fun E => (E = eISE ∧ kcDy z = 1))) (fun hd => c_day l hst hd hR hY hI_z_y hwk) rfl rfl rfl (xrm_ok (by decide) (by decide)) ⟨Nat.le_of_ble_eq_true rfl, Nat.le_of_ble_eq_true rfl⟩ (Nat.le_of_ble_eq_true rfl) dL_day_3 (fun E hE => ?_) (fun r9 z2 y2 hp => ?_)
  · obtain ⟨rfl, hk⟩ := hE
    refine r_catch G hTh (name := eISE) (by decide +kernel) [] ⟨0, 8, 11, 13⟩ [] (hex.trans rfl) (fun _ h => absurd h List.not_mem_nil) (by decide) (by decide) cl_L_13 rfl (fun q9 => ?_)
    refine r_astore_n (Lv' := [(2, .ref q9), (0, .ref (ad 0)), (1, .ref ao)]) G dL_day_11 (by decide) rfl ?_
    refine r_iconst G dL_day_12 ?_
    exact r_iret G hrt ⟨Nat.le_of_ble_eq_true rfl, Nat.le_of_ble_eq_true rfl⟩ dL_day_13 ⟨fo, z, y, rfl, hk.symm, fun h0 => absurd (hk.symm.trans h0) (by decide), fun _ => ⟨rfl, rfl⟩⟩
  · obtain ⟨hk, hp⟩ := hp
    refine r_i2l G dL_day_6 ?_
    refine r_last (ws' := fun g => [(ao, oL aC g)] ++ (wd aC ad shC (zc z2 y2) ++ [])) G 0 rfl (fun _ _ => rfl) dL_day_7 (fun go hgo => ?_)
    refine r_goto (tgt := 14) G dL_day_8 (by decide) ?_
    refine r_iconst G dL_day_14 ?_
    exact r_iret G hrt ⟨Nat.le_of_ble_eq_true rfl, Nat.le_of_ble_eq_true rfl⟩ dL_day_15 ⟨go, z2, y2, rfl, hk.symm, fun _ => ⟨r9, hgo, hp⟩, fun h => absurd hk h⟩
theorem KC_print : wCV RL 100 RX7 yX7_print cX7_print 1 (some (.int)) 0 := ⟨⟨ml_L_100, im_X7_print, se_X7_print, in_X7, co_X7_print⟩, rfl, by decide +kernel, by decide +kernel, by decide +kernel⟩
set_option maxHeartbeats 4000000 in
set_option maxRecDepth 100000 in
theorem lw_print (l : Launch) (hst : l.stackTraces = false) {D : va_G} {aC : Nat → ClassId} {ad : Nat → Nat} {z y : wZ} {ao : Nat} {fo : Nat → Int64} (hR : Rng z) (hY : Rng y) (hI_z_y : CW z y) : lM l D aC yL_print cL_print 3 [(0, 8, 11, 13)] (rmX 8 5 30) [.ref (ad 0), .ref ao] ([(ao, oL aC fo)] ++ (wd aC ad shC (zc z y) ++ [])) (fun i9 u9 => ∃ (go : Nat → Int64) (z2 y2 : wZ), u9 = [(ao, oL aC go)] ++ (wd aC ad shC (zc z2 y2) ++ []) ∧ i9 = kcPr z ∧ (kcPr z = 0 → ∃ r_ : Int, go 0 = (Int32.ofInt r_).toInt64 ∧ r_ = z 5 0 ∧ z2 = drwF z (z 7 0) ∧ Rng z2 ∧ Rng y2 ∧ CW z2 y2) ∧ (kcPr z ≠ 0 → z2 = z ∧ y2 = y)) 5 30 := by
  refine lM_of [(0, .ref (ad 0)), (1, .ref ao)] (by decide +kernel) (Nat.le_of_ble_eq_true rfl) rfl ?_
  intro p e s m args below meth c A G hex hrt hTh hNo
  refine r_aload_n G 1 dL_print_0 rfl ?_
  refine r_iconst G dL_print_1 ?_
  refine r_aload_n G 0 dL_print_2 rfl ?_
  refine r_xcalli (w0 := [(ao, oL aC fo)]) (w2 := []) (q0 := 0) (As := []) (st := [vi 0, .ref ao]) (y0 := yX7_print) (idx := 100) (C := RX7) G hTh KC_print (post := (fun r_ z2 y2 => kcPr z = 0 ∧ r_ = z 5 0 ∧ z2 = drwF z (z 7 0) ∧ Rng z2 ∧ Rng y2 ∧ CW z2 y2)) (thr := (fun E => (E = eISE ∧ kcPr z = 1))) (fun hd => c_print l hst hd hR hY hI_z_y) rfl rfl rfl (xrm_ok (by decide) (by decide)) ⟨Nat.le_of_ble_eq_true rfl, Nat.le_of_ble_eq_true rfl⟩ (Nat.le_of_ble_eq_true rfl) dL_print_3 (fun E hE => ?_) (fun r9 z2 y2 hp => ?_)
  · obtain ⟨rfl, hk⟩ := hE
    refine r_catch G hTh (name := eISE) (by decide +kernel) [] ⟨0, 8, 11, 13⟩ [] (hex.trans rfl) (fun _ h => absurd h List.not_mem_nil) (by decide) (by decide) cl_L_13 rfl (fun q9 => ?_)
    refine r_astore_n (Lv' := [(2, .ref q9), (0, .ref (ad 0)), (1, .ref ao)]) G dL_print_11 (by decide) rfl ?_
    refine r_iconst G dL_print_12 ?_
    exact r_iret G hrt ⟨Nat.le_of_ble_eq_true rfl, Nat.le_of_ble_eq_true rfl⟩ dL_print_13 ⟨fo, z, y, rfl, hk.symm, fun h0 => absurd (hk.symm.trans h0) (by decide), fun _ => ⟨rfl, rfl⟩⟩
  · obtain ⟨hk, hp⟩ := hp
    refine r_i2l G dL_print_6 ?_
    refine r_last (ws' := fun g => [(ao, oL aC g)] ++ (wd aC ad shC (zc z2 y2) ++ [])) G 0 rfl (fun _ _ => rfl) dL_print_7 (fun go hgo => ?_)
    refine r_goto (tgt := 14) G dL_print_8 (by decide) ?_
    refine r_iconst G dL_print_14 ?_
    exact r_iret G hrt ⟨Nat.le_of_ble_eq_true rfl, Nat.le_of_ble_eq_true rfl⟩ dL_print_15 ⟨go, z2, y2, rfl, hk.symm, fun _ => ⟨r9, hgo, hp⟩, fun h => absurd hk h⟩
theorem KC_shows : wCV RL 103 RX7 yX7_shows cX7_shows 3 (some (.boolean)) 2 := ⟨⟨ml_L_103, im_X7_shows, se_X7_shows, in_X7, co_X7_shows⟩, rfl, by decide +kernel, by decide +kernel, by decide +kernel⟩
set_option maxHeartbeats 4000000 in
set_option maxRecDepth 100000 in
theorem lw_shows (l : Launch) (hst : l.stackTraces = false) {D : va_G} {aC : Nat → ClassId} {ad : Nat → Nat} {z y : wZ} {ao : Nat} {fo : Nat → Int64} (hR : Rng z) (hY : Rng y) (hI_z_y : CW z y) (mp : Int) (t : Int) (hmp : -2147483648 ≤ mp ∧ mp ≤ 2147483647) (ht : -2147483648 ≤ t ∧ t ≤ 2147483647) : lM l D aC yL_shows cL_shows 5 [(0, 17, 20, 19)] (rmX 8 5 30) [.ref (ad 0), vi mp, vi t, .ref ao] ([(ao, oL aC fo)] ++ (wd aC ad shC (zc z y) ++ [])) (fun i9 u9 => ∃ (go : Nat → Int64) (z2 y2 : wZ), u9 = [(ao, oL aC go)] ++ (wd aC ad shC (zc z2 y2) ++ []) ∧ i9 = kcSh z mp t ∧ (kcSh z mp t = 0 → ∃ r_ : Int, go 0 = gZ (Int32.ofInt r_) ∧ r_ = z 30 (mp * 24 + t) ∧ z2 = z ∧ y2 = y) ∧ (kcSh z mp t ≠ 0 → z2 = z ∧ y2 = y)) 5 30 := by
  refine lM_of [(0, .ref (ad 0)), (1, vi mp), (2, vi t), (3, .ref ao)] (by decide +kernel) (Nat.le_of_ble_eq_true rfl) rfl ?_
  intro p e s m args below meth c A G hex hrt hTh hNo
  refine r_aload_n G 3 dL_shows_0 rfl ?_
  refine r_iconst G dL_shows_1 ?_
  refine r_aload_n G 0 dL_shows_2 rfl ?_
  refine r_iload_n G 1 dL_shows_3 rfl ?_
  refine r_iload_n G 2 dL_shows_4 rfl ?_
  refine r_xcalli (w0 := [(ao, oL aC fo)]) (w2 := []) (q0 := 0) (As := [vi mp, vi t]) (st := [vi 0, .ref ao]) (y0 := yX7_shows) (idx := 103) (C := RX7) G hTh KC_shows (post := (fun r_ z2 y2 => kcSh z mp t = 0 ∧ r_ = z 30 (mp * 24 + t) ∧ z2 = z ∧ y2 = y)) (thr := (fun E => (E = eIOB ∧ kcSh z mp t = 1))) (fun hd => c_shows l hst hd hR hY hI_z_y mp t hmp ht) rfl rfl rfl (xrm_ok (by decide) (by decide)) ⟨Nat.le_of_ble_eq_true rfl, Nat.le_of_ble_eq_true rfl⟩ (Nat.le_of_ble_eq_true rfl) dL_shows_5 (fun E hE => ?_) (fun r9 z2 y2 hp => ?_)
  · obtain ⟨rfl, hk⟩ := hE
    refine r_catch G hTh (name := eIOB) (by decide +kernel) [] ⟨0, 17, 20, 19⟩ [] (hex.trans rfl) (fun _ h => absurd h List.not_mem_nil) (by decide) (by decide) cl_L_19 rfl (fun q9 => ?_)
    refine r_astore (Lv' := [(4, .ref q9), (0, .ref (ad 0)), (1, vi mp), (2, vi t), (3, .ref ao)]) G dL_shows_20 (by decide) rfl ?_
    refine r_iconst G dL_shows_22 ?_
    exact r_iret G hrt ⟨Nat.le_of_ble_eq_true rfl, Nat.le_of_ble_eq_true rfl⟩ dL_shows_23 ⟨fo, z, y, rfl, hk.symm, fun h0 => absurd (hk.symm.trans h0) (by decide), fun _ => ⟨rfl, rfl⟩⟩
  · obtain ⟨hk, hp⟩ := hp
    refine r_lbool G dL_shows_8 dL_shows_11 dL_shows_12 dL_shows_15 ?_
    refine r_last (ws' := fun g => [(ao, oL aC g)] ++ (wd aC ad shC (zc z2 y2) ++ [])) G 0 rfl (fun _ _ => rfl) dL_shows_16 (fun go hgo => ?_)
    refine r_goto (tgt := 24) G dL_shows_17 (by decide) ?_
    refine r_iconst G dL_shows_24 ?_
    exact r_iret G hrt ⟨Nat.le_of_ble_eq_true rfl, Nat.le_of_ble_eq_true rfl⟩ dL_shows_25 ⟨go, z2, y2, rfl, hk.symm, fun _ => ⟨r9, hgo, hp⟩, fun h => absurd hk h⟩
theorem KC_age : wCV RL 107 RX7 yX7_age cX7_age 2 (some (.int)) 1 := ⟨⟨ml_L_107, im_X7_age, se_X7_age, in_X7, co_X7_age⟩, rfl, by decide +kernel, by decide +kernel, by decide +kernel⟩
set_option maxHeartbeats 4000000 in
set_option maxRecDepth 100000 in
theorem lw_age (l : Launch) (hst : l.stackTraces = false) {D : va_G} {aC : Nat → ClassId} {ad : Nat → Nat} {z y : wZ} {ao : Nat} {fo : Nat → Int64} (hR : Rng z) (hY : Rng y) (hI_z_y : CW z y) (mp : Int) (hmp : -2147483648 ≤ mp ∧ mp ≤ 2147483647) : lM l D aC yL_age cL_age 4 [(0, 9, 12, 19)] (rmX 8 5 30) [.ref (ad 0), vi mp, .ref ao] ([(ao, oL aC fo)] ++ (wd aC ad shC (zc z y) ++ [])) (fun i9 u9 => ∃ (go : Nat → Int64) (z2 y2 : wZ), u9 = [(ao, oL aC go)] ++ (wd aC ad shC (zc z2 y2) ++ []) ∧ i9 = kcM z mp ∧ (kcM z mp = 0 → ∃ r_ : Int, go 0 = (Int32.ofInt r_).toInt64 ∧ r_ = z 7 0 - z 31 mp ∧ z2 = z ∧ y2 = y) ∧ (kcM z mp ≠ 0 → z2 = z ∧ y2 = y)) 5 30 := by
  refine lM_of [(0, .ref (ad 0)), (1, vi mp), (2, .ref ao)] (by decide +kernel) (Nat.le_of_ble_eq_true rfl) rfl ?_
  intro p e s m args below meth c A G hex hrt hTh hNo
  refine r_aload_n G 2 dL_age_0 rfl ?_
  refine r_iconst G dL_age_1 ?_
  refine r_aload_n G 0 dL_age_2 rfl ?_
  refine r_iload_n G 1 dL_age_3 rfl ?_
  refine r_xcalli (w0 := [(ao, oL aC fo)]) (w2 := []) (q0 := 0) (As := [vi mp]) (st := [vi 0, .ref ao]) (y0 := yX7_age) (idx := 107) (C := RX7) G hTh KC_age (post := (fun r_ z2 y2 => kcM z mp = 0 ∧ r_ = z 7 0 - z 31 mp ∧ z2 = z ∧ y2 = y)) (thr := (fun E => (E = eIOB ∧ kcM z mp = 1))) (fun hd => c_age l hst hd hR hY hI_z_y mp hmp) rfl rfl rfl (xrm_ok (by decide) (by decide)) ⟨Nat.le_of_ble_eq_true rfl, Nat.le_of_ble_eq_true rfl⟩ (Nat.le_of_ble_eq_true rfl) dL_age_4 (fun E hE => ?_) (fun r9 z2 y2 hp => ?_)
  · obtain ⟨rfl, hk⟩ := hE
    refine r_catch G hTh (name := eIOB) (by decide +kernel) [] ⟨0, 9, 12, 19⟩ [] (hex.trans rfl) (fun _ h => absurd h List.not_mem_nil) (by decide) (by decide) cl_L_19 rfl (fun q9 => ?_)
    refine r_astore_n (Lv' := [(3, .ref q9), (0, .ref (ad 0)), (1, vi mp), (2, .ref ao)]) G dL_age_12 (by decide) rfl ?_
    refine r_iconst G dL_age_13 ?_
    exact r_iret G hrt ⟨Nat.le_of_ble_eq_true rfl, Nat.le_of_ble_eq_true rfl⟩ dL_age_14 ⟨fo, z, y, rfl, hk.symm, fun h0 => absurd (hk.symm.trans h0) (by decide), fun _ => ⟨rfl, rfl⟩⟩
  · obtain ⟨hk, hp⟩ := hp
    refine r_i2l G dL_age_7 ?_
    refine r_last (ws' := fun g => [(ao, oL aC g)] ++ (wd aC ad shC (zc z2 y2) ++ [])) G 0 rfl (fun _ _ => rfl) dL_age_8 (fun go hgo => ?_)
    refine r_goto (tgt := 15) G dL_age_9 (by decide) ?_
    refine r_iconst G dL_age_15 ?_
    exact r_iret G hrt ⟨Nat.le_of_ble_eq_true rfl, Nat.le_of_ble_eq_true rfl⟩ dL_age_16 ⟨go, z2, y2, rfl, hk.symm, fun _ => ⟨r9, hgo, hp⟩, fun h => absurd hk h⟩
theorem KC_knownShare : wCV RL 110 RX7 yX7_knownShare cX7_knownShare 3 (some (.float)) 0 := ⟨⟨ml_L_110, im_X7_knownShare, se_X7_knownShare, in_X7, co_X7_knownShare⟩, rfl, by decide +kernel, by decide +kernel, by decide +kernel⟩
set_option maxHeartbeats 4000000 in
set_option maxRecDepth 100000 in
theorem lw_knownShare (l : Launch) (hst : l.stackTraces = false) {D : va_G} {aC : Nat → ClassId} {ad : Nat → Nat} {z y : wZ} {ao : Nat} {fo : Nat → UInt64} (hR : Rng z) (hY : Rng y) : lM l D aC yL_knownShare cL_knownShare 3 [(0, 8, 11, 114)] (rmX 8 5 30) [.ref (ad 0), .ref ao] (wd aC ad shC (zc z y) ++ [(ao, oD aC fo)]) (fun i9 u9 => ∃ (go : Nat → UInt64) (z2 y2 : wZ), u9 = wd aC ad shC (zc z2 y2) ++ [(ao, oD aC go)] ∧ i9 = kcKS z ∧ (kcKS z = 0 → ∃ r_ : UInt32, go 0 = FP.f2d r_ ∧ r_ = ksF z ∧ z2 = z ∧ y2 = y) ∧ (kcKS z ≠ 0 → z2 = z ∧ y2 = y)) 5 30 := by
  refine lM_of [(0, .ref (ad 0)), (1, .ref ao)] (by decide +kernel) (Nat.le_of_ble_eq_true rfl) rfl ?_
  intro p e s m args below meth c A G hex hrt hTh hNo
  refine r_aload_n G 1 dL_knownShare_0 rfl ?_
  refine r_iconst G dL_knownShare_1 ?_
  refine r_aload_n G 0 dL_knownShare_2 rfl ?_
  refine r_xcallf (w0 := []) (w2 := [(ao, oD aC fo)]) (q0 := 0) (As := []) (st := [vi 0, .ref ao]) (y0 := yX7_knownShare) (idx := 110) (C := RX7) G hTh KC_knownShare (post := (fun r_ z2 y2 => kcKS z = 0 ∧ r_ = ksF z ∧ z2 = z ∧ y2 = y)) (thr := (fun E => (E = eAE ∧ kcKS z = 1))) (fun hd => c_knownShare l hst hd hR hY) rfl rfl rfl (xrm_ok (by decide) (by decide)) ⟨Nat.le_of_ble_eq_true rfl, Nat.le_of_ble_eq_true rfl⟩ (Nat.le_of_ble_eq_true rfl) dL_knownShare_3 (fun E hE => ?_) (fun r9 z2 y2 hp => ?_)
  · obtain ⟨rfl, hk⟩ := hE
    refine r_catch G hTh (name := eAE) (by decide +kernel) [] ⟨0, 8, 11, 114⟩ [] (hex.trans rfl) (fun _ h => absurd h List.not_mem_nil) (by decide) (by decide) cl_L_114 rfl (fun q9 => ?_)
    refine r_astore_n (Lv' := [(2, .ref q9), (0, .ref (ad 0)), (1, .ref ao)]) G dL_knownShare_11 (by decide) rfl ?_
    refine r_iconst G dL_knownShare_12 ?_
    exact r_iret G hrt ⟨Nat.le_of_ble_eq_true rfl, Nat.le_of_ble_eq_true rfl⟩ dL_knownShare_13 ⟨fo, z, y, rfl, hk.symm, fun h0 => absurd (hk.symm.trans h0) (by decide), fun _ => ⟨rfl, rfl⟩⟩
  · obtain ⟨hk, hp⟩ := hp
    have hne : vf_n64 (FP.f2d r9) := by rw [hp.1]; exact n64_of (f2d_nn (ksF_n hR hk))
    refine r_f2d G hne dL_knownShare_6 ?_
    refine r_dast (ws' := fun g => wd aC ad shC (zc z2 y2) ++ [(ao, oD aC g)]) G 35 rfl (fun _ _ => rfl) dL_knownShare_7 (fun go hgo => ?_)
    refine r_goto (tgt := 14) G dL_knownShare_8 (by decide) ?_
    refine r_iconst G dL_knownShare_14 ?_
    exact r_iret G hrt ⟨Nat.le_of_ble_eq_true rfl, Nat.le_of_ble_eq_true rfl⟩ dL_knownShare_15 ⟨go, z2, y2, rfl, hk.symm, fun _ => ⟨r9, hgo, hp⟩, fun h => absurd hk h⟩
theorem KC_meanDanger : wCV RL 116 RX7 yX7_meanDanger cX7_meanDanger 3 (some (.double)) 0 := ⟨⟨ml_L_116, im_X7_meanDanger, se_X7_meanDanger, in_X7, co_X7_meanDanger⟩, rfl, by decide +kernel, by decide +kernel, by decide +kernel⟩
set_option maxHeartbeats 4000000 in
set_option maxRecDepth 100000 in
theorem lw_meanDanger (l : Launch) (hst : l.stackTraces = false) {D : va_G} {aC : Nat → ClassId} {ad : Nat → Nat} {z y : wZ} {ao : Nat} {fo : Nat → UInt64} (hR : Rng z) (hY : Rng y) (hI_z_y : CW z y) : lM l D aC yL_meanDanger cL_meanDanger 3 [(0, 7, 10, 114)] (rmX 8 5 30) [.ref (ad 0), .ref ao] (wd aC ad shC (zc z y) ++ [(ao, oD aC fo)]) (fun i9 u9 => ∃ (go : Nat → UInt64) (z2 y2 : wZ), u9 = wd aC ad shC (zc z2 y2) ++ [(ao, oD aC go)] ∧ i9 = kcMD z ∧ (kcMD z = 0 → ∃ r_ : UInt64, go 0 = r_ ∧ r_ = mdF z ∧ z2 = z ∧ y2 = y) ∧ (kcMD z ≠ 0 → z2 = z ∧ y2 = y)) 5 30 := by
  refine lM_of [(0, .ref (ad 0)), (1, .ref ao)] (by decide +kernel) (Nat.le_of_ble_eq_true rfl) rfl ?_
  intro p e s m args below meth c A G hex hrt hTh hNo
  refine r_aload_n G 1 dL_meanDanger_0 rfl ?_
  refine r_iconst G dL_meanDanger_1 ?_
  refine r_aload_n G 0 dL_meanDanger_2 rfl ?_
  refine r_xcalld (w0 := []) (w2 := [(ao, oD aC fo)]) (q0 := 0) (As := []) (st := [vi 0, .ref ao]) (y0 := yX7_meanDanger) (idx := 116) (C := RX7) G hTh KC_meanDanger (post := (fun r_ z2 y2 => kcMD z = 0 ∧ r_ = mdF z ∧ z2 = z ∧ y2 = y)) (thr := (fun E => (E = eAE ∧ kcMD z = 1))) (fun hd => c_meanDanger l hst hd hR hY hI_z_y) rfl rfl rfl (xrm_ok (by decide) (by decide)) ⟨Nat.le_of_ble_eq_true rfl, Nat.le_of_ble_eq_true rfl⟩ (Nat.le_of_ble_eq_true rfl) dL_meanDanger_3 (fun E hE => ?_) (fun r9 z2 y2 hp => ?_)
  · obtain ⟨rfl, hk⟩ := hE
    refine r_catch G hTh (name := eAE) (by decide +kernel) [] ⟨0, 7, 10, 114⟩ [] (hex.trans rfl) (fun _ h => absurd h List.not_mem_nil) (by decide) (by decide) cl_L_114 rfl (fun q9 => ?_)
    refine r_astore_n (Lv' := [(2, .ref q9), (0, .ref (ad 0)), (1, .ref ao)]) G dL_meanDanger_10 (by decide) rfl ?_
    refine r_iconst G dL_meanDanger_11 ?_
    exact r_iret G hrt ⟨Nat.le_of_ble_eq_true rfl, Nat.le_of_ble_eq_true rfl⟩ dL_meanDanger_12 ⟨fo, z, y, rfl, hk.symm, fun h0 => absurd (hk.symm.trans h0) (by decide), fun _ => ⟨rfl, rfl⟩⟩
  · obtain ⟨hk, hp⟩ := hp
    refine r_dast (ws' := fun g => wd aC ad shC (zc z2 y2) ++ [(ao, oD aC g)]) G 35 rfl (fun _ _ => rfl) dL_meanDanger_6 (fun go hgo => ?_)
    refine r_goto (tgt := 13) G dL_meanDanger_7 (by decide) ?_
    refine r_iconst G dL_meanDanger_13 ?_
    exact r_iret G hrt ⟨Nat.le_of_ble_eq_true rfl, Nat.le_of_ble_eq_true rfl⟩ dL_meanDanger_14 ⟨go, z2, y2, rfl, hk.symm, fun _ => ⟨r9, hgo, hp⟩, fun h => absurd hk h⟩
