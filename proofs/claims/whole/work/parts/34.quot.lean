theorem ksL_in (z : wZ) : ∀ (n : Nat) (t acc : Int), 0 ≤ acc → 0 ≤ ksL z n t acc ∧ ksL z n t acc ≤ acc + n
  | 0, t, acc, h => by unfold ksL; omega
  | n + 1, t, acc, h => by
    unfold ksL
    split
    · have := ksL_in z n (t + 1) (acc + 1) (by omega); omega
    · have := ksL_in z n (t + 1) acc h; omega
set_option maxHeartbeats 4000000 in
set_option maxRecDepth 100000 in
theorem c_knownShare (l : Launch) (hst : l.stackTraces = false) {D : va_G} {aC : Nat → ClassId} {ad : Nat → Nat} (hd : wDi ad shC) {z y : wZ} (hR : Rng z) (hY : Rng y)   : xMG l D aC ad shC yX7_knownShare cX7_knownShare 3 (.float) (rmX 6 1 6) [.ref (ad 0)] z y (cQf D aC ad shC (fun r_ z2 y2 => kcKS z = 0 ∧ r_ = ksF z ∧ z2 = z ∧ y2 = y)) (fun E => (E = eAE ∧ kcKS z = 1)) 1 6 := by
  refine x_G [some (.ref (ad 0)), none, none] (by decide +kernel) rfl (Nat.le_of_ble_eq_true rfl) rfl hd ?_
  intro p e s m args below meth c A G hr hT
  have q1 : 0 ≤ z 1 0 ∧ z 1 0 ≤ 24 := hR 1 0
  refine i_aload_n G dX7_knownShare_0 rfl ?_
  refine i_getr G F_X7_10 0 rfl rfl dX7_knownShare_1 ?_
  refine j_getz G F_X7_81 1 rfl rfl (by decide) dX7_knownShare_4 ?_
  have b4 : 0 ≤ z 1 0 ∧ z 1 0 ≤ 24 := hR 1 _
  refine i_iconst G dX7_knownShare_7 ?_
  refine i_icmp_ge (tgt := 22) G dX7_knownShare_8 (by decide) (by omega) (by omega) (fun h8 => ?_) (fun h8 => ?_)
  · skip
    refine i_iconst G dX7_knownShare_22 ?_
    refine i_istore_n (L' := [some (.ref (ad 0)), some (vi (0)), none]) G dX7_knownShare_23 (by decide) rfl ?_
    refine i_iconst G dX7_knownShare_24 ?_
    refine i_istore_n (L' := [some (.ref (ad 0)), some (vi (0)), some (vi (0))]) G dX7_knownShare_25 (by decide) rfl ?_
    have lp26 : ∀ (n26 : Nat) (acc t : Int), (0 ≤ t) → (t + n26 = z 1 0) → (0 ≤ acc ∧ acc ≤ t) → (ksL z n26 t acc = ksL z (z 1 0).toNat 0 0) → JW p l e (rmX 6 1 6) s m args below meth c 3 D aC ad A shC (vx_MQ below (cQf D aC ad shC (fun r_ z2 y2 => kcKS z = 0 ∧ r_ = ksF z ∧ z2 = z ∧ y2 = y) A) (xX D aC ad shC (zc z y) (fun E => (E = eAE ∧ kcKS z = 1)) A) args s 1 6 A) 0 0 (zc z y) 26 [some (.ref (ad 0)), some (vi (acc)), some (vi (t))] [] := by
      intro n26
      induction n26 with
      | zero => 
        intro acc t ht hn hac hF
        refine i_iload_n G dX7_knownShare_26 rfl ?_
        refine i_aload_n G dX7_knownShare_27 rfl ?_
        refine i_getr G F_X7_10 0 rfl rfl dX7_knownShare_28 ?_
        refine j_getz G F_X7_81 1 rfl rfl (by decide) dX7_knownShare_31 ?_
        have b31 : 0 ≤ z 1 0 ∧ z 1 0 ≤ 24 := hR 1 _
        refine i_icmp_ge (tgt := 73) G dX7_knownShare_34 (by decide) (by omega) (by omega) (fun h34 => ?_) (fun h34 => ?_)
        · skip
          refine i_iload_n G dX7_knownShare_73 rfl ?_
          refine i_i2f G dX7_knownShare_74 ?_
          refine i_aload_n G dX7_knownShare_75 rfl ?_
          refine i_getr G F_X7_10 0 rfl rfl dX7_knownShare_76 ?_
          refine j_getz G F_X7_81 1 rfl rfl (by decide) dX7_knownShare_79 ?_
          have b79 : 0 ≤ z 1 0 ∧ z 1 0 ≤ 24 := hR 1 _
          refine i_i2f G dX7_knownShare_82 ?_
          refine i_fdiv G (n32_of (fq_n (by omega))) dX7_knownShare_83 ?_
          refine x_retf G hr ⟨Nat.le_of_ble_eq_true rfl, Nat.le_of_ble_eq_true rfl⟩ dX7_knownShare_84 ?_
          have e : acc = ksL z (z 1 0).toNat 0 0 := hF
          exact ⟨by unfold kcKS; (repeat' split) <;> omega, by unfold ksF; rw [← e], rfl, rfl⟩
        · skip
          exfalso; omega
      | succ n26 ih26 => 
        intro acc t ht hn hac hF
        refine i_iload_n G dX7_knownShare_26 rfl ?_
        refine i_aload_n G dX7_knownShare_27 rfl ?_
        refine i_getr G F_X7_10 0 rfl rfl dX7_knownShare_28 ?_
        refine j_getz G F_X7_81 1 rfl rfl (by decide) dX7_knownShare_31 ?_
        have b31 : 0 ≤ z 1 0 ∧ z 1 0 ≤ 24 := hR 1 _
        refine i_icmp_ge (tgt := 73) G dX7_knownShare_34 (by decide) (by omega) (by omega) (fun h34 => ?_) (fun h34 => ?_)
        · skip
          exfalso; omega
        · skip
          refine i_aload_n G dX7_knownShare_37 rfl ?_
          refine i_getr G F_X7_10 0 rfl rfl dX7_knownShare_38 ?_
          refine i_getr G F_X7_181 1 rfl rfl dX7_knownShare_41 ?_
          refine i_getr G F_X7_97 10 rfl rfl dX7_knownShare_44 ?_
          refine i_iload_n G dX7_knownShare_47 rfl ?_
          refine j_zald_z G 11 rfl (by decide) (by decide) (by omega) (by omega) dX7_knownShare_48 ?_
          have b48 : 0 ≤ z 16 t ∧ z 16 t ≤ 1 := hR 16 _
          refine i_aload_n G dX7_knownShare_49 rfl ?_
          refine i_getr G F_X7_10 0 rfl rfl dX7_knownShare_50 ?_
          refine i_getr G F_X7_93 1 rfl rfl dX7_knownShare_53 ?_
          refine i_getr G F_X7_97 7 rfl rfl dX7_knownShare_56 ?_
          refine i_iload_n G dX7_knownShare_59 rfl ?_
          refine j_zald_z G 8 rfl (by decide) (by decide) (by omega) (by omega) dX7_knownShare_60 ?_
          have b60 : 0 ≤ z 15 t ∧ z 15 t ≤ 1 := hR 15 _
          refine i_icmp_ne (tgt := 67) G dX7_knownShare_61 (by decide) (by omega) (by omega) (fun h61 => ?_) (fun h61 => ?_)
          · skip
            refine i_iinc (L' := [some (.ref (ad 0)), some (vi (acc)), some (vi (t + 1))]) G dX7_knownShare_67 (by decide) rfl rfl ?_
            refine i_goto (tgt := 26) G dX7_knownShare_70 (by decide) ?_
            exact ih26 _ (t + 1) (by omega) (by omega) (by omega) (by rw [← hF, ksL]; congr 1; split <;> omega)
          · skip
            refine i_iinc (L' := [some (.ref (ad 0)), some (vi (acc + 1)), some (vi (t))]) G dX7_knownShare_64 (by decide) rfl rfl ?_
            refine i_iinc (L' := [some (.ref (ad 0)), some (vi (acc + 1)), some (vi (t + 1))]) G dX7_knownShare_67 (by decide) rfl rfl ?_
            refine i_goto (tgt := 26) G dX7_knownShare_70 (by decide) ?_
            exact ih26 _ (t + 1) (by omega) (by omega) (by omega) (by rw [← hF, ksL]; congr 1; split <;> omega)
    exact lp26 (z 1 0).toNat 0 0 (by omega) (by omega) (by omega) rfl
  · skip
    refine x_throwW (text := "no trails") G hT hst XF_AE (by decide +kernel) dX7_knownShare_11 dX7_knownShare_14 dX7_knownShare_15 dX7_knownShare_18 dX7_knownShare_21 ⟨Nat.le_of_ble_eq_true rfl, Nat.le_of_ble_eq_true rfl, Nat.le_of_ble_eq_true rfl, Nat.le_of_ble_eq_true rfl⟩ ⟨Nat.le_of_ble_eq_true rfl, Nat.le_of_ble_eq_true rfl⟩ rfl ?_
    exact ⟨rfl, by unfold kcKS; (repeat' split) <;> omega⟩
set_option maxHeartbeats 4000000 in
set_option maxRecDepth 100000 in
theorem c_meanDanger (l : Launch) (hst : l.stackTraces = false) {D : va_G} {aC : Nat → ClassId} {ad : Nat → Nat} (hd : wDi ad shC) {z y : wZ} (hR : Rng z) (hY : Rng y) (hI_z_y : CW z y)   : xMG l D aC ad shC yX7_meanDanger cX7_meanDanger 3 (.double) (rmX 6 1 6) [.ref (ad 0)] z y (cQd D aC ad shC (fun r_ z2 y2 => kcMD z = 0 ∧ r_ = mdF z ∧ z2 = z ∧ y2 = y)) (fun E => (E = eAE ∧ kcMD z = 1)) 1 6 := by
  refine x_G [some (.ref (ad 0)), none, none] (by decide +kernel) rfl (Nat.le_of_ble_eq_true rfl) rfl hd ?_
  intro p e s m args below meth c A G hr hT
  have q2 : 0 ≤ z 2 0 ∧ z 2 0 ≤ 30 := hR 2 0
  refine i_aload_n G dX7_meanDanger_0 rfl ?_
  refine i_getr G F_X7_19 0 rfl rfl dX7_meanDanger_1 ?_
  refine j_getz G F_X7_143 14 rfl rfl (by decide) dX7_meanDanger_4 ?_
  have b4 : 0 ≤ z 2 0 ∧ z 2 0 ≤ 30 := hR 2 _
  refine i_iconst G dX7_meanDanger_7 ?_
  refine i_icmp_ge (tgt := 22) G dX7_meanDanger_8 (by decide) (by omega) (by omega) (fun h8 => ?_) (fun h8 => ?_)
  · skip
    refine i_iconst G dX7_meanDanger_22 ?_
    refine i_istore_n (L' := [some (.ref (ad 0)), some (vi (0)), none]) G dX7_meanDanger_23 (by decide) rfl ?_
    refine i_iconst G dX7_meanDanger_24 ?_
    refine i_istore_n (L' := [some (.ref (ad 0)), some (vi (0)), some (vi (0))]) G dX7_meanDanger_25 (by decide) rfl ?_
    have lp26 : ∀ (n26 : Nat) (acc b : Int), (0 ≤ b) → (b + n26 = z 2 0) → (0 ≤ acc ∧ acc ≤ 1000 * b) → (mdL z n26 b acc = mdL z (z 2 0).toNat 0 0) → JW p l e (rmX 6 1 6) s m args below meth c 3 D aC ad A shC (vx_MQ below (cQd D aC ad shC (fun r_ z2 y2 => kcMD z = 0 ∧ r_ = mdF z ∧ z2 = z ∧ y2 = y) A) (xX D aC ad shC (zc z y) (fun E => (E = eAE ∧ kcMD z = 1)) A) args s 1 6 A) 0 0 (zc z y) 26 [some (.ref (ad 0)), some (vi (acc)), some (vi (b))] [] := by
      intro n26
      induction n26 with
      | zero => 
        intro acc b hb hn hac hF
        refine i_iload_n G dX7_meanDanger_26 rfl ?_
        refine i_aload_n G dX7_meanDanger_27 rfl ?_
        refine i_getr G F_X7_19 0 rfl rfl dX7_meanDanger_28 ?_
        refine j_getz G F_X7_143 14 rfl rfl (by decide) dX7_meanDanger_31 ?_
        have b31 : 0 ≤ z 2 0 ∧ z 2 0 ≤ 30 := hR 2 _
        refine i_icmp_ge (tgt := 65) G dX7_meanDanger_34 (by decide) (by omega) (by omega) (fun h34 => ?_) (fun h34 => ?_)
        · skip
          refine i_iload_n G dX7_meanDanger_65 rfl ?_
          refine i_i2d G dX7_meanDanger_66 ?_
          refine i_aload_n G dX7_meanDanger_67 rfl ?_
          refine i_getr G F_X7_19 0 rfl rfl dX7_meanDanger_68 ?_
          refine j_getz G F_X7_143 14 rfl rfl (by decide) dX7_meanDanger_71 ?_
          have b71 : 0 ≤ z 2 0 ∧ z 2 0 ≤ 30 := hR 2 _
          refine i_i2d G dX7_meanDanger_74 ?_
          refine i_ddiv G (n64_of (dq_n (by omega))) dX7_meanDanger_75 ?_
          refine x_retd G hr ⟨Nat.le_of_ble_eq_true rfl, Nat.le_of_ble_eq_true rfl⟩ dX7_meanDanger_76 ?_
          have e : acc = mdL z (z 2 0).toNat 0 0 := hF
          exact ⟨by unfold kcMD; (repeat' split) <;> omega, by unfold mdF; rw [← e], rfl, rfl⟩
        · skip
          exfalso; omega
      | succ n26 ih26 => 
        intro acc b hb hn hac hF
        refine i_iload_n G dX7_meanDanger_26 rfl ?_
        refine i_aload_n G dX7_meanDanger_27 rfl ?_
        refine i_getr G F_X7_19 0 rfl rfl dX7_meanDanger_28 ?_
        refine j_getz G F_X7_143 14 rfl rfl (by decide) dX7_meanDanger_31 ?_
        have b31 : 0 ≤ z 2 0 ∧ z 2 0 ≤ 30 := hR 2 _
        refine i_icmp_ge (tgt := 65) G dX7_meanDanger_34 (by decide) (by omega) (by omega) (fun h34 => ?_) (fun h34 => ?_)
        · skip
          exfalso; omega
        · skip
          refine i_iload_n G dX7_meanDanger_37 rfl ?_
          refine i_aload_n G dX7_meanDanger_38 rfl ?_
          refine i_getr G F_X7_19 0 rfl rfl dX7_meanDanger_39 ?_
          refine i_iload_n G dX7_meanDanger_42 rfl ?_
          refine i_aload_n G dX7_meanDanger_43 rfl ?_
          refine i_getr G F_X7_10 0 rfl rfl dX7_meanDanger_44 ?_
          refine i_aload_n G dX7_meanDanger_47 rfl ?_
          refine i_getr G F_X7_10 0 rfl rfl dX7_meanDanger_48 ?_
          refine i_getr G F_X7_181 1 rfl rfl dX7_meanDanger_51 ?_
          refine j_callE (q0 := 14) (As := [vi (b), .ref (ad 1), .ref (ad 10)]) (st := [vi (acc)]) G K_X7_170 (d_danger_0 l hd hR hY hI_z_y b (by first | assumption | omega)) rfl rfl rfl (rm_okX (by decide) (by decide)) ⟨Nat.le_of_ble_eq_true rfl, Nat.le_of_ble_eq_true rfl⟩ (Nat.le_of_ble_eq_true rfl) dX7_meanDanger_54 ?_
          have b54 : 0 ≤ (dgC z 16 (ds z 16) b) ∧ (dgC z 16 (ds z 16) b) ≤ 1000 := dgC_in _ _ _ _
          refine i_iadd G dX7_meanDanger_57 ?_
          refine i_istore_n (L' := [some (.ref (ad 0)), some (vi ((acc + (dgC z 16 (ds z 16) b)))), some (vi (b))]) G dX7_meanDanger_58 (by decide) rfl ?_
          refine i_iinc (L' := [some (.ref (ad 0)), some (vi ((acc + (dgC z 16 (ds z 16) b)))), some (vi (b + 1))]) G dX7_meanDanger_59 (by decide) rfl rfl ?_
          refine i_goto (tgt := 26) G dX7_meanDanger_62 (by decide) ?_
          exact ih26 _ (b + 1) (by omega) (by omega) (by omega) (by rw [← hF, mdL]; rfl)
    exact lp26 (z 2 0).toNat 0 0 (by omega) (by omega) (by omega) rfl
  · skip
    refine x_throwW (text := "no boards") G hT hst XF_AE (by decide +kernel) dX7_meanDanger_11 dX7_meanDanger_14 dX7_meanDanger_15 dX7_meanDanger_18 dX7_meanDanger_21 ⟨Nat.le_of_ble_eq_true rfl, Nat.le_of_ble_eq_true rfl, Nat.le_of_ble_eq_true rfl, Nat.le_of_ble_eq_true rfl⟩ ⟨Nat.le_of_ble_eq_true rfl, Nat.le_of_ble_eq_true rfl⟩ rfl ?_
    exact ⟨rfl, by unfold kcMD; (repeat' split) <;> omega⟩
set_option maxHeartbeats 4000000 in
set_option maxRecDepth 100000 in
theorem m_knownShare (l : Launch) {D : va_G} {aC : Nat → ClassId} {ad : Nat → Nat} (hd : wDi ad shM) {z y : wZ} (hR : Rng z) (hY : Rng y)   : cMG l D aC ad shM yX8_knownShare cX8_knownShare 3 (.float) (rmL 1) [.ref (ad 40)] z y (cQf D aC ad shM (fun r_ z2 y2 => y2 71 0 = kcKS z ∧ (kcKS z = 0 → r_ = ksF z) ∧ z2 = z ∧ Rng y2 ∧ ∀ k', k' ≠ 70 → k' ≠ 71 → y2 k' = y k')) := by
  refine c_G [some (.ref (ad 40)), none, none] (by decide +kernel) rfl (Nat.le_of_ble_eq_true rfl) rfl hd ?_
  intro p e s m args below meth c A G hr
  have q1 : 0 ≤ z 1 0 ∧ z 1 0 ≤ 24 := hR 1 0
  refine i_aload_n G dX8_knownShare_0 rfl ?_
  refine i_aload_n G dX8_knownShare_1 rfl ?_
  refine j_getz G F_X8_98 0 rfl rfl (by decide) dX8_knownShare_2 ?_
  have b2 : 0 ≤ z 1 0 ∧ z 1 0 ≤ 24 := hR 1 _
  refine i_if_ne (tgt := 12) G dX8_knownShare_5 (by decide) (by omega) (fun h5 => ?_) (fun h5 => ?_)
  · skip
    refine i_iconst G dX8_knownShare_12 ?_
    refine j_puty G P_X8_88 0 rfl rfl (by decide) (by decide) (by decide) hY (by show (0 : Int) ≤ _ ∧ _ ≤ (5 : Int); omega) dX8_knownShare_13 (fun y13 ey13 hRy13 => ?_)
    have et := congrFun (congrFun ey13 71) 0
    rw [zp_same] at et
    refine i_aload_n G dX8_knownShare_16 rfl ?_
    refine j_gety G F_X8_88 0 rfl rfl (by decide) dX8_knownShare_17 ?_
    have b17 : 0 ≤ y13 71 0 ∧ y13 71 0 ≤ 5 := hRy13 71 _
    refine i_if_le (tgt := 25) G dX8_knownShare_20 (by decide) (by omega) (fun h20 => ?_) (fun h20 => ?_)
    · skip
      refine i_iconst G dX8_knownShare_25 ?_
      refine i_istore_n (L' := [some (.ref (ad 40)), some (vi (0)), none]) G dX8_knownShare_26 (by decide) rfl ?_
      refine i_iconst G dX8_knownShare_27 ?_
      refine i_istore_n (L' := [some (.ref (ad 40)), some (vi (0)), some (vi (0))]) G dX8_knownShare_28 (by decide) rfl ?_
      have lp29 : ∀ (n29 : Nat) (acc t : Int), (0 ≤ t) → (t + n29 = z 1 0) → (0 ≤ acc ∧ acc ≤ t) → (ksL z n29 t acc = ksL z (z 1 0).toNat 0 0) → JW p l e (rmL 1) s m args below meth c 3 D aC ad A shM (MQ below (cQf D aC ad shM (fun r_ z2 y2 => y2 71 0 = kcKS z ∧ (kcKS z = 0 → r_ = ksF z) ∧ z2 = z ∧ Rng y2 ∧ ∀ k', k' ≠ 70 → k' ≠ 71 → y2 k' = y k') A) args s 0 0 A) 0 0 (zc z y13) 29 [some (.ref (ad 40)), some (vi (acc)), some (vi (t))] [] := by
        intro n29
        induction n29 with
        | zero => 
          intro acc t ht hn hac hF
          refine i_iload_n G dX8_knownShare_29 rfl ?_
          refine i_aload_n G dX8_knownShare_30 rfl ?_
          refine j_getz G F_X8_98 0 rfl rfl (by decide) dX8_knownShare_31 ?_
          have b31 : 0 ≤ z 1 0 ∧ z 1 0 ≤ 24 := hR 1 _
          refine i_icmp_ge (tgt := 66) G dX8_knownShare_34 (by decide) (by omega) (by omega) (fun h34 => ?_) (fun h34 => ?_)
          · skip
            refine i_iload_n G dX8_knownShare_66 rfl ?_
            refine i_i2f G dX8_knownShare_67 ?_
            refine i_aload_n G dX8_knownShare_68 rfl ?_
            refine j_getz G F_X8_98 0 rfl rfl (by decide) dX8_knownShare_69 ?_
            have b69 : 0 ≤ z 1 0 ∧ z 1 0 ≤ 24 := hR 1 _
            refine i_i2f G dX8_knownShare_72 ?_
            refine i_fdiv G (n32_of (fq_n (by omega))) dX8_knownShare_73 ?_
            refine j_retf G hr dX8_knownShare_74 ?_
            have e71 : y13 71 0 = kcKS z := by rw [ey13, zp_same]; unfold kcKS; (repeat' split) <;> omega
            have e : acc = ksL z (z 1 0).toNat 0 0 := hF
            exact ⟨e71, fun hk => by unfold ksF; rw [← e], rfl, hRy13, fun k a b => by rw [ey13, zp_nk _ b]⟩
          · skip
            exfalso; omega
        | succ n29 ih29 => 
          intro acc t ht hn hac hF
          refine i_iload_n G dX8_knownShare_29 rfl ?_
          refine i_aload_n G dX8_knownShare_30 rfl ?_
          refine j_getz G F_X8_98 0 rfl rfl (by decide) dX8_knownShare_31 ?_
          have b31 : 0 ≤ z 1 0 ∧ z 1 0 ≤ 24 := hR 1 _
          refine i_icmp_ge (tgt := 66) G dX8_knownShare_34 (by decide) (by omega) (by omega) (fun h34 => ?_) (fun h34 => ?_)
          · skip
            exfalso; omega
          · skip
            refine i_iload_n G dX8_knownShare_37 rfl ?_
            refine i_aload_n G dX8_knownShare_38 rfl ?_
            refine i_getr G F_X8_30 0 rfl rfl dX8_knownShare_39 ?_
            refine i_iload_n G dX8_knownShare_42 rfl ?_
            refine j_zald_z G 6 rfl (by decide) (by decide) (by omega) (by omega) dX8_knownShare_43 ?_
            have b43 : 0 ≤ z 15 t ∧ z 15 t ≤ 1 := hR 15 _
            refine i_aload_n G dX8_knownShare_44 rfl ?_
            refine i_getr G F_X8_33 0 rfl rfl dX8_knownShare_45 ?_
            refine i_iload_n G dX8_knownShare_48 rfl ?_
            refine j_zald_z G 7 rfl (by decide) (by decide) (by omega) (by omega) dX8_knownShare_49 ?_
            have b49 : 0 ≤ z 16 t ∧ z 16 t ≤ 1 := hR 16 _
            refine i_icmp_ne (tgt := 57) G dX8_knownShare_50 (by decide) (by omega) (by omega) (fun h50 => ?_) (fun h50 => ?_)
            · skip
              refine i_iconst G dX8_knownShare_57 ?_
              refine i_iadd G dX8_knownShare_58 ?_
              refine i_istore_n (L' := [some (.ref (ad 40)), some (vi ((acc + 0))), some (vi (t))]) G dX8_knownShare_59 (by decide) rfl ?_
              refine i_iinc (L' := [some (.ref (ad 40)), some (vi ((acc + 0))), some (vi (t + 1))]) G dX8_knownShare_60 (by decide) rfl rfl ?_
              refine i_goto (tgt := 29) G dX8_knownShare_63 (by decide) ?_
              exact ih29 _ (t + 1) (by omega) (by omega) (by omega) (by rw [← hF, ksL]; congr 1; split <;> omega)
            · skip
              refine i_iconst G dX8_knownShare_53 ?_
              refine i_goto (tgt := 58) G dX8_knownShare_54 (by decide) ?_
              refine i_iadd G dX8_knownShare_58 ?_
              refine i_istore_n (L' := [some (.ref (ad 40)), some (vi ((acc + 1))), some (vi (t))]) G dX8_knownShare_59 (by decide) rfl ?_
              refine i_iinc (L' := [some (.ref (ad 40)), some (vi ((acc + 1))), some (vi (t + 1))]) G dX8_knownShare_60 (by decide) rfl rfl ?_
              refine i_goto (tgt := 29) G dX8_knownShare_63 (by decide) ?_
              exact ih29 _ (t + 1) (by omega) (by omega) (by omega) (by rw [← hF, ksL]; congr 1; split <;> omega)
      exact lp29 (z 1 0).toNat 0 0 (by omega) (by omega) (by omega) rfl
    · skip
      refine i_fconst G dX8_knownShare_23 ?_
      refine j_retf G hr dX8_knownShare_24 ?_
      have e71 : y13 71 0 = kcKS z := by rw [ey13, zp_same]; unfold kcKS; (repeat' split) <;> omega
      exact ⟨e71, fun hk => by exfalso; omega, rfl, hRy13, fun k a b => by rw [ey13, zp_nk _ b]⟩
  · skip
    refine i_iconst G dX8_knownShare_8 ?_
    refine i_goto (tgt := 13) G dX8_knownShare_9 (by decide) ?_
    refine j_puty G P_X8_88 0 rfl rfl (by decide) (by decide) (by decide) hY (by show (0 : Int) ≤ _ ∧ _ ≤ (5 : Int); omega) dX8_knownShare_13 (fun y13 ey13 hRy13 => ?_)
    have et := congrFun (congrFun ey13 71) 0
    rw [zp_same] at et
    refine i_aload_n G dX8_knownShare_16 rfl ?_
    refine j_gety G F_X8_88 0 rfl rfl (by decide) dX8_knownShare_17 ?_
    have b17 : 0 ≤ y13 71 0 ∧ y13 71 0 ≤ 5 := hRy13 71 _
    refine i_if_le (tgt := 25) G dX8_knownShare_20 (by decide) (by omega) (fun h20 => ?_) (fun h20 => ?_)
    · skip
      refine i_iconst G dX8_knownShare_25 ?_
      refine i_istore_n (L' := [some (.ref (ad 40)), some (vi (0)), none]) G dX8_knownShare_26 (by decide) rfl ?_
      refine i_iconst G dX8_knownShare_27 ?_
      refine i_istore_n (L' := [some (.ref (ad 40)), some (vi (0)), some (vi (0))]) G dX8_knownShare_28 (by decide) rfl ?_
      have lp29 : ∀ (n29 : Nat) (acc t : Int), (0 ≤ t) → (t + n29 = z 1 0) → (0 ≤ acc ∧ acc ≤ t) → (ksL z n29 t acc = ksL z (z 1 0).toNat 0 0) → JW p l e (rmL 1) s m args below meth c 3 D aC ad A shM (MQ below (cQf D aC ad shM (fun r_ z2 y2 => y2 71 0 = kcKS z ∧ (kcKS z = 0 → r_ = ksF z) ∧ z2 = z ∧ Rng y2 ∧ ∀ k', k' ≠ 70 → k' ≠ 71 → y2 k' = y k') A) args s 0 0 A) 0 0 (zc z y13) 29 [some (.ref (ad 40)), some (vi (acc)), some (vi (t))] [] := by
        intro n29
        induction n29 with
        | zero => 
          intro acc t ht hn hac hF
          refine i_iload_n G dX8_knownShare_29 rfl ?_
          refine i_aload_n G dX8_knownShare_30 rfl ?_
          refine j_getz G F_X8_98 0 rfl rfl (by decide) dX8_knownShare_31 ?_
          have b31 : 0 ≤ z 1 0 ∧ z 1 0 ≤ 24 := hR 1 _
          refine i_icmp_ge (tgt := 66) G dX8_knownShare_34 (by decide) (by omega) (by omega) (fun h34 => ?_) (fun h34 => ?_)
          · skip
            refine i_iload_n G dX8_knownShare_66 rfl ?_
            refine i_i2f G dX8_knownShare_67 ?_
            refine i_aload_n G dX8_knownShare_68 rfl ?_
            refine j_getz G F_X8_98 0 rfl rfl (by decide) dX8_knownShare_69 ?_
            have b69 : 0 ≤ z 1 0 ∧ z 1 0 ≤ 24 := hR 1 _
            refine i_i2f G dX8_knownShare_72 ?_
            refine i_fdiv G (n32_of (fq_n (by omega))) dX8_knownShare_73 ?_
            refine j_retf G hr dX8_knownShare_74 ?_
            have e71 : y13 71 0 = kcKS z := by rw [ey13, zp_same]; unfold kcKS; (repeat' split) <;> omega
            have e : acc = ksL z (z 1 0).toNat 0 0 := hF
            exact ⟨e71, fun hk => by unfold ksF; rw [← e], rfl, hRy13, fun k a b => by rw [ey13, zp_nk _ b]⟩
          · skip
            exfalso; omega
        | succ n29 ih29 => 
          intro acc t ht hn hac hF
          refine i_iload_n G dX8_knownShare_29 rfl ?_
          refine i_aload_n G dX8_knownShare_30 rfl ?_
          refine j_getz G F_X8_98 0 rfl rfl (by decide) dX8_knownShare_31 ?_
          have b31 : 0 ≤ z 1 0 ∧ z 1 0 ≤ 24 := hR 1 _
          refine i_icmp_ge (tgt := 66) G dX8_knownShare_34 (by decide) (by omega) (by omega) (fun h34 => ?_) (fun h34 => ?_)
          · skip
            exfalso; omega
          · skip
            refine i_iload_n G dX8_knownShare_37 rfl ?_
            refine i_aload_n G dX8_knownShare_38 rfl ?_
            refine i_getr G F_X8_30 0 rfl rfl dX8_knownShare_39 ?_
            refine i_iload_n G dX8_knownShare_42 rfl ?_
            refine j_zald_z G 6 rfl (by decide) (by decide) (by omega) (by omega) dX8_knownShare_43 ?_
            have b43 : 0 ≤ z 15 t ∧ z 15 t ≤ 1 := hR 15 _
            refine i_aload_n G dX8_knownShare_44 rfl ?_
            refine i_getr G F_X8_33 0 rfl rfl dX8_knownShare_45 ?_
            refine i_iload_n G dX8_knownShare_48 rfl ?_
            refine j_zald_z G 7 rfl (by decide) (by decide) (by omega) (by omega) dX8_knownShare_49 ?_
            have b49 : 0 ≤ z 16 t ∧ z 16 t ≤ 1 := hR 16 _
            refine i_icmp_ne (tgt := 57) G dX8_knownShare_50 (by decide) (by omega) (by omega) (fun h50 => ?_) (fun h50 => ?_)
            · skip
              refine i_iconst G dX8_knownShare_57 ?_
              refine i_iadd G dX8_knownShare_58 ?_
              refine i_istore_n (L' := [some (.ref (ad 40)), some (vi ((acc + 0))), some (vi (t))]) G dX8_knownShare_59 (by decide) rfl ?_
              refine i_iinc (L' := [some (.ref (ad 40)), some (vi ((acc + 0))), some (vi (t + 1))]) G dX8_knownShare_60 (by decide) rfl rfl ?_
              refine i_goto (tgt := 29) G dX8_knownShare_63 (by decide) ?_
              exact ih29 _ (t + 1) (by omega) (by omega) (by omega) (by rw [← hF, ksL]; congr 1; split <;> omega)
            · skip
              refine i_iconst G dX8_knownShare_53 ?_
              refine i_goto (tgt := 58) G dX8_knownShare_54 (by decide) ?_
              refine i_iadd G dX8_knownShare_58 ?_
              refine i_istore_n (L' := [some (.ref (ad 40)), some (vi ((acc + 1))), some (vi (t))]) G dX8_knownShare_59 (by decide) rfl ?_
              refine i_iinc (L' := [some (.ref (ad 40)), some (vi ((acc + 1))), some (vi (t + 1))]) G dX8_knownShare_60 (by decide) rfl rfl ?_
              refine i_goto (tgt := 29) G dX8_knownShare_63 (by decide) ?_
              exact ih29 _ (t + 1) (by omega) (by omega) (by omega) (by rw [← hF, ksL]; congr 1; split <;> omega)
      exact lp29 (z 1 0).toNat 0 0 (by omega) (by omega) (by omega) rfl
    · skip
      refine i_fconst G dX8_knownShare_23 ?_
      refine j_retf G hr dX8_knownShare_24 ?_
      have e71 : y13 71 0 = kcKS z := by rw [ey13, zp_same]; unfold kcKS; (repeat' split) <;> omega
      exact ⟨e71, fun hk => by exfalso; omega, rfl, hRy13, fun k a b => by rw [ey13, zp_nk _ b]⟩
set_option maxHeartbeats 4000000 in
set_option maxRecDepth 100000 in
theorem m_meanDanger (l : Launch) {D : va_G} {aC : Nat → ClassId} {ad : Nat → Nat} (hd : wDi ad shM) {z y : wZ} (hR : Rng z) (hY : Rng y)  (hF : WF z) : cMG l D aC ad shM yX8_meanDanger cX8_meanDanger 3 (.double) (rmL 4) [.ref (ad 40)] z y (cQd D aC ad shM (fun r_ z2 y2 => y2 71 0 = kcMD z ∧ (kcMD z = 0 → r_ = mdF z) ∧ z2 = z ∧ Rng y2 ∧ ∀ k', k' ≠ 70 → k' ≠ 71 → y2 k' = y k')) := by
  refine c_G [some (.ref (ad 40)), none, none] (by decide +kernel) rfl (Nat.le_of_ble_eq_true rfl) rfl hd ?_
  intro p e s m args below meth c A G hr
  have q2 : 0 ≤ z 2 0 ∧ z 2 0 ≤ 30 := hR 2 0
  refine i_aload_n G dX8_meanDanger_0 rfl ?_
  refine i_aload_n G dX8_meanDanger_1 rfl ?_
  refine j_getz G F_X8_101 0 rfl rfl (by decide) dX8_meanDanger_2 ?_
  have b2 : 0 ≤ z 2 0 ∧ z 2 0 ≤ 30 := hR 2 _
  refine i_if_ne (tgt := 12) G dX8_meanDanger_5 (by decide) (by omega) (fun h5 => ?_) (fun h5 => ?_)
  · skip
    refine i_iconst G dX8_meanDanger_12 ?_
    refine j_puty G P_X8_88 0 rfl rfl (by decide) (by decide) (by decide) hY (by show (0 : Int) ≤ _ ∧ _ ≤ (5 : Int); omega) dX8_meanDanger_13 (fun y13 ey13 hRy13 => ?_)
    have et := congrFun (congrFun ey13 71) 0
    rw [zp_same] at et
    refine i_aload_n G dX8_meanDanger_16 rfl ?_
    refine j_gety G F_X8_88 0 rfl rfl (by decide) dX8_meanDanger_17 ?_
    have b17 : 0 ≤ y13 71 0 ∧ y13 71 0 ≤ 5 := hRy13 71 _
    refine i_if_le (tgt := 25) G dX8_meanDanger_20 (by decide) (by omega) (fun h20 => ?_) (fun h20 => ?_)
    · skip
      refine i_iconst G dX8_meanDanger_25 ?_
      refine i_istore_n (L' := [some (.ref (ad 40)), some (vi (0)), none]) G dX8_meanDanger_26 (by decide) rfl ?_
      refine i_iconst G dX8_meanDanger_27 ?_
      refine i_istore_n (L' := [some (.ref (ad 40)), some (vi (0)), some (vi (0))]) G dX8_meanDanger_28 (by decide) rfl ?_
      have lp29 : ∀ (n29 : Nat) (acc b : Int) (y29_ : wZ), Rng y29_ → (0 ≤ b) → (b + n29 = z 2 0) → (0 ≤ acc ∧ acc ≤ 1000 * b) → (∀ k', k' ≠ 70 → y29_ k' = y13 k') → (mdL z n29 b acc = mdL z (z 2 0).toNat 0 0) → JW p l e (rmL 4) s m args below meth c 3 D aC ad A shM (MQ below (cQd D aC ad shM (fun r_ z2 y2 => y2 71 0 = kcMD z ∧ (kcMD z = 0 → r_ = mdF z) ∧ z2 = z ∧ Rng y2 ∧ ∀ k', k' ≠ 70 → k' ≠ 71 → y2 k' = y k') A) args s 0 0 A) 0 0 (zc z y29_) 29 [some (.ref (ad 40)), some (vi (acc)), some (vi (b))] [] := by
        intro n29
        induction n29 with
        | zero => 
          intro acc b y29_ hRy29_ hb hn hac ho hM
          refine i_iload_n G dX8_meanDanger_29 rfl ?_
          refine i_aload_n G dX8_meanDanger_30 rfl ?_
          refine j_getz G F_X8_101 0 rfl rfl (by decide) dX8_meanDanger_31 ?_
          have b31 : 0 ≤ z 2 0 ∧ z 2 0 ≤ 30 := hR 2 _
          refine i_icmp_ge (tgt := 52) G dX8_meanDanger_34 (by decide) (by omega) (by omega) (fun h34 => ?_) (fun h34 => ?_)
          · skip
            refine i_iload_n G dX8_meanDanger_52 rfl ?_
            refine i_i2d G dX8_meanDanger_53 ?_
            refine i_aload_n G dX8_meanDanger_54 rfl ?_
            refine j_getz G F_X8_101 0 rfl rfl (by decide) dX8_meanDanger_55 ?_
            have b55 : 0 ≤ z 2 0 ∧ z 2 0 ≤ 30 := hR 2 _
            refine i_i2d G dX8_meanDanger_58 ?_
            refine i_ddiv G (n64_of (dq_n (by omega))) dX8_meanDanger_59 ?_
            refine j_retd G hr dX8_meanDanger_60 ?_
            have e71 : y13 71 0 = kcMD z := by rw [ey13, zp_same]; unfold kcMD; (repeat' split) <;> omega
            have e : acc = mdL z (z 2 0).toNat 0 0 := hM
            exact ⟨by rw [ho 71 (by decide)]; exact e71, fun hk => by unfold mdF; rw [← e], rfl, hRy29_, fun k a b => by rw [ho k a, ey13, zp_nk _ b]⟩
          · skip
            exfalso; omega
        | succ n29 ih29 => 
          intro acc b y29_ hRy29_ hb hn hac ho hM
          refine i_iload_n G dX8_meanDanger_29 rfl ?_
          refine i_aload_n G dX8_meanDanger_30 rfl ?_
          refine j_getz G F_X8_101 0 rfl rfl (by decide) dX8_meanDanger_31 ?_
          have b31 : 0 ≤ z 2 0 ∧ z 2 0 ≤ 30 := hR 2 _
          refine i_icmp_ge (tgt := 52) G dX8_meanDanger_34 (by decide) (by omega) (by omega) (fun h34 => ?_) (fun h34 => ?_)
          · skip
            exfalso; omega
          · skip
            refine i_iload_n G dX8_meanDanger_37 rfl ?_
            refine i_aload_n G dX8_meanDanger_38 rfl ?_
            refine i_iload_n G dX8_meanDanger_39 rfl ?_
            refine i_iconst G dX8_meanDanger_40 ?_
            refine j_callYi (q0 := 0) (As := [vi (b), vi (0)]) (st := [vi (acc)]) G K_X8_161 (m_dangerOf_0 l hd hR hRy29_ b (by first | assumption | omega) (by first | assumption | omega)) rfl rfl rfl (rm_ok (by decide) (by decide)) ⟨Nat.le_refl _, Nat.le_refl _⟩ (Nat.le_of_ble_eq_true rfl) dX8_meanDanger_41 (fun r41 y41 q41 => ?_)
            obtain ⟨er41, br41, hRy41, ho41⟩ := q41
            refine i_iadd G dX8_meanDanger_44 ?_
            refine i_istore_n (L' := [some (.ref (ad 40)), some (vi ((acc + r41))), some (vi (b))]) G dX8_meanDanger_45 (by decide) rfl ?_
            refine i_iinc (L' := [some (.ref (ad 40)), some (vi ((acc + r41))), some (vi (b + 1))]) G dX8_meanDanger_46 (by decide) rfl rfl ?_
            refine i_goto (tgt := 29) G dX8_meanDanger_49 (by decide) ?_
            have er41d : r41 = dng z b := er41
            exact ih29 _ (b + 1) y41 hRy41 (by omega) (by omega) (by omega) (fun k a => (ho41 k a).trans (ho k a)) (by rw [← hM, mdL, er41d])
      exact lp29 (z 2 0).toNat 0 0 y13 hRy13 (by omega) (by omega) (by omega) (fun _ _ => rfl) rfl
    · skip
      refine i_dconst G dX8_meanDanger_23 ?_
      refine j_retd G hr dX8_meanDanger_24 ?_
      have e71 : y13 71 0 = kcMD z := by rw [ey13, zp_same]; unfold kcMD; (repeat' split) <;> omega
      exact ⟨e71, fun hk => by exfalso; omega, rfl, hRy13, fun k a b => by rw [ey13, zp_nk _ b]⟩
  · skip
    refine i_iconst G dX8_meanDanger_8 ?_
    refine i_goto (tgt := 13) G dX8_meanDanger_9 (by decide) ?_
    refine j_puty G P_X8_88 0 rfl rfl (by decide) (by decide) (by decide) hY (by show (0 : Int) ≤ _ ∧ _ ≤ (5 : Int); omega) dX8_meanDanger_13 (fun y13 ey13 hRy13 => ?_)
    have et := congrFun (congrFun ey13 71) 0
    rw [zp_same] at et
    refine i_aload_n G dX8_meanDanger_16 rfl ?_
    refine j_gety G F_X8_88 0 rfl rfl (by decide) dX8_meanDanger_17 ?_
    have b17 : 0 ≤ y13 71 0 ∧ y13 71 0 ≤ 5 := hRy13 71 _
    refine i_if_le (tgt := 25) G dX8_meanDanger_20 (by decide) (by omega) (fun h20 => ?_) (fun h20 => ?_)
    · skip
      refine i_iconst G dX8_meanDanger_25 ?_
      refine i_istore_n (L' := [some (.ref (ad 40)), some (vi (0)), none]) G dX8_meanDanger_26 (by decide) rfl ?_
      refine i_iconst G dX8_meanDanger_27 ?_
      refine i_istore_n (L' := [some (.ref (ad 40)), some (vi (0)), some (vi (0))]) G dX8_meanDanger_28 (by decide) rfl ?_
      have lp29 : ∀ (n29 : Nat) (acc b : Int) (y29_ : wZ), Rng y29_ → (0 ≤ b) → (b + n29 = z 2 0) → (0 ≤ acc ∧ acc ≤ 1000 * b) → (∀ k', k' ≠ 70 → y29_ k' = y13 k') → (mdL z n29 b acc = mdL z (z 2 0).toNat 0 0) → JW p l e (rmL 4) s m args below meth c 3 D aC ad A shM (MQ below (cQd D aC ad shM (fun r_ z2 y2 => y2 71 0 = kcMD z ∧ (kcMD z = 0 → r_ = mdF z) ∧ z2 = z ∧ Rng y2 ∧ ∀ k', k' ≠ 70 → k' ≠ 71 → y2 k' = y k') A) args s 0 0 A) 0 0 (zc z y29_) 29 [some (.ref (ad 40)), some (vi (acc)), some (vi (b))] [] := by
        intro n29
        induction n29 with
        | zero => 
          intro acc b y29_ hRy29_ hb hn hac ho hM
          refine i_iload_n G dX8_meanDanger_29 rfl ?_
          refine i_aload_n G dX8_meanDanger_30 rfl ?_
          refine j_getz G F_X8_101 0 rfl rfl (by decide) dX8_meanDanger_31 ?_
          have b31 : 0 ≤ z 2 0 ∧ z 2 0 ≤ 30 := hR 2 _
          refine i_icmp_ge (tgt := 52) G dX8_meanDanger_34 (by decide) (by omega) (by omega) (fun h34 => ?_) (fun h34 => ?_)
          · skip
            refine i_iload_n G dX8_meanDanger_52 rfl ?_
            refine i_i2d G dX8_meanDanger_53 ?_
            refine i_aload_n G dX8_meanDanger_54 rfl ?_
            refine j_getz G F_X8_101 0 rfl rfl (by decide) dX8_meanDanger_55 ?_
            have b55 : 0 ≤ z 2 0 ∧ z 2 0 ≤ 30 := hR 2 _
            refine i_i2d G dX8_meanDanger_58 ?_
            refine i_ddiv G (n64_of (dq_n (by omega))) dX8_meanDanger_59 ?_
            refine j_retd G hr dX8_meanDanger_60 ?_
            have e71 : y13 71 0 = kcMD z := by rw [ey13, zp_same]; unfold kcMD; (repeat' split) <;> omega
            have e : acc = mdL z (z 2 0).toNat 0 0 := hM
            exact ⟨by rw [ho 71 (by decide)]; exact e71, fun hk => by unfold mdF; rw [← e], rfl, hRy29_, fun k a b => by rw [ho k a, ey13, zp_nk _ b]⟩
          · skip
            exfalso; omega
        | succ n29 ih29 => 
          intro acc b y29_ hRy29_ hb hn hac ho hM
          refine i_iload_n G dX8_meanDanger_29 rfl ?_
          refine i_aload_n G dX8_meanDanger_30 rfl ?_
          refine j_getz G F_X8_101 0 rfl rfl (by decide) dX8_meanDanger_31 ?_
          have b31 : 0 ≤ z 2 0 ∧ z 2 0 ≤ 30 := hR 2 _
          refine i_icmp_ge (tgt := 52) G dX8_meanDanger_34 (by decide) (by omega) (by omega) (fun h34 => ?_) (fun h34 => ?_)
          · skip
            exfalso; omega
          · skip
            refine i_iload_n G dX8_meanDanger_37 rfl ?_
            refine i_aload_n G dX8_meanDanger_38 rfl ?_
            refine i_iload_n G dX8_meanDanger_39 rfl ?_
            refine i_iconst G dX8_meanDanger_40 ?_
            refine j_callYi (q0 := 0) (As := [vi (b), vi (0)]) (st := [vi (acc)]) G K_X8_161 (m_dangerOf_0 l hd hR hRy29_ b (by first | assumption | omega) (by first | assumption | omega)) rfl rfl rfl (rm_ok (by decide) (by decide)) ⟨Nat.le_refl _, Nat.le_refl _⟩ (Nat.le_of_ble_eq_true rfl) dX8_meanDanger_41 (fun r41 y41 q41 => ?_)
            obtain ⟨er41, br41, hRy41, ho41⟩ := q41
            refine i_iadd G dX8_meanDanger_44 ?_
            refine i_istore_n (L' := [some (.ref (ad 40)), some (vi ((acc + r41))), some (vi (b))]) G dX8_meanDanger_45 (by decide) rfl ?_
            refine i_iinc (L' := [some (.ref (ad 40)), some (vi ((acc + r41))), some (vi (b + 1))]) G dX8_meanDanger_46 (by decide) rfl rfl ?_
            refine i_goto (tgt := 29) G dX8_meanDanger_49 (by decide) ?_
            have er41d : r41 = dng z b := er41
            exact ih29 _ (b + 1) y41 hRy41 (by omega) (by omega) (by omega) (fun k a => (ho41 k a).trans (ho k a)) (by rw [← hM, mdL, er41d])
      exact lp29 (z 2 0).toNat 0 0 y13 hRy13 (by omega) (by omega) (by omega) (fun _ _ => rfl) rfl
    · skip
      refine i_dconst G dX8_meanDanger_23 ?_
      refine j_retd G hr dX8_meanDanger_24 ?_
      have e71 : y13 71 0 = kcMD z := by rw [ey13, zp_same]; unfold kcMD; (repeat' split) <;> omega
      exact ⟨e71, fun hk => by exfalso; omega, rfl, hRy13, fun k a b => by rw [ey13, zp_nk _ b]⟩
