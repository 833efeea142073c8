set_option maxHeartbeats 4000000 in
set_option maxRecDepth 100000 in
theorem m_report (l : Launch) {D : va_G} {aC : Nat → ClassId} {ad : Nat → Nat} (hd : wDi ad shM) {z y : wZ} (hR : Rng z) (hY : Rng y) (w : Int) (t : Int) (g : Int) (hw : -2147483648 ≤ w ∧ w ≤ 2147483647) (ht : -2147483648 ≤ t ∧ t ≤ 2147483647) (hg : g = 0 ∨ g = 1) (hM : MI z y) : cMi l D aC ad shM yX8_report cX8_report 8 (.boolean) (rmL 2) [.ref (ad 40), vi w, vi t, vi g] z y (fun r_ z2 y2 => y2 71 0 = kcRp z w t ∧ (kcRp z w t = 0 → r_ = rpF z w t g 16 t ∧ z2 = rpF z w t g ∧ MI z2 y2) ∧ (kcRp z w t ≠ 0 → z2 = z ∧ y2 72 = y 72) ∧ Rng z2 ∧ Rng y2 ∧ ∀ k', k' ≠ 70 → k' ≠ 71 → k' ≠ 72 → y2 k' = y k') := by
  refine c_i [some (.ref (ad 40)), some (vi (w)), some (vi (t)), some (vi (g)), none, none, none, none] (by decide +kernel) rfl (Nat.le_of_ble_eq_true rfl) rfl hd ?_
  intro p e s m args below meth c A G hr
  have q1 : 0 ≤ z 1 0 ∧ z 1 0 ≤ 24 := hR 1 0
  refine i_aload_n G dX8_report_0 rfl ?_
  refine i_aload_n G dX8_report_1 rfl ?_
  refine i_iload_n G dX8_report_2 rfl ?_
  refine i_iconst G dX8_report_3 ?_
  refine i_bipush G dX8_report_4 (by decide) ?_
  refine j_callE (q0 := 0) (As := [vi (w), vi (0), vi (9)]) (st := [.ref (ad 40)]) G K_X8_94 (m_in l hd hR hY w 0 9 (by first | assumption | omega) (by first | assumption | omega) (by first | assumption | omega)) rfl rfl rfl (rm_ok (by decide) (by decide)) ⟨Nat.le_refl _, Nat.le_refl _⟩ (Nat.le_of_ble_eq_true rfl) dX8_report_6 ?_
  obtain ⟨r6, er6⟩ : ∃ x_ : Int, x_ = (if 0 ≤ w ∧ w ≤ 9 then 1 else 0) := ⟨_, rfl⟩
  rw [← er6]
  have b6 : (r6 = 1 ∧ 0 ≤ w ∧ w ≤ 9) ∨ (r6 = 0 ∧ ¬ (0 ≤ w ∧ w ≤ 9)) := by rw [er6]; split <;> omega
  refine i_if_ne (tgt := 16) G dX8_report_9 (by decide) (by omega) (fun h9 => ?_) (fun h9 => ?_)
  · skip
    refine i_aload_n G dX8_report_16 rfl ?_
    refine i_iload_n G dX8_report_17 rfl ?_
    refine j_callE (q0 := 0) (As := [vi (t)]) (st := [.ref (ad 40)]) G K_X8_121 (m_isTrail l hd hR hY t (by first | assumption | omega)) rfl rfl rfl (rm_ok (by decide) (by decide)) ⟨Nat.le_refl _, Nat.le_refl _⟩ (Nat.le_of_ble_eq_true rfl) dX8_report_18 ?_
    obtain ⟨r18, er18⟩ : ∃ x_ : Int, x_ = (if 0 ≤ t ∧ t < z 1 0 then 1 else 0) := ⟨_, rfl⟩
    rw [← er18]
    have b18 : (r18 = 1 ∧ 0 ≤ t ∧ t < z 1 0) ∨ (r18 = 0 ∧ ¬ (0 ≤ t ∧ t < z 1 0)) := by rw [er18]; split <;> omega
    refine i_if_ne (tgt := 28) G dX8_report_21 (by decide) (by omega) (fun h21 => ?_) (fun h21 => ?_)
    · skip
      refine i_iconst G dX8_report_28 ?_
      refine j_puty G P_X8_88 0 rfl rfl (by decide) (by decide) (by decide) hY (by show (0 : Int) ≤ _ ∧ _ ≤ (5 : Int); omega) dX8_report_29 (fun y29 ey29 hRy29 => ?_)
      have et := congrFun (congrFun ey29 71) 0
      rw [zp_same] at et
      refine i_aload_n G dX8_report_32 rfl ?_
      refine j_gety G F_X8_88 0 rfl rfl (by decide) dX8_report_33 ?_
      have b33 : 0 ≤ y29 71 0 ∧ y29 71 0 ≤ 5 := hRy29 71 _
      refine i_if_le (tgt := 41) G dX8_report_36 (by decide) (by omega) (fun h36 => ?_) (fun h36 => ?_)
      · skip
        refine i_aload_n G dX8_report_41 rfl ?_
        refine i_getr G F_X8_51 0 rfl rfl dX8_report_42 ?_
        refine i_iload_n G dX8_report_45 rfl ?_
        refine i_bipush G dX8_report_46 (by decide) ?_
        refine i_imul G dX8_report_48 ?_
        refine i_iload_n G dX8_report_49 rfl ?_
        refine i_iadd G dX8_report_50 ?_
        refine i_iload_n G dX8_report_51 rfl ?_
        refine i_if_eq (tgt := 59) G dX8_report_52 (by decide) (by omega) (fun h52 => ?_) (fun h52 => ?_)
        · skip
          refine i_iconst G dX8_report_59 ?_
          refine j_iast_y G 13 rfl (by decide) (by decide) (by omega) (by omega) (by decide) hRy29 (by show (0 : Int) ≤ _ ∧ _ ≤ (2 : Int); omega) dX8_report_60 (fun y60 ey60 hRy60 => ?_)
          have hwt : (0 ≤ w ∧ w < 10) ∧ (0 ≤ t ∧ t < z 1 0) := by omega
          refine j_sw (k := 32) (a := t * 10 + w) (x := (if g = 0 then 1 else 2)) (by decide +kernel) (by decide) ?_
          obtain ⟨zS, ezS⟩ : ∃ z_ : wZ, z_ = zp z 32 (t * 10 + w) (if g = 0 then 1 else 2) := ⟨_, rfl⟩
          rw [← ezS]
          have hRzS : Rng zS := by rw [ezS]; exact rng_zp hR (by show (0 : Int) ≤ _ ∧ _ ≤ (2 : Int); split <;> omega)
          have hMS : MI zS y60 := by rw [ezS, ey60]; exact MI_put (MI_y hM (by rw [ey29, zp_nk _ (by decide)])) (by rcases hg with rfl | rfl <;> first | rfl | (exfalso; omega))
          have e16 : zS 16 t = z 16 t := by rw [ezS, zp_nk _ (by decide)]
          refine i_iconst G dX8_report_61 ?_
          refine i_istore (L' := [some (.ref (ad 40)), some (vi (w)), some (vi (t)), some (vi (g)), some (vi (0)), none, none, none]) G dX8_report_62 (by decide) rfl ?_
          refine i_iconst G dX8_report_64 ?_
          refine i_istore (L' := [some (.ref (ad 40)), some (vi (w)), some (vi (t)), some (vi (g)), some (vi (0)), some (vi (0)), none, none]) G dX8_report_65 (by decide) rfl ?_
          refine i_iconst G dX8_report_67 ?_
          refine i_istore (L' := [some (.ref (ad 40)), some (vi (w)), some (vi (t)), some (vi (g)), some (vi (0)), some (vi (0)), some (vi (0)), none]) G dX8_report_68 (by decide) rfl ?_
          refine i_forget (L' := [some (.ref (ad 40)), some (vi (w)), some (vi (t)), some (vi (g)), some (vi (0)), some (vi (0)), some (vi (0)), none]) ⟨rfl, ⟨rfl, ⟨rfl, ⟨rfl, ⟨rfl, ⟨rfl, ⟨rfl, trivial⟩⟩⟩⟩⟩⟩⟩ ?_
          have lp70 : ∀ (n70 : Nat) (gn pa q : Int), (0 ≤ q) → (q + n70 = 10) → (0 ≤ gn ∧ gn ≤ 100 * q) → (0 ≤ pa ∧ pa ≤ 100 * q) → (trL zS t 2 n70 q gn = trL zS t 2 10 0 0) → (trL zS t 1 n70 q pa = trL zS t 1 10 0 0) → JW p l e (rmL 2) s m args below meth c 8 D aC ad A shM (MQ below (cQi D aC ad shM (fun r_ z2 y2 => y2 71 0 = kcRp z w t ∧ (kcRp z w t = 0 → r_ = rpF z w t g 16 t ∧ z2 = rpF z w t g ∧ MI z2 y2) ∧ (kcRp z w t ≠ 0 → z2 = z ∧ y2 72 = y 72) ∧ Rng z2 ∧ Rng y2 ∧ ∀ k', k' ≠ 70 → k' ≠ 71 → k' ≠ 72 → y2 k' = y k') A) args s 0 0 A) 0 0 (zc zS y60) 70 [some (.ref (ad 40)), some (vi (w)), some (vi (t)), some (vi (g)), some (vi (gn)), some (vi (pa)), some (vi (q)), none] [] := by
            intro n70
            induction n70 with
            | zero => 
              intro gn pa q hq hn hgn hpa hGL hPL
              have hG : gn = trL zS t 2 10 0 0 := hGL
              have hP : pa = trL zS t 1 10 0 0 := hPL
              refine i_iload G dX8_report_70 rfl ?_
              refine i_bipush G dX8_report_72 (by decide) ?_
              refine i_icmp_ge (tgt := 141) G dX8_report_74 (by decide) (by omega) (by omega) (fun h74 => ?_) (fun h74 => ?_)
              · skip
                refine i_iload G dX8_report_141 rfl ?_
                refine i_bipush G dX8_report_143 (by decide) ?_
                refine i_icmp_lt (tgt := 165) G dX8_report_145 (by decide) (by omega) (by omega) (fun h145 => ?_) (fun h145 => ?_)
                · skip
                  refine i_iload G dX8_report_165 rfl ?_
                  refine i_bipush G dX8_report_167 (by decide) ?_
                  refine i_icmp_lt (tgt := 186) G dX8_report_169 (by decide) (by omega) (by omega) (fun h169 => ?_) (fun h169 => ?_)
                  · skip
                    refine i_aload_n G dX8_report_186 rfl ?_
                    refine i_getr G F_X8_33 0 rfl rfl dX8_report_187 ?_
                    refine i_iload_n G dX8_report_190 rfl ?_
                    refine j_zald_z G 7 rfl (by decide) (by decide) (by omega) (by omega) dX8_report_191 ?_
                    have b191 : 0 ≤ zS 16 t ∧ zS 16 t ≤ 1 := hRzS 16 _
                    refine j_retz G hr (by omega) dX8_report_192 ?_
                    have e71 : y29 71 0 = kcRp z w t := by rw [ey29, zp_same]; unfold kcRp; (repeat' split) <;> omega
                    have eb : blvF zS t (z 16 t) = zS 16 t := by
                      unfold blvF
                      rw [← hG, ← hP]
                      show (if 100 ≤ gn ∧ pa < gn then (1 : Int) else if 100 ≤ pa ∧ gn ≤ pa then 0 else z 16 t) = _
                      rw [if_neg (by omega), if_neg (by omega), e16]
                    have ez : zS = rpF z w t g := by
                      unfold rpF
                      show _ = zp (ntF' z w t g) 16 t (blvF (ntF' z w t g) t (z 16 t))
                      rw [show ntF' z w t g = zS from ezS.symm, eb]
                      rw [zp_id]
                    have e716 : y60 71 0 = kcRp z w t := by rw [ey60, zp_nk _ (by decide)]; exact e71
                    refine ⟨e716, fun hk => ⟨by rw [← ez], ez, MI_z hMS (by first | rfl | rw [ezS, zp_nk _ (by decide)])⟩, fun hk => ?_, hRzS, hRy60, fun k a b c => by rw [ey60, zp_nk _ c, ey29, zp_nk _ b]⟩
                    exfalso
                    rw [ey29, zp_same] at e71
                    omega
                  · skip
                    refine i_iload G dX8_report_172 rfl ?_
                    refine i_iload G dX8_report_174 rfl ?_
                    refine i_icmp_lt (tgt := 186) G dX8_report_176 (by decide) (by omega) (by omega) (fun h176 => ?_) (fun h176 => ?_)
                    · skip
                      refine i_aload_n G dX8_report_186 rfl ?_
                      refine i_getr G F_X8_33 0 rfl rfl dX8_report_187 ?_
                      refine i_iload_n G dX8_report_190 rfl ?_
                      refine j_zald_z G 7 rfl (by decide) (by decide) (by omega) (by omega) dX8_report_191 ?_
                      have b191 : 0 ≤ zS 16 t ∧ zS 16 t ≤ 1 := hRzS 16 _
                      refine j_retz G hr (by omega) dX8_report_192 ?_
                      have e71 : y29 71 0 = kcRp z w t := by rw [ey29, zp_same]; unfold kcRp; (repeat' split) <;> omega
                      have eb : blvF zS t (z 16 t) = zS 16 t := by
                        unfold blvF
                        rw [← hG, ← hP]
                        show (if 100 ≤ gn ∧ pa < gn then (1 : Int) else if 100 ≤ pa ∧ gn ≤ pa then 0 else z 16 t) = _
                        rw [if_neg (by omega), if_neg (by omega), e16]
                      have ez : zS = rpF z w t g := by
                        unfold rpF
                        show _ = zp (ntF' z w t g) 16 t (blvF (ntF' z w t g) t (z 16 t))
                        rw [show ntF' z w t g = zS from ezS.symm, eb]
                        rw [zp_id]
                      have e716 : y60 71 0 = kcRp z w t := by rw [ey60, zp_nk _ (by decide)]; exact e71
                      refine ⟨e716, fun hk => ⟨by rw [← ez], ez, MI_z hMS (by first | rfl | rw [ezS, zp_nk _ (by decide)])⟩, fun hk => ?_, hRzS, hRy60, fun k a b c => by rw [ey60, zp_nk _ c, ey29, zp_nk _ b]⟩
                      exfalso
                      rw [ey29, zp_same] at e71
                      omega
                    · skip
                      refine i_aload_n G dX8_report_179 rfl ?_
                      refine i_getr G F_X8_33 0 rfl rfl dX8_report_180 ?_
                      refine i_iload_n G dX8_report_183 rfl ?_
                      refine i_iconst G dX8_report_184 ?_
                      refine j_zast_z G 7 rfl (by decide) (by decide) (by omega) (by omega) (by omega) (by decide) hRzS (by show (0 : Int) ≤ _ ∧ _ ≤ (1 : Int); omega) dX8_report_185 (fun z185 ez185 hRz185 => ?_)
                      refine i_aload_n G dX8_report_186 rfl ?_
                      refine i_getr G F_X8_33 0 rfl rfl dX8_report_187 ?_
                      refine i_iload_n G dX8_report_190 rfl ?_
                      refine j_zald_z G 7 rfl (by decide) (by decide) (by omega) (by omega) dX8_report_191 ?_
                      have b191 : 0 ≤ z185 16 t ∧ z185 16 t ≤ 1 := hRz185 16 _
                      refine j_retz G hr (by omega) dX8_report_192 ?_
                      have e71 : y29 71 0 = kcRp z w t := by rw [ey29, zp_same]; unfold kcRp; (repeat' split) <;> omega
                      have eb : blvF zS t (z 16 t) = 0 := by
                        unfold blvF
                        rw [← hG, ← hP]
                        show (if 100 ≤ gn ∧ pa < gn then (1 : Int) else if 100 ≤ pa ∧ gn ≤ pa then 0 else z 16 t) = _
                        rw [if_neg (by omega), if_pos (by omega)]
                      have ez : z185 = rpF z w t g := by
                        unfold rpF
                        show _ = zp (ntF' z w t g) 16 t (blvF (ntF' z w t g) t (z 16 t))
                        rw [show ntF' z w t g = zS from ezS.symm, eb]
                        first | rfl | rw [ez185]
                      have e716 : y60 71 0 = kcRp z w t := by rw [ey60, zp_nk _ (by decide)]; exact e71
                      refine ⟨e716, fun hk => ⟨by rw [← ez], ez, MI_z hMS (by first | rfl | rw [ez185, zp_nk _ (by decide)])⟩, fun hk => ?_, hRz185, hRy60, fun k a b c => by rw [ey60, zp_nk _ c, ey29, zp_nk _ b]⟩
                      exfalso
                      rw [ey29, zp_same] at e71
                      omega
                · skip
                  refine i_iload G dX8_report_148 rfl ?_
                  refine i_iload G dX8_report_150 rfl ?_
                  refine i_icmp_le (tgt := 165) G dX8_report_152 (by decide) (by omega) (by omega) (fun h152 => ?_) (fun h152 => ?_)
                  · skip
                    refine i_iload G dX8_report_165 rfl ?_
                    refine i_bipush G dX8_report_167 (by decide) ?_
                    refine i_icmp_lt (tgt := 186) G dX8_report_169 (by decide) (by omega) (by omega) (fun h169 => ?_) (fun h169 => ?_)
                    · skip
                      refine i_aload_n G dX8_report_186 rfl ?_
                      refine i_getr G F_X8_33 0 rfl rfl dX8_report_187 ?_
                      refine i_iload_n G dX8_report_190 rfl ?_
                      refine j_zald_z G 7 rfl (by decide) (by decide) (by omega) (by omega) dX8_report_191 ?_
                      have b191 : 0 ≤ zS 16 t ∧ zS 16 t ≤ 1 := hRzS 16 _
                      refine j_retz G hr (by omega) dX8_report_192 ?_
                      have e71 : y29 71 0 = kcRp z w t := by rw [ey29, zp_same]; unfold kcRp; (repeat' split) <;> omega
                      have eb : blvF zS t (z 16 t) = zS 16 t := by
                        unfold blvF
                        rw [← hG, ← hP]
                        show (if 100 ≤ gn ∧ pa < gn then (1 : Int) else if 100 ≤ pa ∧ gn ≤ pa then 0 else z 16 t) = _
                        rw [if_neg (by omega), if_neg (by omega), e16]
                      have ez : zS = rpF z w t g := by
                        unfold rpF
                        show _ = zp (ntF' z w t g) 16 t (blvF (ntF' z w t g) t (z 16 t))
                        rw [show ntF' z w t g = zS from ezS.symm, eb]
                        rw [zp_id]
                      have e716 : y60 71 0 = kcRp z w t := by rw [ey60, zp_nk _ (by decide)]; exact e71
                      refine ⟨e716, fun hk => ⟨by rw [← ez], ez, MI_z hMS (by first | rfl | rw [ezS, zp_nk _ (by decide)])⟩, fun hk => ?_, hRzS, hRy60, fun k a b c => by rw [ey60, zp_nk _ c, ey29, zp_nk _ b]⟩
                      exfalso
                      rw [ey29, zp_same] at e71
                      omega
                    · skip
                      refine i_iload G dX8_report_172 rfl ?_
                      refine i_iload G dX8_report_174 rfl ?_
                      refine i_icmp_lt (tgt := 186) G dX8_report_176 (by decide) (by omega) (by omega) (fun h176 => ?_) (fun h176 => ?_)
                      · skip
                        refine i_aload_n G dX8_report_186 rfl ?_
                        refine i_getr G F_X8_33 0 rfl rfl dX8_report_187 ?_
                        refine i_iload_n G dX8_report_190 rfl ?_
                        refine j_zald_z G 7 rfl (by decide) (by decide) (by omega) (by omega) dX8_report_191 ?_
                        have b191 : 0 ≤ zS 16 t ∧ zS 16 t ≤ 1 := hRzS 16 _
                        refine j_retz G hr (by omega) dX8_report_192 ?_
                        have e71 : y29 71 0 = kcRp z w t := by rw [ey29, zp_same]; unfold kcRp; (repeat' split) <;> omega
                        have eb : blvF zS t (z 16 t) = zS 16 t := by
                          unfold blvF
                          rw [← hG, ← hP]
                          show (if 100 ≤ gn ∧ pa < gn then (1 : Int) else if 100 ≤ pa ∧ gn ≤ pa then 0 else z 16 t) = _
                          rw [if_neg (by omega), if_neg (by omega), e16]
                        have ez : zS = rpF z w t g := by
                          unfold rpF
                          show _ = zp (ntF' z w t g) 16 t (blvF (ntF' z w t g) t (z 16 t))
                          rw [show ntF' z w t g = zS from ezS.symm, eb]
                          rw [zp_id]
                        have e716 : y60 71 0 = kcRp z w t := by rw [ey60, zp_nk _ (by decide)]; exact e71
                        refine ⟨e716, fun hk => ⟨by rw [← ez], ez, MI_z hMS (by first | rfl | rw [ezS, zp_nk _ (by decide)])⟩, fun hk => ?_, hRzS, hRy60, fun k a b c => by rw [ey60, zp_nk _ c, ey29, zp_nk _ b]⟩
                        exfalso
                        rw [ey29, zp_same] at e71
                        omega
                      · skip
                        refine i_aload_n G dX8_report_179 rfl ?_
                        refine i_getr G F_X8_33 0 rfl rfl dX8_report_180 ?_
                        refine i_iload_n G dX8_report_183 rfl ?_
                        refine i_iconst G dX8_report_184 ?_
                        refine j_zast_z G 7 rfl (by decide) (by decide) (by omega) (by omega) (by omega) (by decide) hRzS (by show (0 : Int) ≤ _ ∧ _ ≤ (1 : Int); omega) dX8_report_185 (fun z185 ez185 hRz185 => ?_)
                        refine i_aload_n G dX8_report_186 rfl ?_
                        refine i_getr G F_X8_33 0 rfl rfl dX8_report_187 ?_
                        refine i_iload_n G dX8_report_190 rfl ?_
                        refine j_zald_z G 7 rfl (by decide) (by decide) (by omega) (by omega) dX8_report_191 ?_
                        have b191 : 0 ≤ z185 16 t ∧ z185 16 t ≤ 1 := hRz185 16 _
                        refine j_retz G hr (by omega) dX8_report_192 ?_
                        have e71 : y29 71 0 = kcRp z w t := by rw [ey29, zp_same]; unfold kcRp; (repeat' split) <;> omega
                        have eb : blvF zS t (z 16 t) = 0 := by
                          unfold blvF
                          rw [← hG, ← hP]
                          show (if 100 ≤ gn ∧ pa < gn then (1 : Int) else if 100 ≤ pa ∧ gn ≤ pa then 0 else z 16 t) = _
                          rw [if_neg (by omega), if_pos (by omega)]
                        have ez : z185 = rpF z w t g := by
                          unfold rpF
                          show _ = zp (ntF' z w t g) 16 t (blvF (ntF' z w t g) t (z 16 t))
                          rw [show ntF' z w t g = zS from ezS.symm, eb]
                          first | rfl | rw [ez185]
                        have e716 : y60 71 0 = kcRp z w t := by rw [ey60, zp_nk _ (by decide)]; exact e71
                        refine ⟨e716, fun hk => ⟨by rw [← ez], ez, MI_z hMS (by first | rfl | rw [ez185, zp_nk _ (by decide)])⟩, fun hk => ?_, hRz185, hRy60, fun k a b c => by rw [ey60, zp_nk _ c, ey29, zp_nk _ b]⟩
                        exfalso
                        rw [ey29, zp_same] at e71
                        omega
                  · skip
                    refine i_aload_n G dX8_report_155 rfl ?_
                    refine i_getr G F_X8_33 0 rfl rfl dX8_report_156 ?_
                    refine i_iload_n G dX8_report_159 rfl ?_
                    refine i_iconst G dX8_report_160 ?_
                    refine j_zast_z G 7 rfl (by decide) (by decide) (by omega) (by omega) (by omega) (by decide) hRzS (by show (0 : Int) ≤ _ ∧ _ ≤ (1 : Int); omega) dX8_report_161 (fun z161 ez161 hRz161 => ?_)
                    refine i_goto (tgt := 186) G dX8_report_162 (by decide) ?_
                    refine i_aload_n G dX8_report_186 rfl ?_
                    refine i_getr G F_X8_33 0 rfl rfl dX8_report_187 ?_
                    refine i_iload_n G dX8_report_190 rfl ?_
                    refine j_zald_z G 7 rfl (by decide) (by decide) (by omega) (by omega) dX8_report_191 ?_
                    have b191 : 0 ≤ z161 16 t ∧ z161 16 t ≤ 1 := hRz161 16 _
                    refine j_retz G hr (by omega) dX8_report_192 ?_
                    have e71 : y29 71 0 = kcRp z w t := by rw [ey29, zp_same]; unfold kcRp; (repeat' split) <;> omega
                    have eb : blvF zS t (z 16 t) = 1 := by
                      unfold blvF
                      rw [← hG, ← hP]
                      show (if 100 ≤ gn ∧ pa < gn then (1 : Int) else if 100 ≤ pa ∧ gn ≤ pa then 0 else z 16 t) = _
                      rw [if_pos (by omega)]
                    have ez : z161 = rpF z w t g := by
                      unfold rpF
                      show _ = zp (ntF' z w t g) 16 t (blvF (ntF' z w t g) t (z 16 t))
                      rw [show ntF' z w t g = zS from ezS.symm, eb]
                      first | rfl | rw [ez161]
                    have e716 : y60 71 0 = kcRp z w t := by rw [ey60, zp_nk _ (by decide)]; exact e71
                    refine ⟨e716, fun hk => ⟨by rw [← ez], ez, MI_z hMS (by first | rfl | rw [ez161, zp_nk _ (by decide)])⟩, fun hk => ?_, hRz161, hRy60, fun k a b c => by rw [ey60, zp_nk _ c, ey29, zp_nk _ b]⟩
                    exfalso
                    rw [ey29, zp_same] at e71
                    omega
              · skip
                exfalso; omega
            | succ n70 ih70 => 
              intro gn pa q hq hn hgn hpa hGL hPL
              have q32 : 0 ≤ zS 32 (t * 10 + q) ∧ zS 32 (t * 10 + q) ≤ 2 := hRzS 32 _
              have hm2 := hMS (t * 10 + q) (by omega) (by omega)
              have hm3 : (zS 32 (t * 10 + q) = 0 ∧ y60 72 (t * 10 + q) = 0) ∨ (zS 32 (t * 10 + q) ≠ 0 ∧ y60 72 (t * 10 + q) = 3 - zS 32 (t * 10 + q)) := by split at hm2 <;> omega
              have qt : 0 ≤ zS 22 q ∧ zS 22 q ≤ 100 := hRzS 22 q
              refine i_iload G dX8_report_70 rfl ?_
              refine i_bipush G dX8_report_72 (by decide) ?_
              refine i_icmp_ge (tgt := 141) G dX8_report_74 (by decide) (by omega) (by omega) (fun h74 => ?_) (fun h74 => ?_)
              · skip
                exfalso; omega
              · skip
                refine i_aload_n G dX8_report_77 rfl ?_
                refine i_getr G F_X8_51 0 rfl rfl dX8_report_78 ?_
                refine i_iload_n G dX8_report_81 rfl ?_
                refine i_bipush G dX8_report_82 (by decide) ?_
                refine i_imul G dX8_report_84 ?_
                refine i_iload G dX8_report_85 rfl ?_
                refine i_iadd G dX8_report_87 ?_
                refine j_iald_y G 13 rfl (by decide) (by decide) (by omega) (by omega) dX8_report_88 ?_
                have b88 : 0 ≤ y60 72 ((t * 10) + q) ∧ y60 72 ((t * 10) + q) ≤ 2 := hRy60 72 _
                refine i_istore (L' := [some (.ref (ad 40)), some (vi (w)), some (vi (t)), some (vi (g)), some (vi (gn)), some (vi (pa)), some (vi (q)), some (vi ((y60 72 ((t * 10) + q))))]) G dX8_report_89 (by decide) rfl ?_
                refine i_iload G dX8_report_91 rfl ?_
                refine i_iload G dX8_report_93 rfl ?_
                refine i_iconst G dX8_report_95 ?_
                refine i_icmp_ne (tgt := 109) G dX8_report_96 (by decide) (by omega) (by omega) (fun h96 => ?_) (fun h96 => ?_)
                · skip
                  refine i_iconst G dX8_report_109 ?_
                  refine i_iadd G dX8_report_110 ?_
                  refine i_istore (L' := [some (.ref (ad 40)), some (vi (w)), some (vi (t)), some (vi (g)), some (vi ((gn + 0))), some (vi (pa)), some (vi (q)), some (vi ((y60 72 ((t * 10) + q))))]) G dX8_report_111 (by decide) rfl ?_
                  refine i_iload G dX8_report_113 rfl ?_
                  refine i_iload G dX8_report_115 rfl ?_
                  refine i_iconst G dX8_report_117 ?_
                  refine i_icmp_ne (tgt := 131) G dX8_report_118 (by decide) (by omega) (by omega) (fun h118 => ?_) (fun h118 => ?_)
                  · skip
                    refine i_iconst G dX8_report_131 ?_
                    refine i_iadd G dX8_report_132 ?_
                    refine i_istore (L' := [some (.ref (ad 40)), some (vi (w)), some (vi (t)), some (vi (g)), some (vi ((gn + 0))), some (vi ((pa + 0))), some (vi (q)), some (vi ((y60 72 ((t * 10) + q))))]) G dX8_report_133 (by decide) rfl ?_
                    refine i_iinc (L' := [some (.ref (ad 40)), some (vi (w)), some (vi (t)), some (vi (g)), some (vi ((gn + 0))), some (vi ((pa + 0))), some (vi (q + 1)), some (vi ((y60 72 ((t * 10) + q))))]) G dX8_report_135 (by decide) rfl rfl ?_
                    refine i_goto (tgt := 70) G dX8_report_138 (by decide) ?_
                    refine i_forget (L' := [some (.ref (ad 40)), some (vi (w)), some (vi (t)), some (vi (g)), some (vi ((gn + 0))), some (vi ((pa + 0))), some (vi (q + 1)), none]) ⟨rfl, ⟨rfl, ⟨rfl, ⟨rfl, ⟨rfl, ⟨rfl, ⟨rfl, trivial⟩⟩⟩⟩⟩⟩⟩ ?_
                    exact ih70 _ _ (q + 1) (by omega) (by omega) (by omega) (by omega) (by rw [← hGL, trL]; congr 1; split <;> omega) (by rw [← hPL, trL]; congr 1; split <;> omega)
                  · skip
                    refine i_aload_n G dX8_report_121 rfl ?_
                    refine i_getr G F_X8_54 0 rfl rfl dX8_report_122 ?_
                    refine i_iload G dX8_report_125 rfl ?_
                    refine j_iald_z G 14 rfl (by decide) (by decide) (by omega) (by omega) dX8_report_127 ?_
                    have b127 : 0 ≤ zS 22 q ∧ zS 22 q ≤ 100 := hRzS 22 _
                    refine i_goto (tgt := 132) G dX8_report_128 (by decide) ?_
                    refine i_iadd G dX8_report_132 ?_
                    refine i_istore (L' := [some (.ref (ad 40)), some (vi (w)), some (vi (t)), some (vi (g)), some (vi ((gn + 0))), some (vi ((pa + (zS 22 q)))), some (vi (q)), some (vi ((y60 72 ((t * 10) + q))))]) G dX8_report_133 (by decide) rfl ?_
                    refine i_iinc (L' := [some (.ref (ad 40)), some (vi (w)), some (vi (t)), some (vi (g)), some (vi ((gn + 0))), some (vi ((pa + (zS 22 q)))), some (vi (q + 1)), some (vi ((y60 72 ((t * 10) + q))))]) G dX8_report_135 (by decide) rfl rfl ?_
                    refine i_goto (tgt := 70) G dX8_report_138 (by decide) ?_
                    refine i_forget (L' := [some (.ref (ad 40)), some (vi (w)), some (vi (t)), some (vi (g)), some (vi ((gn + 0))), some (vi ((pa + (zS 22 q)))), some (vi (q + 1)), none]) ⟨rfl, ⟨rfl, ⟨rfl, ⟨rfl, ⟨rfl, ⟨rfl, ⟨rfl, trivial⟩⟩⟩⟩⟩⟩⟩ ?_
                    exact ih70 _ _ (q + 1) (by omega) (by omega) (by omega) (by omega) (by rw [← hGL, trL]; congr 1; split <;> omega) (by rw [← hPL, trL]; congr 1; split <;> omega)
                · skip
                  refine i_aload_n G dX8_report_99 rfl ?_
                  refine i_getr G F_X8_54 0 rfl rfl dX8_report_100 ?_
                  refine i_iload G dX8_report_103 rfl ?_
                  refine j_iald_z G 14 rfl (by decide) (by decide) (by omega) (by omega) dX8_report_105 ?_
                  have b105 : 0 ≤ zS 22 q ∧ zS 22 q ≤ 100 := hRzS 22 _
                  refine i_goto (tgt := 110) G dX8_report_106 (by decide) ?_
                  refine i_iadd G dX8_report_110 ?_
                  refine i_istore (L' := [some (.ref (ad 40)), some (vi (w)), some (vi (t)), some (vi (g)), some (vi ((gn + (zS 22 q)))), some (vi (pa)), some (vi (q)), some (vi ((y60 72 ((t * 10) + q))))]) G dX8_report_111 (by decide) rfl ?_
                  refine i_iload G dX8_report_113 rfl ?_
                  refine i_iload G dX8_report_115 rfl ?_
                  refine i_iconst G dX8_report_117 ?_
                  refine i_icmp_ne (tgt := 131) G dX8_report_118 (by decide) (by omega) (by omega) (fun h118 => ?_) (fun h118 => ?_)
                  · skip
                    refine i_iconst G dX8_report_131 ?_
                    refine i_iadd G dX8_report_132 ?_
                    refine i_istore (L' := [some (.ref (ad 40)), some (vi (w)), some (vi (t)), some (vi (g)), some (vi ((gn + (zS 22 q)))), some (vi ((pa + 0))), some (vi (q)), some (vi ((y60 72 ((t * 10) + q))))]) G dX8_report_133 (by decide) rfl ?_
                    refine i_iinc (L' := [some (.ref (ad 40)), some (vi (w)), some (vi (t)), some (vi (g)), some (vi ((gn + (zS 22 q)))), some (vi ((pa + 0))), some (vi (q + 1)), some (vi ((y60 72 ((t * 10) + q))))]) G dX8_report_135 (by decide) rfl rfl ?_
                    refine i_goto (tgt := 70) G dX8_report_138 (by decide) ?_
                    refine i_forget (L' := [some (.ref (ad 40)), some (vi (w)), some (vi (t)), some (vi (g)), some (vi ((gn + (zS 22 q)))), some (vi ((pa + 0))), some (vi (q + 1)), none]) ⟨rfl, ⟨rfl, ⟨rfl, ⟨rfl, ⟨rfl, ⟨rfl, ⟨rfl, trivial⟩⟩⟩⟩⟩⟩⟩ ?_
                    exact ih70 _ _ (q + 1) (by omega) (by omega) (by omega) (by omega) (by rw [← hGL, trL]; congr 1; split <;> omega) (by rw [← hPL, trL]; congr 1; split <;> omega)
                  · skip
                    refine i_aload_n G dX8_report_121 rfl ?_
                    refine i_getr G F_X8_54 0 rfl rfl dX8_report_122 ?_
                    refine i_iload G dX8_report_125 rfl ?_
                    refine j_iald_z G 14 rfl (by decide) (by decide) (by omega) (by omega) dX8_report_127 ?_
                    have b127 : 0 ≤ zS 22 q ∧ zS 22 q ≤ 100 := hRzS 22 _
                    refine i_goto (tgt := 132) G dX8_report_128 (by decide) ?_
                    refine i_iadd G dX8_report_132 ?_
                    refine i_istore (L' := [some (.ref (ad 40)), some (vi (w)), some (vi (t)), some (vi (g)), some (vi ((gn + (zS 22 q)))), some (vi ((pa + (zS 22 q)))), some (vi (q)), some (vi ((y60 72 ((t * 10) + q))))]) G dX8_report_133 (by decide) rfl ?_
                    refine i_iinc (L' := [some (.ref (ad 40)), some (vi (w)), some (vi (t)), some (vi (g)), some (vi ((gn + (zS 22 q)))), some (vi ((pa + (zS 22 q)))), some (vi (q + 1)), some (vi ((y60 72 ((t * 10) + q))))]) G dX8_report_135 (by decide) rfl rfl ?_
                    refine i_goto (tgt := 70) G dX8_report_138 (by decide) ?_
                    refine i_forget (L' := [some (.ref (ad 40)), some (vi (w)), some (vi (t)), some (vi (g)), some (vi ((gn + (zS 22 q)))), some (vi ((pa + (zS 22 q)))), some (vi (q + 1)), none]) ⟨rfl, ⟨rfl, ⟨rfl, ⟨rfl, ⟨rfl, ⟨rfl, ⟨rfl, trivial⟩⟩⟩⟩⟩⟩⟩ ?_
                    exact ih70 _ _ (q + 1) (by omega) (by omega) (by omega) (by omega) (by rw [← hGL, trL]; congr 1; split <;> omega) (by rw [← hPL, trL]; congr 1; split <;> omega)
          exact lp70 10 0 0 0 (by omega) (by omega) (by omega) (by omega) rfl rfl
        · skip
          refine i_iconst G dX8_report_55 ?_
          refine i_goto (tgt := 60) G dX8_report_56 (by decide) ?_
          refine j_iast_y G 13 rfl (by decide) (by decide) (by omega) (by omega) (by decide) hRy29 (by show (0 : Int) ≤ _ ∧ _ ≤ (2 : Int); omega) dX8_report_60 (fun y60 ey60 hRy60 => ?_)
          have hwt : (0 ≤ w ∧ w < 10) ∧ (0 ≤ t ∧ t < z 1 0) := by omega
          refine j_sw (k := 32) (a := t * 10 + w) (x := (if g = 0 then 1 else 2)) (by decide +kernel) (by decide) ?_
          obtain ⟨zS, ezS⟩ : ∃ z_ : wZ, z_ = zp z 32 (t * 10 + w) (if g = 0 then 1 else 2) := ⟨_, rfl⟩
          rw [← ezS]
          have hRzS : Rng zS := by rw [ezS]; exact rng_zp hR (by show (0 : Int) ≤ _ ∧ _ ≤ (2 : Int); split <;> omega)
          have hMS : MI zS y60 := by rw [ezS, ey60]; exact MI_put (MI_y hM (by rw [ey29, zp_nk _ (by decide)])) (by rcases hg with rfl | rfl <;> first | rfl | (exfalso; omega))
          have e16 : zS 16 t = z 16 t := by rw [ezS, zp_nk _ (by decide)]
          refine i_iconst G dX8_report_61 ?_
          refine i_istore (L' := [some (.ref (ad 40)), some (vi (w)), some (vi (t)), some (vi (g)), some (vi (0)), none, none, none]) G dX8_report_62 (by decide) rfl ?_
          refine i_iconst G dX8_report_64 ?_
          refine i_istore (L' := [some (.ref (ad 40)), some (vi (w)), some (vi (t)), some (vi (g)), some (vi (0)), some (vi (0)), none, none]) G dX8_report_65 (by decide) rfl ?_
          refine i_iconst G dX8_report_67 ?_
          refine i_istore (L' := [some (.ref (ad 40)), some (vi (w)), some (vi (t)), some (vi (g)), some (vi (0)), some (vi (0)), some (vi (0)), none]) G dX8_report_68 (by decide) rfl ?_
          refine i_forget (L' := [some (.ref (ad 40)), some (vi (w)), some (vi (t)), some (vi (g)), some (vi (0)), some (vi (0)), some (vi (0)), none]) ⟨rfl, ⟨rfl, ⟨rfl, ⟨rfl, ⟨rfl, ⟨rfl, ⟨rfl, trivial⟩⟩⟩⟩⟩⟩⟩ ?_
          have lp70 : ∀ (n70 : Nat) (gn pa q : Int), (0 ≤ q) → (q + n70 = 10) → (0 ≤ gn ∧ gn ≤ 100 * q) → (0 ≤ pa ∧ pa ≤ 100 * q) → (trL zS t 2 n70 q gn = trL zS t 2 10 0 0) → (trL zS t 1 n70 q pa = trL zS t 1 10 0 0) → JW p l e (rmL 2) s m args below meth c 8 D aC ad A shM (MQ below (cQi D aC ad shM (fun r_ z2 y2 => y2 71 0 = kcRp z w t ∧ (kcRp z w t = 0 → r_ = rpF z w t g 16 t ∧ z2 = rpF z w t g ∧ MI z2 y2) ∧ (kcRp z w t ≠ 0 → z2 = z ∧ y2 72 = y 72) ∧ Rng z2 ∧ Rng y2 ∧ ∀ k', k' ≠ 70 → k' ≠ 71 → k' ≠ 72 → y2 k' = y k') A) args s 0 0 A) 0 0 (zc zS y60) 70 [some (.ref (ad 40)), some (vi (w)), some (vi (t)), some (vi (g)), some (vi (gn)), some (vi (pa)), some (vi (q)), none] [] := by
            intro n70
            induction n70 with
            | zero => 
              intro gn pa q hq hn hgn hpa hGL hPL
              have hG : gn = trL zS t 2 10 0 0 := hGL
              have hP : pa = trL zS t 1 10 0 0 := hPL
              refine i_iload G dX8_report_70 rfl ?_
              refine i_bipush G dX8_report_72 (by decide) ?_
              refine i_icmp_ge (tgt := 141) G dX8_report_74 (by decide) (by omega) (by omega) (fun h74 => ?_) (fun h74 => ?_)
              · skip
                refine i_iload G dX8_report_141 rfl ?_
                refine i_bipush G dX8_report_143 (by decide) ?_
                refine i_icmp_lt (tgt := 165) G dX8_report_145 (by decide) (by omega) (by omega) (fun h145 => ?_) (fun h145 => ?_)
                · skip
                  refine i_iload G dX8_report_165 rfl ?_
                  refine i_bipush G dX8_report_167 (by decide) ?_
                  refine i_icmp_lt (tgt := 186) G dX8_report_169 (by decide) (by omega) (by omega) (fun h169 => ?_) (fun h169 => ?_)
                  · skip
                    refine i_aload_n G dX8_report_186 rfl ?_
                    refine i_getr G F_X8_33 0 rfl rfl dX8_report_187 ?_
                    refine i_iload_n G dX8_report_190 rfl ?_
                    refine j_zald_z G 7 rfl (by decide) (by decide) (by omega) (by omega) dX8_report_191 ?_
                    have b191 : 0 ≤ zS 16 t ∧ zS 16 t ≤ 1 := hRzS 16 _
                    refine j_retz G hr (by omega) dX8_report_192 ?_
                    have e71 : y29 71 0 = kcRp z w t := by rw [ey29, zp_same]; unfold kcRp; (repeat' split) <;> omega
                    have eb : blvF zS t (z 16 t) = zS 16 t := by
                      unfold blvF
                      rw [← hG, ← hP]
                      show (if 100 ≤ gn ∧ pa < gn then (1 : Int) else if 100 ≤ pa ∧ gn ≤ pa then 0 else z 16 t) = _
                      rw [if_neg (by omega), if_neg (by omega), e16]
                    have ez : zS = rpF z w t g := by
                      unfold rpF
                      show _ = zp (ntF' z w t g) 16 t (blvF (ntF' z w t g) t (z 16 t))
                      rw [show ntF' z w t g = zS from ezS.symm, eb]
                      rw [zp_id]
                    have e716 : y60 71 0 = kcRp z w t := by rw [ey60, zp_nk _ (by decide)]; exact e71
                    refine ⟨e716, fun hk => ⟨by rw [← ez], ez, MI_z hMS (by first | rfl | rw [ezS, zp_nk _ (by decide)])⟩, fun hk => ?_, hRzS, hRy60, fun k a b c => by rw [ey60, zp_nk _ c, ey29, zp_nk _ b]⟩
                    exfalso
                    rw [ey29, zp_same] at e71
                    omega
                  · skip
                    refine i_iload G dX8_report_172 rfl ?_
                    refine i_iload G dX8_report_174 rfl ?_
                    refine i_icmp_lt (tgt := 186) G dX8_report_176 (by decide) (by omega) (by omega) (fun h176 => ?_) (fun h176 => ?_)
                    · skip
                      refine i_aload_n G dX8_report_186 rfl ?_
                      refine i_getr G F_X8_33 0 rfl rfl dX8_report_187 ?_
                      refine i_iload_n G dX8_report_190 rfl ?_
                      refine j_zald_z G 7 rfl (by decide) (by decide) (by omega) (by omega) dX8_report_191 ?_
                      have b191 : 0 ≤ zS 16 t ∧ zS 16 t ≤ 1 := hRzS 16 _
                      refine j_retz G hr (by omega) dX8_report_192 ?_
                      have e71 : y29 71 0 = kcRp z w t := by rw [ey29, zp_same]; unfold kcRp; (repeat' split) <;> omega
                      have eb : blvF zS t (z 16 t) = zS 16 t := by
                        unfold blvF
                        rw [← hG, ← hP]
                        show (if 100 ≤ gn ∧ pa < gn then (1 : Int) else if 100 ≤ pa ∧ gn ≤ pa then 0 else z 16 t) = _
                        rw [if_neg (by omega), if_neg (by omega), e16]
                      have ez : zS = rpF z w t g := by
                        unfold rpF
                        show _ = zp (ntF' z w t g) 16 t (blvF (ntF' z w t g) t (z 16 t))
                        rw [show ntF' z w t g = zS from ezS.symm, eb]
                        rw [zp_id]
                      have e716 : y60 71 0 = kcRp z w t := by rw [ey60, zp_nk _ (by decide)]; exact e71
                      refine ⟨e716, fun hk => ⟨by rw [← ez], ez, MI_z hMS (by first | rfl | rw [ezS, zp_nk _ (by decide)])⟩, fun hk => ?_, hRzS, hRy60, fun k a b c => by rw [ey60, zp_nk _ c, ey29, zp_nk _ b]⟩
                      exfalso
                      rw [ey29, zp_same] at e71
                      omega
                    · skip
                      refine i_aload_n G dX8_report_179 rfl ?_
                      refine i_getr G F_X8_33 0 rfl rfl dX8_report_180 ?_
                      refine i_iload_n G dX8_report_183 rfl ?_
                      refine i_iconst G dX8_report_184 ?_
                      refine j_zast_z G 7 rfl (by decide) (by decide) (by omega) (by omega) (by omega) (by decide) hRzS (by show (0 : Int) ≤ _ ∧ _ ≤ (1 : Int); omega) dX8_report_185 (fun z185 ez185 hRz185 => ?_)
                      refine i_aload_n G dX8_report_186 rfl ?_
                      refine i_getr G F_X8_33 0 rfl rfl dX8_report_187 ?_
                      refine i_iload_n G dX8_report_190 rfl ?_
                      refine j_zald_z G 7 rfl (by decide) (by decide) (by omega) (by omega) dX8_report_191 ?_
                      have b191 : 0 ≤ z185 16 t ∧ z185 16 t ≤ 1 := hRz185 16 _
                      refine j_retz G hr (by omega) dX8_report_192 ?_
                      have e71 : y29 71 0 = kcRp z w t := by rw [ey29, zp_same]; unfold kcRp; (repeat' split) <;> omega
                      have eb : blvF zS t (z 16 t) = 0 := by
                        unfold blvF
                        rw [← hG, ← hP]
                        show (if 100 ≤ gn ∧ pa < gn then (1 : Int) else if 100 ≤ pa ∧ gn ≤ pa then 0 else z 16 t) = _
                        rw [if_neg (by omega), if_pos (by omega)]
                      have ez : z185 = rpF z w t g := by
                        unfold rpF
                        show _ = zp (ntF' z w t g) 16 t (blvF (ntF' z w t g) t (z 16 t))
                        rw [show ntF' z w t g = zS from ezS.symm, eb]
                        first | rfl | rw [ez185]
                      have e716 : y60 71 0 = kcRp z w t := by rw [ey60, zp_nk _ (by decide)]; exact e71
                      refine ⟨e716, fun hk => ⟨by rw [← ez], ez, MI_z hMS (by first | rfl | rw [ez185, zp_nk _ (by decide)])⟩, fun hk => ?_, hRz185, hRy60, fun k a b c => by rw [ey60, zp_nk _ c, ey29, zp_nk _ b]⟩
                      exfalso
                      rw [ey29, zp_same] at e71
                      omega
                · skip
                  refine i_iload G dX8_report_148 rfl ?_
                  refine i_iload G dX8_report_150 rfl ?_
                  refine i_icmp_le (tgt := 165) G dX8_report_152 (by decide) (by omega) (by omega) (fun h152 => ?_) (fun h152 => ?_)
                  · skip
                    refine i_iload G dX8_report_165 rfl ?_
                    refine i_bipush G dX8_report_167 (by decide) ?_
                    refine i_icmp_lt (tgt := 186) G dX8_report_169 (by decide) (by omega) (by omega) (fun h169 => ?_) (fun h169 => ?_)
                    · skip
                      refine i_aload_n G dX8_report_186 rfl ?_
                      refine i_getr G F_X8_33 0 rfl rfl dX8_report_187 ?_
                      refine i_iload_n G dX8_report_190 rfl ?_
                      refine j_zald_z G 7 rfl (by decide) (by decide) (by omega) (by omega) dX8_report_191 ?_
                      have b191 : 0 ≤ zS 16 t ∧ zS 16 t ≤ 1 := hRzS 16 _
                      refine j_retz G hr (by omega) dX8_report_192 ?_
                      have e71 : y29 71 0 = kcRp z w t := by rw [ey29, zp_same]; unfold kcRp; (repeat' split) <;> omega
                      have eb : blvF zS t (z 16 t) = zS 16 t := by
                        unfold blvF
                        rw [← hG, ← hP]
                        show (if 100 ≤ gn ∧ pa < gn then (1 : Int) else if 100 ≤ pa ∧ gn ≤ pa then 0 else z 16 t) = _
                        rw [if_neg (by omega), if_neg (by omega), e16]
                      have ez : zS = rpF z w t g := by
                        unfold rpF
                        show _ = zp (ntF' z w t g) 16 t (blvF (ntF' z w t g) t (z 16 t))
                        rw [show ntF' z w t g = zS from ezS.symm, eb]
                        rw [zp_id]
                      have e716 : y60 71 0 = kcRp z w t := by rw [ey60, zp_nk _ (by decide)]; exact e71
                      refine ⟨e716, fun hk => ⟨by rw [← ez], ez, MI_z hMS (by first | rfl | rw [ezS, zp_nk _ (by decide)])⟩, fun hk => ?_, hRzS, hRy60, fun k a b c => by rw [ey60, zp_nk _ c, ey29, zp_nk _ b]⟩
                      exfalso
                      rw [ey29, zp_same] at e71
                      omega
                    · skip
                      refine i_iload G dX8_report_172 rfl ?_
                      refine i_iload G dX8_report_174 rfl ?_
                      refine i_icmp_lt (tgt := 186) G dX8_report_176 (by decide) (by omega) (by omega) (fun h176 => ?_) (fun h176 => ?_)
                      · skip
                        refine i_aload_n G dX8_report_186 rfl ?_
                        refine i_getr G F_X8_33 0 rfl rfl dX8_report_187 ?_
                        refine i_iload_n G dX8_report_190 rfl ?_
                        refine j_zald_z G 7 rfl (by decide) (by decide) (by omega) (by omega) dX8_report_191 ?_
                        have b191 : 0 ≤ zS 16 t ∧ zS 16 t ≤ 1 := hRzS 16 _
                        refine j_retz G hr (by omega) dX8_report_192 ?_
                        have e71 : y29 71 0 = kcRp z w t := by rw [ey29, zp_same]; unfold kcRp; (repeat' split) <;> omega
                        have eb : blvF zS t (z 16 t) = zS 16 t := by
                          unfold blvF
                          rw [← hG, ← hP]
                          show (if 100 ≤ gn ∧ pa < gn then (1 : Int) else if 100 ≤ pa ∧ gn ≤ pa then 0 else z 16 t) = _
                          rw [if_neg (by omega), if_neg (by omega), e16]
                        have ez : zS = rpF z w t g := by
                          unfold rpF
                          show _ = zp (ntF' z w t g) 16 t (blvF (ntF' z w t g) t (z 16 t))
                          rw [show ntF' z w t g = zS from ezS.symm, eb]
                          rw [zp_id]
                        have e716 : y60 71 0 = kcRp z w t := by rw [ey60, zp_nk _ (by decide)]; exact e71
                        refine ⟨e716, fun hk => ⟨by rw [← ez], ez, MI_z hMS (by first | rfl | rw [ezS, zp_nk _ (by decide)])⟩, fun hk => ?_, hRzS, hRy60, fun k a b c => by rw [ey60, zp_nk _ c, ey29, zp_nk _ b]⟩
                        exfalso
                        rw [ey29, zp_same] at e71
                        omega
                      · skip
                        refine i_aload_n G dX8_report_179 rfl ?_
                        refine i_getr G F_X8_33 0 rfl rfl dX8_report_180 ?_
                        refine i_iload_n G dX8_report_183 rfl ?_
                        refine i_iconst G dX8_report_184 ?_
                        refine j_zast_z G 7 rfl (by decide) (by decide) (by omega) (by omega) (by omega) (by decide) hRzS (by show (0 : Int) ≤ _ ∧ _ ≤ (1 : Int); omega) dX8_report_185 (fun z185 ez185 hRz185 => ?_)
                        refine i_aload_n G dX8_report_186 rfl ?_
                        refine i_getr G F_X8_33 0 rfl rfl dX8_report_187 ?_
                        refine i_iload_n G dX8_report_190 rfl ?_
                        refine j_zald_z G 7 rfl (by decide) (by decide) (by omega) (by omega) dX8_report_191 ?_
                        have b191 : 0 ≤ z185 16 t ∧ z185 16 t ≤ 1 := hRz185 16 _
                        refine j_retz G hr (by omega) dX8_report_192 ?_
                        have e71 : y29 71 0 = kcRp z w t := by rw [ey29, zp_same]; unfold kcRp; (repeat' split) <;> omega
                        have eb : blvF zS t (z 16 t) = 0 := by
                          unfold blvF
                          rw [← hG, ← hP]
                          show (if 100 ≤ gn ∧ pa < gn then (1 : Int) else if 100 ≤ pa ∧ gn ≤ pa then 0 else z 16 t) = _
                          rw [if_neg (by omega), if_pos (by omega)]
                        have ez : z185 = rpF z w t g := by
                          unfold rpF
                          show _ = zp (ntF' z w t g) 16 t (blvF (ntF' z w t g) t (z 16 t))
                          rw [show ntF' z w t g = zS from ezS.symm, eb]
                          first | rfl | rw [ez185]
                        have e716 : y60 71 0 = kcRp z w t := by rw [ey60, zp_nk _ (by decide)]; exact e71
                        refine ⟨e716, fun hk => ⟨by rw [← ez], ez, MI_z hMS (by first | rfl | rw [ez185, zp_nk _ (by decide)])⟩, fun hk => ?_, hRz185, hRy60, fun k a b c => by rw [ey60, zp_nk _ c, ey29, zp_nk _ b]⟩
                        exfalso
                        rw [ey29, zp_same] at e71
                        omega
                  · skip
                    refine i_aload_n G dX8_report_155 rfl ?_
                    refine i_getr G F_X8_33 0 rfl rfl dX8_report_156 ?_
                    refine i_iload_n G dX8_report_159 rfl ?_
                    refine i_iconst G dX8_report_160 ?_
                    refine j_zast_z G 7 rfl (by decide) (by decide) (by omega) (by omega) (by omega) (by decide) hRzS (by show (0 : Int) ≤ _ ∧ _ ≤ (1 : Int); omega) dX8_report_161 (fun z161 ez161 hRz161 => ?_)
                    refine i_goto (tgt := 186) G dX8_report_162 (by decide) ?_
                    refine i_aload_n G dX8_report_186 rfl ?_
                    refine i_getr G F_X8_33 0 rfl rfl dX8_report_187 ?_
                    refine i_iload_n G dX8_report_190 rfl ?_
                    refine j_zald_z G 7 rfl (by decide) (by decide) (by omega) (by omega) dX8_report_191 ?_
                    have b191 : 0 ≤ z161 16 t ∧ z161 16 t ≤ 1 := hRz161 16 _
                    refine j_retz G hr (by omega) dX8_report_192 ?_
                    have e71 : y29 71 0 = kcRp z w t := by rw [ey29, zp_same]; unfold kcRp; (repeat' split) <;> omega
                    have eb : blvF zS t (z 16 t) = 1 := by
                      unfold blvF
                      rw [← hG, ← hP]
                      show (if 100 ≤ gn ∧ pa < gn then (1 : Int) else if 100 ≤ pa ∧ gn ≤ pa then 0 else z 16 t) = _
                      rw [if_pos (by omega)]
                    have ez : z161 = rpF z w t g := by
                      unfold rpF
                      show _ = zp (ntF' z w t g) 16 t (blvF (ntF' z w t g) t (z 16 t))
                      rw [show ntF' z w t g = zS from ezS.symm, eb]
                      first | rfl | rw [ez161]
                    have e716 : y60 71 0 = kcRp z w t := by rw [ey60, zp_nk _ (by decide)]; exact e71
                    refine ⟨e716, fun hk => ⟨by rw [← ez], ez, MI_z hMS (by first | rfl | rw [ez161, zp_nk _ (by decide)])⟩, fun hk => ?_, hRz161, hRy60, fun k a b c => by rw [ey60, zp_nk _ c, ey29, zp_nk _ b]⟩
                    exfalso
                    rw [ey29, zp_same] at e71
                    omega
              · skip
                exfalso; omega
            | succ n70 ih70 => 
              intro gn pa q hq hn hgn hpa hGL hPL
              have q32 : 0 ≤ zS 32 (t * 10 + q) ∧ zS 32 (t * 10 + q) ≤ 2 := hRzS 32 _
              have hm2 := hMS (t * 10 + q) (by omega) (by omega)
              have hm3 : (zS 32 (t * 10 + q) = 0 ∧ y60 72 (t * 10 + q) = 0) ∨ (zS 32 (t * 10 + q) ≠ 0 ∧ y60 72 (t * 10 + q) = 3 - zS 32 (t * 10 + q)) := by split at hm2 <;> omega
              have qt : 0 ≤ zS 22 q ∧ zS 22 q ≤ 100 := hRzS 22 q
              refine i_iload G dX8_report_70 rfl ?_
              refine i_bipush G dX8_report_72 (by decide) ?_
              refine i_icmp_ge (tgt := 141) G dX8_report_74 (by decide) (by omega) (by omega) (fun h74 => ?_) (fun h74 => ?_)
              · skip
                exfalso; omega
              · skip
                refine i_aload_n G dX8_report_77 rfl ?_
                refine i_getr G F_X8_51 0 rfl rfl dX8_report_78 ?_
                refine i_iload_n G dX8_report_81 rfl ?_
                refine i_bipush G dX8_report_82 (by decide) ?_
                refine i_imul G dX8_report_84 ?_
                refine i_iload G dX8_report_85 rfl ?_
                refine i_iadd G dX8_report_87 ?_
                refine j_iald_y G 13 rfl (by decide) (by decide) (by omega) (by omega) dX8_report_88 ?_
                have b88 : 0 ≤ y60 72 ((t * 10) + q) ∧ y60 72 ((t * 10) + q) ≤ 2 := hRy60 72 _
                refine i_istore (L' := [some (.ref (ad 40)), some (vi (w)), some (vi (t)), some (vi (g)), some (vi (gn)), some (vi (pa)), some (vi (q)), some (vi ((y60 72 ((t * 10) + q))))]) G dX8_report_89 (by decide) rfl ?_
                refine i_iload G dX8_report_91 rfl ?_
                refine i_iload G dX8_report_93 rfl ?_
                refine i_iconst G dX8_report_95 ?_
                refine i_icmp_ne (tgt := 109) G dX8_report_96 (by decide) (by omega) (by omega) (fun h96 => ?_) (fun h96 => ?_)
                · skip
                  refine i_iconst G dX8_report_109 ?_
                  refine i_iadd G dX8_report_110 ?_
                  refine i_istore (L' := [some (.ref (ad 40)), some (vi (w)), some (vi (t)), some (vi (g)), some (vi ((gn + 0))), some (vi (pa)), some (vi (q)), some (vi ((y60 72 ((t * 10) + q))))]) G dX8_report_111 (by decide) rfl ?_
                  refine i_iload G dX8_report_113 rfl ?_
                  refine i_iload G dX8_report_115 rfl ?_
                  refine i_iconst G dX8_report_117 ?_
                  refine i_icmp_ne (tgt := 131) G dX8_report_118 (by decide) (by omega) (by omega) (fun h118 => ?_) (fun h118 => ?_)
                  · skip
                    refine i_iconst G dX8_report_131 ?_
                    refine i_iadd G dX8_report_132 ?_
                    refine i_istore (L' := [some (.ref (ad 40)), some (vi (w)), some (vi (t)), some (vi (g)), some (vi ((gn + 0))), some (vi ((pa + 0))), some (vi (q)), some (vi ((y60 72 ((t * 10) + q))))]) G dX8_report_133 (by decide) rfl ?_
                    refine i_iinc (L' := [some (.ref (ad 40)), some (vi (w)), some (vi (t)), some (vi (g)), some (vi ((gn + 0))), some (vi ((pa + 0))), some (vi (q + 1)), some (vi ((y60 72 ((t * 10) + q))))]) G dX8_report_135 (by decide) rfl rfl ?_
                    refine i_goto (tgt := 70) G dX8_report_138 (by decide) ?_
                    refine i_forget (L' := [some (.ref (ad 40)), some (vi (w)), some (vi (t)), some (vi (g)), some (vi ((gn + 0))), some (vi ((pa + 0))), some (vi (q + 1)), none]) ⟨rfl, ⟨rfl, ⟨rfl, ⟨rfl, ⟨rfl, ⟨rfl, ⟨rfl, trivial⟩⟩⟩⟩⟩⟩⟩ ?_
                    exact ih70 _ _ (q + 1) (by omega) (by omega) (by omega) (by omega) (by rw [← hGL, trL]; congr 1; split <;> omega) (by rw [← hPL, trL]; congr 1; split <;> omega)
                  · skip
                    refine i_aload_n G dX8_report_121 rfl ?_
                    refine i_getr G F_X8_54 0 rfl rfl dX8_report_122 ?_
                    refine i_iload G dX8_report_125 rfl ?_
                    refine j_iald_z G 14 rfl (by decide) (by decide) (by omega) (by omega) dX8_report_127 ?_
                    have b127 : 0 ≤ zS 22 q ∧ zS 22 q ≤ 100 := hRzS 22 _
                    refine i_goto (tgt := 132) G dX8_report_128 (by decide) ?_
                    refine i_iadd G dX8_report_132 ?_
                    refine i_istore (L' := [some (.ref (ad 40)), some (vi (w)), some (vi (t)), some (vi (g)), some (vi ((gn + 0))), some (vi ((pa + (zS 22 q)))), some (vi (q)), some (vi ((y60 72 ((t * 10) + q))))]) G dX8_report_133 (by decide) rfl ?_
                    refine i_iinc (L' := [some (.ref (ad 40)), some (vi (w)), some (vi (t)), some (vi (g)), some (vi ((gn + 0))), some (vi ((pa + (zS 22 q)))), some (vi (q + 1)), some (vi ((y60 72 ((t * 10) + q))))]) G dX8_report_135 (by decide) rfl rfl ?_
                    refine i_goto (tgt := 70) G dX8_report_138 (by decide) ?_
                    refine i_forget (L' := [some (.ref (ad 40)), some (vi (w)), some (vi (t)), some (vi (g)), some (vi ((gn + 0))), some (vi ((pa + (zS 22 q)))), some (vi (q + 1)), none]) ⟨rfl, ⟨rfl, ⟨rfl, ⟨rfl, ⟨rfl, ⟨rfl, ⟨rfl, trivial⟩⟩⟩⟩⟩⟩⟩ ?_
                    exact ih70 _ _ (q + 1) (by omega) (by omega) (by omega) (by omega) (by rw [← hGL, trL]; congr 1; split <;> omega) (by rw [← hPL, trL]; congr 1; split <;> omega)
                · skip
                  refine i_aload_n G dX8_report_99 rfl ?_
                  refine i_getr G F_X8_54 0 rfl rfl dX8_report_100 ?_
                  refine i_iload G dX8_report_103 rfl ?_
                  refine j_iald_z G 14 rfl (by decide) (by decide) (by omega) (by omega) dX8_report_105 ?_
                  have b105 : 0 ≤ zS 22 q ∧ zS 22 q ≤ 100 := hRzS 22 _
                  refine i_goto (tgt := 110) G dX8_report_106 (by decide) ?_
                  refine i_iadd G dX8_report_110 ?_
                  refine i_istore (L' := [some (.ref (ad 40)), some (vi (w)), some (vi (t)), some (vi (g)), some (vi ((gn + (zS 22 q)))), some (vi (pa)), some (vi (q)), some (vi ((y60 72 ((t * 10) + q))))]) G dX8_report_111 (by decide) rfl ?_
                  refine i_iload G dX8_report_113 rfl ?_
                  refine i_iload G dX8_report_115 rfl ?_
                  refine i_iconst G dX8_report_117 ?_
                  refine i_icmp_ne (tgt := 131) G dX8_report_118 (by decide) (by omega) (by omega) (fun h118 => ?_) (fun h118 => ?_)
                  · skip
                    refine i_iconst G dX8_report_131 ?_
                    refine i_iadd G dX8_report_132 ?_
                    refine i_istore (L' := [some (.ref (ad 40)), some (vi (w)), some (vi (t)), some (vi (g)), some (vi ((gn + (zS 22 q)))), some (vi ((pa + 0))), some (vi (q)), some (vi ((y60 72 ((t * 10) + q))))]) G dX8_report_133 (by decide) rfl ?_
                    refine i_iinc (L' := [some (.ref (ad 40)), some (vi (w)), some (vi (t)), some (vi (g)), some (vi ((gn + (zS 22 q)))), some (vi ((pa + 0))), some (vi (q + 1)), some (vi ((y60 72 ((t * 10) + q))))]) G dX8_report_135 (by decide) rfl rfl ?_
                    refine i_goto (tgt := 70) G dX8_report_138 (by decide) ?_
                    refine i_forget (L' := [some (.ref (ad 40)), some (vi (w)), some (vi (t)), some (vi (g)), some (vi ((gn + (zS 22 q)))), some (vi ((pa + 0))), some (vi (q + 1)), none]) ⟨rfl, ⟨rfl, ⟨rfl, ⟨rfl, ⟨rfl, ⟨rfl, ⟨rfl, trivial⟩⟩⟩⟩⟩⟩⟩ ?_
                    exact ih70 _ _ (q + 1) (by omega) (by omega) (by omega) (by omega) (by rw [← hGL, trL]; congr 1; split <;> omega) (by rw [← hPL, trL]; congr 1; split <;> omega)
                  · skip
                    refine i_aload_n G dX8_report_121 rfl ?_
                    refine i_getr G F_X8_54 0 rfl rfl dX8_report_122 ?_
                    refine i_iload G dX8_report_125 rfl ?_
                    refine j_iald_z G 14 rfl (by decide) (by decide) (by omega) (by omega) dX8_report_127 ?_
                    have b127 : 0 ≤ zS 22 q ∧ zS 22 q ≤ 100 := hRzS 22 _
                    refine i_goto (tgt := 132) G dX8_report_128 (by decide) ?_
                    refine i_iadd G dX8_report_132 ?_
                    refine i_istore (L' := [some (.ref (ad 40)), some (vi (w)), some (vi (t)), some (vi (g)), some (vi ((gn + (zS 22 q)))), some (vi ((pa + (zS 22 q)))), some (vi (q)), some (vi ((y60 72 ((t * 10) + q))))]) G dX8_report_133 (by decide) rfl ?_
                    refine i_iinc (L' := [some (.ref (ad 40)), some (vi (w)), some (vi (t)), some (vi (g)), some (vi ((gn + (zS 22 q)))), some (vi ((pa + (zS 22 q)))), some (vi (q + 1)), some (vi ((y60 72 ((t * 10) + q))))]) G dX8_report_135 (by decide) rfl rfl ?_
                    refine i_goto (tgt := 70) G dX8_report_138 (by decide) ?_
                    refine i_forget (L' := [some (.ref (ad 40)), some (vi (w)), some (vi (t)), some (vi (g)), some (vi ((gn + (zS 22 q)))), some (vi ((pa + (zS 22 q)))), some (vi (q + 1)), none]) ⟨rfl, ⟨rfl, ⟨rfl, ⟨rfl, ⟨rfl, ⟨rfl, ⟨rfl, trivial⟩⟩⟩⟩⟩⟩⟩ ?_
                    exact ih70 _ _ (q + 1) (by omega) (by omega) (by omega) (by omega) (by rw [← hGL, trL]; congr 1; split <;> omega) (by rw [← hPL, trL]; congr 1; split <;> omega)
          exact lp70 10 0 0 0 (by omega) (by omega) (by omega) (by omega) rfl rfl
      · skip
        refine i_iconst G dX8_report_39 ?_
        refine j_retz G hr (by omega) dX8_report_40 ?_
        have e71 : y29 71 0 = kcRp z w t := by rw [ey29, zp_same]; unfold kcRp; (repeat' split) <;> omega
        refine ⟨e71, fun hk => ?_, fun _ => ⟨rfl, by rw [ey29, zp_nk _ (by decide)]⟩, hR, hRy29, fun k a b c => by rw [ey29, zp_nk _ b]⟩
        exfalso
        rw [ey29, zp_same] at e71
        omega
    · skip
      refine i_iconst G dX8_report_24 ?_
      refine i_goto (tgt := 29) G dX8_report_25 (by decide) ?_
      refine j_puty G P_X8_88 0 rfl rfl (by decide) (by decide) (by decide) hY (by show (0 : Int) ≤ _ ∧ _ ≤ (5 : Int); omega) dX8_report_29 (fun y29 ey29 hRy29 => ?_)
      have et := congrFun (congrFun ey29 71) 0
      rw [zp_same] at et
      refine i_aload_n G dX8_report_32 rfl ?_
      refine j_gety G F_X8_88 0 rfl rfl (by decide) dX8_report_33 ?_
      have b33 : 0 ≤ y29 71 0 ∧ y29 71 0 ≤ 5 := hRy29 71 _
      refine i_if_le (tgt := 41) G dX8_report_36 (by decide) (by omega) (fun h36 => ?_) (fun h36 => ?_)
      · skip
        refine i_aload_n G dX8_report_41 rfl ?_
        refine i_getr G F_X8_51 0 rfl rfl dX8_report_42 ?_
        refine i_iload_n G dX8_report_45 rfl ?_
        refine i_bipush G dX8_report_46 (by decide) ?_
        refine i_imul G dX8_report_48 ?_
        refine i_iload_n G dX8_report_49 rfl ?_
        refine i_iadd G dX8_report_50 ?_
        refine i_iload_n G dX8_report_51 rfl ?_
        refine i_if_eq (tgt := 59) G dX8_report_52 (by decide) (by omega) (fun h52 => ?_) (fun h52 => ?_)
        · skip
          refine i_iconst G dX8_report_59 ?_
          refine j_iast_y G 13 rfl (by decide) (by decide) (by omega) (by omega) (by decide) hRy29 (by show (0 : Int) ≤ _ ∧ _ ≤ (2 : Int); omega) dX8_report_60 (fun y60 ey60 hRy60 => ?_)
          have hwt : (0 ≤ w ∧ w < 10) ∧ (0 ≤ t ∧ t < z 1 0) := by omega
          refine j_sw (k := 32) (a := t * 10 + w) (x := (if g = 0 then 1 else 2)) (by decide +kernel) (by decide) ?_
          obtain ⟨zS, ezS⟩ : ∃ z_ : wZ, z_ = zp z 32 (t * 10 + w) (if g = 0 then 1 else 2) := ⟨_, rfl⟩
          rw [← ezS]
          have hRzS : Rng zS := by rw [ezS]; exact rng_zp hR (by show (0 : Int) ≤ _ ∧ _ ≤ (2 : Int); split <;> omega)
          have hMS : MI zS y60 := by rw [ezS, ey60]; exact MI_put (MI_y hM (by rw [ey29, zp_nk _ (by decide)])) (by rcases hg with rfl | rfl <;> first | rfl | (exfalso; omega))
          have e16 : zS 16 t = z 16 t := by rw [ezS, zp_nk _ (by decide)]
          refine i_iconst G dX8_report_61 ?_
          refine i_istore (L' := [some (.ref (ad 40)), some (vi (w)), some (vi (t)), some (vi (g)), some (vi (0)), none, none, none]) G dX8_report_62 (by decide) rfl ?_
          refine i_iconst G dX8_report_64 ?_
          refine i_istore (L' := [some (.ref (ad 40)), some (vi (w)), some (vi (t)), some (vi (g)), some (vi (0)), some (vi (0)), none, none]) G dX8_report_65 (by decide) rfl ?_
          refine i_iconst G dX8_report_67 ?_
          refine i_istore (L' := [some (.ref (ad 40)), some (vi (w)), some (vi (t)), some (vi (g)), some (vi (0)), some (vi (0)), some (vi (0)), none]) G dX8_report_68 (by decide) rfl ?_
          refine i_forget (L' := [some (.ref (ad 40)), some (vi (w)), some (vi (t)), some (vi (g)), some (vi (0)), some (vi (0)), some (vi (0)), none]) ⟨rfl, ⟨rfl, ⟨rfl, ⟨rfl, ⟨rfl, ⟨rfl, ⟨rfl, trivial⟩⟩⟩⟩⟩⟩⟩ ?_
          have lp70 : ∀ (n70 : Nat) (gn pa q : Int), (0 ≤ q) → (q + n70 = 10) → (0 ≤ gn ∧ gn ≤ 100 * q) → (0 ≤ pa ∧ pa ≤ 100 * q) → (trL zS t 2 n70 q gn = trL zS t 2 10 0 0) → (trL zS t 1 n70 q pa = trL zS t 1 10 0 0) → JW p l e (rmL 2) s m args below meth c 8 D aC ad A shM (MQ below (cQi D aC ad shM (fun r_ z2 y2 => y2 71 0 = kcRp z w t ∧ (kcRp z w t = 0 → r_ = rpF z w t g 16 t ∧ z2 = rpF z w t g ∧ MI z2 y2) ∧ (kcRp z w t ≠ 0 → z2 = z ∧ y2 72 = y 72) ∧ Rng z2 ∧ Rng y2 ∧ ∀ k', k' ≠ 70 → k' ≠ 71 → k' ≠ 72 → y2 k' = y k') A) args s 0 0 A) 0 0 (zc zS y60) 70 [some (.ref (ad 40)), some (vi (w)), some (vi (t)), some (vi (g)), some (vi (gn)), some (vi (pa)), some (vi (q)), none] [] := by
            intro n70
            induction n70 with
            | zero => 
              intro gn pa q hq hn hgn hpa hGL hPL
              have hG : gn = trL zS t 2 10 0 0 := hGL
              have hP : pa = trL zS t 1 10 0 0 := hPL
              refine i_iload G dX8_report_70 rfl ?_
              refine i_bipush G dX8_report_72 (by decide) ?_
              refine i_icmp_ge (tgt := 141) G dX8_report_74 (by decide) (by omega) (by omega) (fun h74 => ?_) (fun h74 => ?_)
              · skip
                refine i_iload G dX8_report_141 rfl ?_
                refine i_bipush G dX8_report_143 (by decide) ?_
                refine i_icmp_lt (tgt := 165) G dX8_report_145 (by decide) (by omega) (by omega) (fun h145 => ?_) (fun h145 => ?_)
                · skip
                  refine i_iload G dX8_report_165 rfl ?_
                  refine i_bipush G dX8_report_167 (by decide) ?_
                  refine i_icmp_lt (tgt := 186) G dX8_report_169 (by decide) (by omega) (by omega) (fun h169 => ?_) (fun h169 => ?_)
                  · skip
                    refine i_aload_n G dX8_report_186 rfl ?_
                    refine i_getr G F_X8_33 0 rfl rfl dX8_report_187 ?_
                    refine i_iload_n G dX8_report_190 rfl ?_
                    refine j_zald_z G 7 rfl (by decide) (by decide) (by omega) (by omega) dX8_report_191 ?_
                    have b191 : 0 ≤ zS 16 t ∧ zS 16 t ≤ 1 := hRzS 16 _
                    refine j_retz G hr (by omega) dX8_report_192 ?_
                    have e71 : y29 71 0 = kcRp z w t := by rw [ey29, zp_same]; unfold kcRp; (repeat' split) <;> omega
                    have eb : blvF zS t (z 16 t) = zS 16 t := by
                      unfold blvF
                      rw [← hG, ← hP]
                      show (if 100 ≤ gn ∧ pa < gn then (1 : Int) else if 100 ≤ pa ∧ gn ≤ pa then 0 else z 16 t) = _
                      rw [if_neg (by omega), if_neg (by omega), e16]
                    have ez : zS = rpF z w t g := by
                      unfold rpF
                      show _ = zp (ntF' z w t g) 16 t (blvF (ntF' z w t g) t (z 16 t))
                      rw [show ntF' z w t g = zS from ezS.symm, eb]
                      rw [zp_id]
                    have e716 : y60 71 0 = kcRp z w t := by rw [ey60, zp_nk _ (by decide)]; exact e71
                    refine ⟨e716, fun hk => ⟨by rw [← ez], ez, MI_z hMS (by first | rfl | rw [ezS, zp_nk _ (by decide)])⟩, fun hk => ?_, hRzS, hRy60, fun k a b c => by rw [ey60, zp_nk _ c, ey29, zp_nk _ b]⟩
                    exfalso
                    rw [ey29, zp_same] at e71
                    omega
                  · skip
                    refine i_iload G dX8_report_172 rfl ?_
                    refine i_iload G dX8_report_174 rfl ?_
                    refine i_icmp_lt (tgt := 186) G dX8_report_176 (by decide) (by omega) (by omega) (fun h176 => ?_) (fun h176 => ?_)
                    · skip
                      refine i_aload_n G dX8_report_186 rfl ?_
                      refine i_getr G F_X8_33 0 rfl rfl dX8_report_187 ?_
                      refine i_iload_n G dX8_report_190 rfl ?_
                      refine j_zald_z G 7 rfl (by decide) (by decide) (by omega) (by omega) dX8_report_191 ?_
                      have b191 : 0 ≤ zS 16 t ∧ zS 16 t ≤ 1 := hRzS 16 _
                      refine j_retz G hr (by omega) dX8_report_192 ?_
                      have e71 : y29 71 0 = kcRp z w t := by rw [ey29, zp_same]; unfold kcRp; (repeat' split) <;> omega
                      have eb : blvF zS t (z 16 t) = zS 16 t := by
                        unfold blvF
                        rw [← hG, ← hP]
                        show (if 100 ≤ gn ∧ pa < gn then (1 : Int) else if 100 ≤ pa ∧ gn ≤ pa then 0 else z 16 t) = _
                        rw [if_neg (by omega), if_neg (by omega), e16]
                      have ez : zS = rpF z w t g := by
                        unfold rpF
                        show _ = zp (ntF' z w t g) 16 t (blvF (ntF' z w t g) t (z 16 t))
                        rw [show ntF' z w t g = zS from ezS.symm, eb]
                        rw [zp_id]
                      have e716 : y60 71 0 = kcRp z w t := by rw [ey60, zp_nk _ (by decide)]; exact e71
                      refine ⟨e716, fun hk => ⟨by rw [← ez], ez, MI_z hMS (by first | rfl | rw [ezS, zp_nk _ (by decide)])⟩, fun hk => ?_, hRzS, hRy60, fun k a b c => by rw [ey60, zp_nk _ c, ey29, zp_nk _ b]⟩
                      exfalso
                      rw [ey29, zp_same] at e71
                      omega
                    · skip
                      refine i_aload_n G dX8_report_179 rfl ?_
                      refine i_getr G F_X8_33 0 rfl rfl dX8_report_180 ?_
                      refine i_iload_n G dX8_report_183 rfl ?_
                      refine i_iconst G dX8_report_184 ?_
                      refine j_zast_z G 7 rfl (by decide) (by decide) (by omega) (by omega) (by omega) (by decide) hRzS (by show (0 : Int) ≤ _ ∧ _ ≤ (1 : Int); omega) dX8_report_185 (fun z185 ez185 hRz185 => ?_)
                      refine i_aload_n G dX8_report_186 rfl ?_
                      refine i_getr G F_X8_33 0 rfl rfl dX8_report_187 ?_
                      refine i_iload_n G dX8_report_190 rfl ?_
                      refine j_zald_z G 7 rfl (by decide) (by decide) (by omega) (by omega) dX8_report_191 ?_
                      have b191 : 0 ≤ z185 16 t ∧ z185 16 t ≤ 1 := hRz185 16 _
                      refine j_retz G hr (by omega) dX8_report_192 ?_
                      have e71 : y29 71 0 = kcRp z w t := by rw [ey29, zp_same]; unfold kcRp; (repeat' split) <;> omega
                      have eb : blvF zS t (z 16 t) = 0 := by
                        unfold blvF
                        rw [← hG, ← hP]
                        show (if 100 ≤ gn ∧ pa < gn then (1 : Int) else if 100 ≤ pa ∧ gn ≤ pa then 0 else z 16 t) = _
                        rw [if_neg (by omega), if_pos (by omega)]
                      have ez : z185 = rpF z w t g := by
                        unfold rpF
                        show _ = zp (ntF' z w t g) 16 t (blvF (ntF' z w t g) t (z 16 t))
                        rw [show ntF' z w t g = zS from ezS.symm, eb]
                        first | rfl | rw [ez185]
                      have e716 : y60 71 0 = kcRp z w t := by rw [ey60, zp_nk _ (by decide)]; exact e71
                      refine ⟨e716, fun hk => ⟨by rw [← ez], ez, MI_z hMS (by first | rfl | rw [ez185, zp_nk _ (by decide)])⟩, fun hk => ?_, hRz185, hRy60, fun k a b c => by rw [ey60, zp_nk _ c, ey29, zp_nk _ b]⟩
                      exfalso
                      rw [ey29, zp_same] at e71
                      omega
                · skip
                  refine i_iload G dX8_report_148 rfl ?_
                  refine i_iload G dX8_report_150 rfl ?_
                  refine i_icmp_le (tgt := 165) G dX8_report_152 (by decide) (by omega) (by omega) (fun h152 => ?_) (fun h152 => ?_)
                  · skip
                    refine i_iload G dX8_report_165 rfl ?_
                    refine i_bipush G dX8_report_167 (by decide) ?_
                    refine i_icmp_lt (tgt := 186) G dX8_report_169 (by decide) (by omega) (by omega) (fun h169 => ?_) (fun h169 => ?_)
                    · skip
                      refine i_aload_n G dX8_report_186 rfl ?_
                      refine i_getr G F_X8_33 0 rfl rfl dX8_report_187 ?_
                      refine i_iload_n G dX8_report_190 rfl ?_
                      refine j_zald_z G 7 rfl (by decide) (by decide) (by omega) (by omega) dX8_report_191 ?_
                      have b191 : 0 ≤ zS 16 t ∧ zS 16 t ≤ 1 := hRzS 16 _
                      refine j_retz G hr (by omega) dX8_report_192 ?_
                      have e71 : y29 71 0 = kcRp z w t := by rw [ey29, zp_same]; unfold kcRp; (repeat' split) <;> omega
                      have eb : blvF zS t (z 16 t) = zS 16 t := by
                        unfold blvF
                        rw [← hG, ← hP]
                        show (if 100 ≤ gn ∧ pa < gn then (1 : Int) else if 100 ≤ pa ∧ gn ≤ pa then 0 else z 16 t) = _
                        rw [if_neg (by omega), if_neg (by omega), e16]
                      have ez : zS = rpF z w t g := by
                        unfold rpF
                        show _ = zp (ntF' z w t g) 16 t (blvF (ntF' z w t g) t (z 16 t))
                        rw [show ntF' z w t g = zS from ezS.symm, eb]
                        rw [zp_id]
                      have e716 : y60 71 0 = kcRp z w t := by rw [ey60, zp_nk _ (by decide)]; exact e71
                      refine ⟨e716, fun hk => ⟨by rw [← ez], ez, MI_z hMS (by first | rfl | rw [ezS, zp_nk _ (by decide)])⟩, fun hk => ?_, hRzS, hRy60, fun k a b c => by rw [ey60, zp_nk _ c, ey29, zp_nk _ b]⟩
                      exfalso
                      rw [ey29, zp_same] at e71
                      omega
                    · skip
                      refine i_iload G dX8_report_172 rfl ?_
                      refine i_iload G dX8_report_174 rfl ?_
                      refine i_icmp_lt (tgt := 186) G dX8_report_176 (by decide) (by omega) (by omega) (fun h176 => ?_) (fun h176 => ?_)
                      · skip
                        refine i_aload_n G dX8_report_186 rfl ?_
                        refine i_getr G F_X8_33 0 rfl rfl dX8_report_187 ?_
                        refine i_iload_n G dX8_report_190 rfl ?_
                        refine j_zald_z G 7 rfl (by decide) (by decide) (by omega) (by omega) dX8_report_191 ?_
                        have b191 : 0 ≤ zS 16 t ∧ zS 16 t ≤ 1 := hRzS 16 _
                        refine j_retz G hr (by omega) dX8_report_192 ?_
                        have e71 : y29 71 0 = kcRp z w t := by rw [ey29, zp_same]; unfold kcRp; (repeat' split) <;> omega
                        have eb : blvF zS t (z 16 t) = zS 16 t := by
                          unfold blvF
                          rw [← hG, ← hP]
                          show (if 100 ≤ gn ∧ pa < gn then (1 : Int) else if 100 ≤ pa ∧ gn ≤ pa then 0 else z 16 t) = _
                          rw [if_neg (by omega), if_neg (by omega), e16]
                        have ez : zS = rpF z w t g := by
                          unfold rpF
                          show _ = zp (ntF' z w t g) 16 t (blvF (ntF' z w t g) t (z 16 t))
                          rw [show ntF' z w t g = zS from ezS.symm, eb]
                          rw [zp_id]
                        have e716 : y60 71 0 = kcRp z w t := by rw [ey60, zp_nk _ (by decide)]; exact e71
                        refine ⟨e716, fun hk => ⟨by rw [← ez], ez, MI_z hMS (by first | rfl | rw [ezS, zp_nk _ (by decide)])⟩, fun hk => ?_, hRzS, hRy60, fun k a b c => by rw [ey60, zp_nk _ c, ey29, zp_nk _ b]⟩
                        exfalso
                        rw [ey29, zp_same] at e71
                        omega
                      · skip
                        refine i_aload_n G dX8_report_179 rfl ?_
                        refine i_getr G F_X8_33 0 rfl rfl dX8_report_180 ?_
                        refine i_iload_n G dX8_report_183 rfl ?_
                        refine i_iconst G dX8_report_184 ?_
                        refine j_zast_z G 7 rfl (by decide) (by decide) (by omega) (by omega) (by omega) (by decide) hRzS (by show (0 : Int) ≤ _ ∧ _ ≤ (1 : Int); omega) dX8_report_185 (fun z185 ez185 hRz185 => ?_)
                        refine i_aload_n G dX8_report_186 rfl ?_
                        refine i_getr G F_X8_33 0 rfl rfl dX8_report_187 ?_
                        refine i_iload_n G dX8_report_190 rfl ?_
                        refine j_zald_z G 7 rfl (by decide) (by decide) (by omega) (by omega) dX8_report_191 ?_
                        have b191 : 0 ≤ z185 16 t ∧ z185 16 t ≤ 1 := hRz185 16 _
                        refine j_retz G hr (by omega) dX8_report_192 ?_
                        have e71 : y29 71 0 = kcRp z w t := by rw [ey29, zp_same]; unfold kcRp; (repeat' split) <;> omega
                        have eb : blvF zS t (z 16 t) = 0 := by
                          unfold blvF
                          rw [← hG, ← hP]
                          show (if 100 ≤ gn ∧ pa < gn then (1 : Int) else if 100 ≤ pa ∧ gn ≤ pa then 0 else z 16 t) = _
                          rw [if_neg (by omega), if_pos (by omega)]
                        have ez : z185 = rpF z w t g := by
                          unfold rpF
                          show _ = zp (ntF' z w t g) 16 t (blvF (ntF' z w t g) t (z 16 t))
                          rw [show ntF' z w t g = zS from ezS.symm, eb]
                          first | rfl | rw [ez185]
                        have e716 : y60 71 0 = kcRp z w t := by rw [ey60, zp_nk _ (by decide)]; exact e71
                        refine ⟨e716, fun hk => ⟨by rw [← ez], ez, MI_z hMS (by first | rfl | rw [ez185, zp_nk _ (by decide)])⟩, fun hk => ?_, hRz185, hRy60, fun k a b c => by rw [ey60, zp_nk _ c, ey29, zp_nk _ b]⟩
                        exfalso
                        rw [ey29, zp_same] at e71
                        omega
                  · skip
                    refine i_aload_n G dX8_report_155 rfl ?_
                    refine i_getr G F_X8_33 0 rfl rfl dX8_report_156 ?_
                    refine i_iload_n G dX8_report_159 rfl ?_
                    refine i_iconst G dX8_report_160 ?_
                    refine j_zast_z G 7 rfl (by decide) (by decide) (by omega) (by omega) (by omega) (by decide) hRzS (by show (0 : Int) ≤ _ ∧ _ ≤ (1 : Int); omega) dX8_report_161 (fun z161 ez161 hRz161 => ?_)
                    refine i_goto (tgt := 186) G dX8_report_162 (by decide) ?_
                    refine i_aload_n G dX8_report_186 rfl ?_
                    refine i_getr G F_X8_33 0 rfl rfl dX8_report_187 ?_
                    refine i_iload_n G dX8_report_190 rfl ?_
                    refine j_zald_z G 7 rfl (by decide) (by decide) (by omega) (by omega) dX8_report_191 ?_
                    have b191 : 0 ≤ z161 16 t ∧ z161 16 t ≤ 1 := hRz161 16 _
                    refine j_retz G hr (by omega) dX8_report_192 ?_
                    have e71 : y29 71 0 = kcRp z w t := by rw [ey29, zp_same]; unfold kcRp; (repeat' split) <;> omega
                    have eb : blvF zS t (z 16 t) = 1 := by
                      unfold blvF
                      rw [← hG, ← hP]
                      show (if 100 ≤ gn ∧ pa < gn then (1 : Int) else if 100 ≤ pa ∧ gn ≤ pa then 0 else z 16 t) = _
                      rw [if_pos (by omega)]
                    have ez : z161 = rpF z w t g := by
                      unfold rpF
                      show _ = zp (ntF' z w t g) 16 t (blvF (ntF' z w t g) t (z 16 t))
                      rw [show ntF' z w t g = zS from ezS.symm, eb]
                      first | rfl | rw [ez161]
                    have e716 : y60 71 0 = kcRp z w t := by rw [ey60, zp_nk _ (by decide)]; exact e71
                    refine ⟨e716, fun hk => ⟨by rw [← ez], ez, MI_z hMS (by first | rfl | rw [ez161, zp_nk _ (by decide)])⟩, fun hk => ?_, hRz161, hRy60, fun k a b c => by rw [ey60, zp_nk _ c, ey29, zp_nk _ b]⟩
                    exfalso
                    rw [ey29, zp_same] at e71
                    omega
              · skip
                exfalso; omega
            | succ n70 ih70 => 
              intro gn pa q hq hn hgn hpa hGL hPL
              have q32 : 0 ≤ zS 32 (t * 10 + q) ∧ zS 32 (t * 10 + q) ≤ 2 := hRzS 32 _
              have hm2 := hMS (t * 10 + q) (by omega) (by omega)
              have hm3 : (zS 32 (t * 10 + q) = 0 ∧ y60 72 (t * 10 + q) = 0) ∨ (zS 32 (t * 10 + q) ≠ 0 ∧ y60 72 (t * 10 + q) = 3 - zS 32 (t * 10 + q)) := by split at hm2 <;> omega
              have qt : 0 ≤ zS 22 q ∧ zS 22 q ≤ 100 := hRzS 22 q
              refine i_iload G dX8_report_70 rfl ?_
              refine i_bipush G dX8_report_72 (by decide) ?_
              refine i_icmp_ge (tgt := 141) G dX8_report_74 (by decide) (by omega) (by omega) (fun h74 => ?_) (fun h74 => ?_)
              · skip
                exfalso; omega
              · skip
                refine i_aload_n G dX8_report_77 rfl ?_
                refine i_getr G F_X8_51 0 rfl rfl dX8_report_78 ?_
                refine i_iload_n G dX8_report_81 rfl ?_
                refine i_bipush G dX8_report_82 (by decide) ?_
                refine i_imul G dX8_report_84 ?_
                refine i_iload G dX8_report_85 rfl ?_
                refine i_iadd G dX8_report_87 ?_
                refine j_iald_y G 13 rfl (by decide) (by decide) (by omega) (by omega) dX8_report_88 ?_
                have b88 : 0 ≤ y60 72 ((t * 10) + q) ∧ y60 72 ((t * 10) + q) ≤ 2 := hRy60 72 _
                refine i_istore (L' := [some (.ref (ad 40)), some (vi (w)), some (vi (t)), some (vi (g)), some (vi (gn)), some (vi (pa)), some (vi (q)), some (vi ((y60 72 ((t * 10) + q))))]) G dX8_report_89 (by decide) rfl ?_
                refine i_iload G dX8_report_91 rfl ?_
                refine i_iload G dX8_report_93 rfl ?_
                refine i_iconst G dX8_report_95 ?_
                refine i_icmp_ne (tgt := 109) G dX8_report_96 (by decide) (by omega) (by omega) (fun h96 => ?_) (fun h96 => ?_)
                · skip
                  refine i_iconst G dX8_report_109 ?_
                  refine i_iadd G dX8_report_110 ?_
                  refine i_istore (L' := [some (.ref (ad 40)), some (vi (w)), some (vi (t)), some (vi (g)), some (vi ((gn + 0))), some (vi (pa)), some (vi (q)), some (vi ((y60 72 ((t * 10) + q))))]) G dX8_report_111 (by decide) rfl ?_
                  refine i_iload G dX8_report_113 rfl ?_
                  refine i_iload G dX8_report_115 rfl ?_
                  refine i_iconst G dX8_report_117 ?_
                  refine i_icmp_ne (tgt := 131) G dX8_report_118 (by decide) (by omega) (by omega) (fun h118 => ?_) (fun h118 => ?_)
                  · skip
                    refine i_iconst G dX8_report_131 ?_
                    refine i_iadd G dX8_report_132 ?_
                    refine i_istore (L' := [some (.ref (ad 40)), some (vi (w)), some (vi (t)), some (vi (g)), some (vi ((gn + 0))), some (vi ((pa + 0))), some (vi (q)), some (vi ((y60 72 ((t * 10) + q))))]) G dX8_report_133 (by decide) rfl ?_
                    refine i_iinc (L' := [some (.ref (ad 40)), some (vi (w)), some (vi (t)), some (vi (g)), some (vi ((gn + 0))), some (vi ((pa + 0))), some (vi (q + 1)), some (vi ((y60 72 ((t * 10) + q))))]) G dX8_report_135 (by decide) rfl rfl ?_
                    refine i_goto (tgt := 70) G dX8_report_138 (by decide) ?_
                    refine i_forget (L' := [some (.ref (ad 40)), some (vi (w)), some (vi (t)), some (vi (g)), some (vi ((gn + 0))), some (vi ((pa + 0))), some (vi (q + 1)), none]) ⟨rfl, ⟨rfl, ⟨rfl, ⟨rfl, ⟨rfl, ⟨rfl, ⟨rfl, trivial⟩⟩⟩⟩⟩⟩⟩ ?_
                    exact ih70 _ _ (q + 1) (by omega) (by omega) (by omega) (by omega) (by rw [← hGL, trL]; congr 1; split <;> omega) (by rw [← hPL, trL]; congr 1; split <;> omega)
                  · skip
                    refine i_aload_n G dX8_report_121 rfl ?_
                    refine i_getr G F_X8_54 0 rfl rfl dX8_report_122 ?_
                    refine i_iload G dX8_report_125 rfl ?_
                    refine j_iald_z G 14 rfl (by decide) (by decide) (by omega) (by omega) dX8_report_127 ?_
                    have b127 : 0 ≤ zS 22 q ∧ zS 22 q ≤ 100 := hRzS 22 _
                    refine i_goto (tgt := 132) G dX8_report_128 (by decide) ?_
                    refine i_iadd G dX8_report_132 ?_
                    refine i_istore (L' := [some (.ref (ad 40)), some (vi (w)), some (vi (t)), some (vi (g)), some (vi ((gn + 0))), some (vi ((pa + (zS 22 q)))), some (vi (q)), some (vi ((y60 72 ((t * 10) + q))))]) G dX8_report_133 (by decide) rfl ?_
                    refine i_iinc (L' := [some (.ref (ad 40)), some (vi (w)), some (vi (t)), some (vi (g)), some (vi ((gn + 0))), some (vi ((pa + (zS 22 q)))), some (vi (q + 1)), some (vi ((y60 72 ((t * 10) + q))))]) G dX8_report_135 (by decide) rfl rfl ?_
                    refine i_goto (tgt := 70) G dX8_report_138 (by decide) ?_
                    refine i_forget (L' := [some (.ref (ad 40)), some (vi (w)), some (vi (t)), some (vi (g)), some (vi ((gn + 0))), some (vi ((pa + (zS 22 q)))), some (vi (q + 1)), none]) ⟨rfl, ⟨rfl, ⟨rfl, ⟨rfl, ⟨rfl, ⟨rfl, ⟨rfl, trivial⟩⟩⟩⟩⟩⟩⟩ ?_
                    exact ih70 _ _ (q + 1) (by omega) (by omega) (by omega) (by omega) (by rw [← hGL, trL]; congr 1; split <;> omega) (by rw [← hPL, trL]; congr 1; split <;> omega)
                · skip
                  refine i_aload_n G dX8_report_99 rfl ?_
                  refine i_getr G F_X8_54 0 rfl rfl dX8_report_100 ?_
                  refine i_iload G dX8_report_103 rfl ?_
                  refine j_iald_z G 14 rfl (by decide) (by decide) (by omega) (by omega) dX8_report_105 ?_
                  have b105 : 0 ≤ zS 22 q ∧ zS 22 q ≤ 100 := hRzS 22 _
                  refine i_goto (tgt := 110) G dX8_report_106 (by decide) ?_
                  refine i_iadd G dX8_report_110 ?_
                  refine i_istore (L' := [some (.ref (ad 40)), some (vi (w)), some (vi (t)), some (vi (g)), some (vi ((gn + (zS 22 q)))), some (vi (pa)), some (vi (q)), some (vi ((y60 72 ((t * 10) + q))))]) G dX8_report_111 (by decide) rfl ?_
                  refine i_iload G dX8_report_113 rfl ?_
                  refine i_iload G dX8_report_115 rfl ?_
                  refine i_iconst G dX8_report_117 ?_
                  refine i_icmp_ne (tgt := 131) G dX8_report_118 (by decide) (by omega) (by omega) (fun h118 => ?_) (fun h118 => ?_)
                  · skip
                    refine i_iconst G dX8_report_131 ?_
                    refine i_iadd G dX8_report_132 ?_
                    refine i_istore (L' := [some (.ref (ad 40)), some (vi (w)), some (vi (t)), some (vi (g)), some (vi ((gn + (zS 22 q)))), some (vi ((pa + 0))), some (vi (q)), some (vi ((y60 72 ((t * 10) + q))))]) G dX8_report_133 (by decide) rfl ?_
                    refine i_iinc (L' := [some (.ref (ad 40)), some (vi (w)), some (vi (t)), some (vi (g)), some (vi ((gn + (zS 22 q)))), some (vi ((pa + 0))), some (vi (q + 1)), some (vi ((y60 72 ((t * 10) + q))))]) G dX8_report_135 (by decide) rfl rfl ?_
                    refine i_goto (tgt := 70) G dX8_report_138 (by decide) ?_
                    refine i_forget (L' := [some (.ref (ad 40)), some (vi (w)), some (vi (t)), some (vi (g)), some (vi ((gn + (zS 22 q)))), some (vi ((pa + 0))), some (vi (q + 1)), none]) ⟨rfl, ⟨rfl, ⟨rfl, ⟨rfl, ⟨rfl, ⟨rfl, ⟨rfl, trivial⟩⟩⟩⟩⟩⟩⟩ ?_
                    exact ih70 _ _ (q + 1) (by omega) (by omega) (by omega) (by omega) (by rw [← hGL, trL]; congr 1; split <;> omega) (by rw [← hPL, trL]; congr 1; split <;> omega)
                  · skip
                    refine i_aload_n G dX8_report_121 rfl ?_
                    refine i_getr G F_X8_54 0 rfl rfl dX8_report_122 ?_
                    refine i_iload G dX8_report_125 rfl ?_
                    refine j_iald_z G 14 rfl (by decide) (by decide) (by omega) (by omega) dX8_report_127 ?_
                    have b127 : 0 ≤ zS 22 q ∧ zS 22 q ≤ 100 := hRzS 22 _
                    refine i_goto (tgt := 132) G dX8_report_128 (by decide) ?_
                    refine i_iadd G dX8_report_132 ?_
                    refine i_istore (L' := [some (.ref (ad 40)), some (vi (w)), some (vi (t)), some (vi (g)), some (vi ((gn + (zS 22 q)))), some (vi ((pa + (zS 22 q)))), some (vi (q)), some (vi ((y60 72 ((t * 10) + q))))]) G dX8_report_133 (by decide) rfl ?_
                    refine i_iinc (L' := [some (.ref (ad 40)), some (vi (w)), some (vi (t)), some (vi (g)), some (vi ((gn + (zS 22 q)))), some (vi ((pa + (zS 22 q)))), some (vi (q + 1)), some (vi ((y60 72 ((t * 10) + q))))]) G dX8_report_135 (by decide) rfl rfl ?_
                    refine i_goto (tgt := 70) G dX8_report_138 (by decide) ?_
                    refine i_forget (L' := [some (.ref (ad 40)), some (vi (w)), some (vi (t)), some (vi (g)), some (vi ((gn + (zS 22 q)))), some (vi ((pa + (zS 22 q)))), some (vi (q + 1)), none]) ⟨rfl, ⟨rfl, ⟨rfl, ⟨rfl, ⟨rfl, ⟨rfl, ⟨rfl, trivial⟩⟩⟩⟩⟩⟩⟩ ?_
                    exact ih70 _ _ (q + 1) (by omega) (by omega) (by omega) (by omega) (by rw [← hGL, trL]; congr 1; split <;> omega) (by rw [← hPL, trL]; congr 1; split <;> omega)
          exact lp70 10 0 0 0 (by omega) (by omega) (by omega) (by omega) rfl rfl
        · skip
          refine i_iconst G dX8_report_55 ?_
          refine i_goto (tgt := 60) G dX8_report_56 (by decide) ?_
          refine j_iast_y G 13 rfl (by decide) (by decide) (by omega) (by omega) (by decide) hRy29 (by show (0 : Int) ≤ _ ∧ _ ≤ (2 : Int); omega) dX8_report_60 (fun y60 ey60 hRy60 => ?_)
          have hwt : (0 ≤ w ∧ w < 10) ∧ (0 ≤ t ∧ t < z 1 0) := by omega
          refine j_sw (k := 32) (a := t * 10 + w) (x := (if g = 0 then 1 else 2)) (by decide +kernel) (by decide) ?_
          obtain ⟨zS, ezS⟩ : ∃ z_ : wZ, z_ = zp z 32 (t * 10 + w) (if g = 0 then 1 else 2) := ⟨_, rfl⟩
          rw [← ezS]
          have hRzS : Rng zS := by rw [ezS]; exact rng_zp hR (by show (0 : Int) ≤ _ ∧ _ ≤ (2 : Int); split <;> omega)
          have hMS : MI zS y60 := by rw [ezS, ey60]; exact MI_put (MI_y hM (by rw [ey29, zp_nk _ (by decide)])) (by rcases hg with rfl | rfl <;> first | rfl | (exfalso; omega))
          have e16 : zS 16 t = z 16 t := by rw [ezS, zp_nk _ (by decide)]
          refine i_iconst G dX8_report_61 ?_
          refine i_istore (L' := [some (.ref (ad 40)), some (vi (w)), some (vi (t)), some (vi (g)), some (vi (0)), none, none, none]) G dX8_report_62 (by decide) rfl ?_
          refine i_iconst G dX8_report_64 ?_
          refine i_istore (L' := [some (.ref (ad 40)), some (vi (w)), some (vi (t)), some (vi (g)), some (vi (0)), some (vi (0)), none, none]) G dX8_report_65 (by decide) rfl ?_
          refine i_iconst G dX8_report_67 ?_
          refine i_istore (L' := [some (.ref (ad 40)), some (vi (w)), some (vi (t)), some (vi (g)), some (vi (0)), some (vi (0)), some (vi (0)), none]) G dX8_report_68 (by decide) rfl ?_
          refine i_forget (L' := [some (.ref (ad 40)), some (vi (w)), some (vi (t)), some (vi (g)), some (vi (0)), some (vi (0)), some (vi (0)), none]) ⟨rfl, ⟨rfl, ⟨rfl, ⟨rfl, ⟨rfl, ⟨rfl, ⟨rfl, trivial⟩⟩⟩⟩⟩⟩⟩ ?_
          have lp70 : ∀ (n70 : Nat) (gn pa q : Int), (0 ≤ q) → (q + n70 = 10) → (0 ≤ gn ∧ gn ≤ 100 * q) → (0 ≤ pa ∧ pa ≤ 100 * q) → (trL zS t 2 n70 q gn = trL zS t 2 10 0 0) → (trL zS t 1 n70 q pa = trL zS t 1 10 0 0) → JW p l e (rmL 2) s m args below meth c 8 D aC ad A shM (MQ below (cQi D aC ad shM (fun r_ z2 y2 => y2 71 0 = kcRp z w t ∧ (kcRp z w t = 0 → r_ = rpF z w t g 16 t ∧ z2 = rpF z w t g ∧ MI z2 y2) ∧ (kcRp z w t ≠ 0 → z2 = z ∧ y2 72 = y 72) ∧ Rng z2 ∧ Rng y2 ∧ ∀ k', k' ≠ 70 → k' ≠ 71 → k' ≠ 72 → y2 k' = y k') A) args s 0 0 A) 0 0 (zc zS y60) 70 [some (.ref (ad 40)), some (vi (w)), some (vi (t)), some (vi (g)), some (vi (gn)), some (vi (pa)), some (vi (q)), none] [] := by
            intro n70
            induction n70 with
            | zero => 
              intro gn pa q hq hn hgn hpa hGL hPL
              have hG : gn = trL zS t 2 10 0 0 := hGL
              have hP : pa = trL zS t 1 10 0 0 := hPL
              refine i_iload G dX8_report_70 rfl ?_
              refine i_bipush G dX8_report_72 (by decide) ?_
              refine i_icmp_ge (tgt := 141) G dX8_report_74 (by decide) (by omega) (by omega) (fun h74 => ?_) (fun h74 => ?_)
              · skip
                refine i_iload G dX8_report_141 rfl ?_
                refine i_bipush G dX8_report_143 (by decide) ?_
                refine i_icmp_lt (tgt := 165) G dX8_report_145 (by decide) (by omega) (by omega) (fun h145 => ?_) (fun h145 => ?_)
                · skip
                  refine i_iload G dX8_report_165 rfl ?_
                  refine i_bipush G dX8_report_167 (by decide) ?_
                  refine i_icmp_lt (tgt := 186) G dX8_report_169 (by decide) (by omega) (by omega) (fun h169 => ?_) (fun h169 => ?_)
                  · skip
                    refine i_aload_n G dX8_report_186 rfl ?_
                    refine i_getr G F_X8_33 0 rfl rfl dX8_report_187 ?_
                    refine i_iload_n G dX8_report_190 rfl ?_
                    refine j_zald_z G 7 rfl (by decide) (by decide) (by omega) (by omega) dX8_report_191 ?_
                    have b191 : 0 ≤ zS 16 t ∧ zS 16 t ≤ 1 := hRzS 16 _
                    refine j_retz G hr (by omega) dX8_report_192 ?_
                    have e71 : y29 71 0 = kcRp z w t := by rw [ey29, zp_same]; unfold kcRp; (repeat' split) <;> omega
                    have eb : blvF zS t (z 16 t) = zS 16 t := by
                      unfold blvF
                      rw [← hG, ← hP]
                      show (if 100 ≤ gn ∧ pa < gn then (1 : Int) else if 100 ≤ pa ∧ gn ≤ pa then 0 else z 16 t) = _
                      rw [if_neg (by omega), if_neg (by omega), e16]
                    have ez : zS = rpF z w t g := by
                      unfold rpF
                      show _ = zp (ntF' z w t g) 16 t (blvF (ntF' z w t g) t (z 16 t))
                      rw [show ntF' z w t g = zS from ezS.symm, eb]
                      rw [zp_id]
                    have e716 : y60 71 0 = kcRp z w t := by rw [ey60, zp_nk _ (by decide)]; exact e71
                    refine ⟨e716, fun hk => ⟨by rw [← ez], ez, MI_z hMS (by first | rfl | rw [ezS, zp_nk _ (by decide)])⟩, fun hk => ?_, hRzS, hRy60, fun k a b c => by rw [ey60, zp_nk _ c, ey29, zp_nk _ b]⟩
                    exfalso
                    rw [ey29, zp_same] at e71
                    omega
                  · skip
                    refine i_iload G dX8_report_172 rfl ?_
                    refine i_iload G dX8_report_174 rfl ?_
                    refine i_icmp_lt (tgt := 186) G dX8_report_176 (by decide) (by omega) (by omega) (fun h176 => ?_) (fun h176 => ?_)
                    · skip
                      refine i_aload_n G dX8_report_186 rfl ?_
                      refine i_getr G F_X8_33 0 rfl rfl dX8_report_187 ?_
                      refine i_iload_n G dX8_report_190 rfl ?_
                      refine j_zald_z G 7 rfl (by decide) (by decide) (by omega) (by omega) dX8_report_191 ?_
                      have b191 : 0 ≤ zS 16 t ∧ zS 16 t ≤ 1 := hRzS 16 _
                      refine j_retz G hr (by omega) dX8_report_192 ?_
                      have e71 : y29 71 0 = kcRp z w t := by rw [ey29, zp_same]; unfold kcRp; (repeat' split) <;> omega
                      have eb : blvF zS t (z 16 t) = zS 16 t := by
                        unfold blvF
                        rw [← hG, ← hP]
                        show (if 100 ≤ gn ∧ pa < gn then (1 : Int) else if 100 ≤ pa ∧ gn ≤ pa then 0 else z 16 t) = _
                        rw [if_neg (by omega), if_neg (by omega), e16]
                      have ez : zS = rpF z w t g := by
                        unfold rpF
                        show _ = zp (ntF' z w t g) 16 t (blvF (ntF' z w t g) t (z 16 t))
                        rw [show ntF' z w t g = zS from ezS.symm, eb]
                        rw [zp_id]
                      have e716 : y60 71 0 = kcRp z w t := by rw [ey60, zp_nk _ (by decide)]; exact e71
                      refine ⟨e716, fun hk => ⟨by rw [← ez], ez, MI_z hMS (by first | rfl | rw [ezS, zp_nk _ (by decide)])⟩, fun hk => ?_, hRzS, hRy60, fun k a b c => by rw [ey60, zp_nk _ c, ey29, zp_nk _ b]⟩
                      exfalso
                      rw [ey29, zp_same] at e71
                      omega
                    · skip
                      refine i_aload_n G dX8_report_179 rfl ?_
                      refine i_getr G F_X8_33 0 rfl rfl dX8_report_180 ?_
                      refine i_iload_n G dX8_report_183 rfl ?_
                      refine i_iconst G dX8_report_184 ?_
                      refine j_zast_z G 7 rfl (by decide) (by decide) (by omega) (by omega) (by omega) (by decide) hRzS (by show (0 : Int) ≤ _ ∧ _ ≤ (1 : Int); omega) dX8_report_185 (fun z185 ez185 hRz185 => ?_)
                      refine i_aload_n G dX8_report_186 rfl ?_
                      refine i_getr G F_X8_33 0 rfl rfl dX8_report_187 ?_
                      refine i_iload_n G dX8_report_190 rfl ?_
                      refine j_zald_z G 7 rfl (by decide) (by decide) (by omega) (by omega) dX8_report_191 ?_
                      have b191 : 0 ≤ z185 16 t ∧ z185 16 t ≤ 1 := hRz185 16 _
                      refine j_retz G hr (by omega) dX8_report_192 ?_
                      have e71 : y29 71 0 = kcRp z w t := by rw [ey29, zp_same]; unfold kcRp; (repeat' split) <;> omega
                      have eb : blvF zS t (z 16 t) = 0 := by
                        unfold blvF
                        rw [← hG, ← hP]
                        show (if 100 ≤ gn ∧ pa < gn then (1 : Int) else if 100 ≤ pa ∧ gn ≤ pa then 0 else z 16 t) = _
                        rw [if_neg (by omega), if_pos (by omega)]
                      have ez : z185 = rpF z w t g := by
                        unfold rpF
                        show _ = zp (ntF' z w t g) 16 t (blvF (ntF' z w t g) t (z 16 t))
                        rw [show ntF' z w t g = zS from ezS.symm, eb]
                        first | rfl | rw [ez185]
                      have e716 : y60 71 0 = kcRp z w t := by rw [ey60, zp_nk _ (by decide)]; exact e71
                      refine ⟨e716, fun hk => ⟨by rw [← ez], ez, MI_z hMS (by first | rfl | rw [ez185, zp_nk _ (by decide)])⟩, fun hk => ?_, hRz185, hRy60, fun k a b c => by rw [ey60, zp_nk _ c, ey29, zp_nk _ b]⟩
                      exfalso
                      rw [ey29, zp_same] at e71
                      omega
                · skip
                  refine i_iload G dX8_report_148 rfl ?_
                  refine i_iload G dX8_report_150 rfl ?_
                  refine i_icmp_le (tgt := 165) G dX8_report_152 (by decide) (by omega) (by omega) (fun h152 => ?_) (fun h152 => ?_)
                  · skip
                    refine i_iload G dX8_report_165 rfl ?_
                    refine i_bipush G dX8_report_167 (by decide) ?_
                    refine i_icmp_lt (tgt := 186) G dX8_report_169 (by decide) (by omega) (by omega) (fun h169 => ?_) (fun h169 => ?_)
                    · skip
                      refine i_aload_n G dX8_report_186 rfl ?_
                      refine i_getr G F_X8_33 0 rfl rfl dX8_report_187 ?_
                      refine i_iload_n G dX8_report_190 rfl ?_
                      refine j_zald_z G 7 rfl (by decide) (by decide) (by omega) (by omega) dX8_report_191 ?_
                      have b191 : 0 ≤ zS 16 t ∧ zS 16 t ≤ 1 := hRzS 16 _
                      refine j_retz G hr (by omega) dX8_report_192 ?_
                      have e71 : y29 71 0 = kcRp z w t := by rw [ey29, zp_same]; unfold kcRp; (repeat' split) <;> omega
                      have eb : blvF zS t (z 16 t) = zS 16 t := by
                        unfold blvF
                        rw [← hG, ← hP]
                        show (if 100 ≤ gn ∧ pa < gn then (1 : Int) else if 100 ≤ pa ∧ gn ≤ pa then 0 else z 16 t) = _
                        rw [if_neg (by omega), if_neg (by omega), e16]
                      have ez : zS = rpF z w t g := by
                        unfold rpF
                        show _ = zp (ntF' z w t g) 16 t (blvF (ntF' z w t g) t (z 16 t))
                        rw [show ntF' z w t g = zS from ezS.symm, eb]
                        rw [zp_id]
                      have e716 : y60 71 0 = kcRp z w t := by rw [ey60, zp_nk _ (by decide)]; exact e71
                      refine ⟨e716, fun hk => ⟨by rw [← ez], ez, MI_z hMS (by first | rfl | rw [ezS, zp_nk _ (by decide)])⟩, fun hk => ?_, hRzS, hRy60, fun k a b c => by rw [ey60, zp_nk _ c, ey29, zp_nk _ b]⟩
                      exfalso
                      rw [ey29, zp_same] at e71
                      omega
                    · skip
                      refine i_iload G dX8_report_172 rfl ?_
                      refine i_iload G dX8_report_174 rfl ?_
                      refine i_icmp_lt (tgt := 186) G dX8_report_176 (by decide) (by omega) (by omega) (fun h176 => ?_) (fun h176 => ?_)
                      · skip
                        refine i_aload_n G dX8_report_186 rfl ?_
                        refine i_getr G F_X8_33 0 rfl rfl dX8_report_187 ?_
                        refine i_iload_n G dX8_report_190 rfl ?_
                        refine j_zald_z G 7 rfl (by decide) (by decide) (by omega) (by omega) dX8_report_191 ?_
                        have b191 : 0 ≤ zS 16 t ∧ zS 16 t ≤ 1 := hRzS 16 _
                        refine j_retz G hr (by omega) dX8_report_192 ?_
                        have e71 : y29 71 0 = kcRp z w t := by rw [ey29, zp_same]; unfold kcRp; (repeat' split) <;> omega
                        have eb : blvF zS t (z 16 t) = zS 16 t := by
                          unfold blvF
                          rw [← hG, ← hP]
                          show (if 100 ≤ gn ∧ pa < gn then (1 : Int) else if 100 ≤ pa ∧ gn ≤ pa then 0 else z 16 t) = _
                          rw [if_neg (by omega), if_neg (by omega), e16]
                        have ez : zS = rpF z w t g := by
                          unfold rpF
                          show _ = zp (ntF' z w t g) 16 t (blvF (ntF' z w t g) t (z 16 t))
                          rw [show ntF' z w t g = zS from ezS.symm, eb]
                          rw [zp_id]
                        have e716 : y60 71 0 = kcRp z w t := by rw [ey60, zp_nk _ (by decide)]; exact e71
                        refine ⟨e716, fun hk => ⟨by rw [← ez], ez, MI_z hMS (by first | rfl | rw [ezS, zp_nk _ (by decide)])⟩, fun hk => ?_, hRzS, hRy60, fun k a b c => by rw [ey60, zp_nk _ c, ey29, zp_nk _ b]⟩
                        exfalso
                        rw [ey29, zp_same] at e71
                        omega
                      · skip
                        refine i_aload_n G dX8_report_179 rfl ?_
                        refine i_getr G F_X8_33 0 rfl rfl dX8_report_180 ?_
                        refine i_iload_n G dX8_report_183 rfl ?_
                        refine i_iconst G dX8_report_184 ?_
                        refine j_zast_z G 7 rfl (by decide) (by decide) (by omega) (by omega) (by omega) (by decide) hRzS (by show (0 : Int) ≤ _ ∧ _ ≤ (1 : Int); omega) dX8_report_185 (fun z185 ez185 hRz185 => ?_)
                        refine i_aload_n G dX8_report_186 rfl ?_
                        refine i_getr G F_X8_33 0 rfl rfl dX8_report_187 ?_
                        refine i_iload_n G dX8_report_190 rfl ?_
                        refine j_zald_z G 7 rfl (by decide) (by decide) (by omega) (by omega) dX8_report_191 ?_
                        have b191 : 0 ≤ z185 16 t ∧ z185 16 t ≤ 1 := hRz185 16 _
                        refine j_retz G hr (by omega) dX8_report_192 ?_
                        have e71 : y29 71 0 = kcRp z w t := by rw [ey29, zp_same]; unfold kcRp; (repeat' split) <;> omega
                        have eb : blvF zS t (z 16 t) = 0 := by
                          unfold blvF
                          rw [← hG, ← hP]
                          show (if 100 ≤ gn ∧ pa < gn then (1 : Int) else if 100 ≤ pa ∧ gn ≤ pa then 0 else z 16 t) = _
                          rw [if_neg (by omega), if_pos (by omega)]
                        have ez : z185 = rpF z w t g := by
                          unfold rpF
                          show _ = zp (ntF' z w t g) 16 t (blvF (ntF' z w t g) t (z 16 t))
                          rw [show ntF' z w t g = zS from ezS.symm, eb]
                          first | rfl | rw [ez185]
                        have e716 : y60 71 0 = kcRp z w t := by rw [ey60, zp_nk _ (by decide)]; exact e71
                        refine ⟨e716, fun hk => ⟨by rw [← ez], ez, MI_z hMS (by first | rfl | rw [ez185, zp_nk _ (by decide)])⟩, fun hk => ?_, hRz185, hRy60, fun k a b c => by rw [ey60, zp_nk _ c, ey29, zp_nk _ b]⟩
                        exfalso
                        rw [ey29, zp_same] at e71
                        omega
                  · skip
                    refine i_aload_n G dX8_report_155 rfl ?_
                    refine i_getr G F_X8_33 0 rfl rfl dX8_report_156 ?_
                    refine i_iload_n G dX8_report_159 rfl ?_
                    refine i_iconst G dX8_report_160 ?_
                    refine j_zast_z G 7 rfl (by decide) (by decide) (by omega) (by omega) (by omega) (by decide) hRzS (by show (0 : Int) ≤ _ ∧ _ ≤ (1 : Int); omega) dX8_report_161 (fun z161 ez161 hRz161 => ?_)
                    refine i_goto (tgt := 186) G dX8_report_162 (by decide) ?_
                    refine i_aload_n G dX8_report_186 rfl ?_
                    refine i_getr G F_X8_33 0 rfl rfl dX8_report_187 ?_
                    refine i_iload_n G dX8_report_190 rfl ?_
                    refine j_zald_z G 7 rfl (by decide) (by decide) (by omega) (by omega) dX8_report_191 ?_
                    have b191 : 0 ≤ z161 16 t ∧ z161 16 t ≤ 1 := hRz161 16 _
                    refine j_retz G hr (by omega) dX8_report_192 ?_
                    have e71 : y29 71 0 = kcRp z w t := by rw [ey29, zp_same]; unfold kcRp; (repeat' split) <;> omega
                    have eb : blvF zS t (z 16 t) = 1 := by
                      unfold blvF
                      rw [← hG, ← hP]
                      show (if 100 ≤ gn ∧ pa < gn then (1 : Int) else if 100 ≤ pa ∧ gn ≤ pa then 0 else z 16 t) = _
                      rw [if_pos (by omega)]
                    have ez : z161 = rpF z w t g := by
                      unfold rpF
                      show _ = zp (ntF' z w t g) 16 t (blvF (ntF' z w t g) t (z 16 t))
                      rw [show ntF' z w t g = zS from ezS.symm, eb]
                      first | rfl | rw [ez161]
                    have e716 : y60 71 0 = kcRp z w t := by rw [ey60, zp_nk _ (by decide)]; exact e71
                    refine ⟨e716, fun hk => ⟨by rw [← ez], ez, MI_z hMS (by first | rfl | rw [ez161, zp_nk _ (by decide)])⟩, fun hk => ?_, hRz161, hRy60, fun k a b c => by rw [ey60, zp_nk _ c, ey29, zp_nk _ b]⟩
                    exfalso
                    rw [ey29, zp_same] at e71
                    omega
              · skip
                exfalso; omega
            | succ n70 ih70 => 
              intro gn pa q hq hn hgn hpa hGL hPL
              have q32 : 0 ≤ zS 32 (t * 10 + q) ∧ zS 32 (t * 10 + q) ≤ 2 := hRzS 32 _
              have hm2 := hMS (t * 10 + q) (by omega) (by omega)
              have hm3 : (zS 32 (t * 10 + q) = 0 ∧ y60 72 (t * 10 + q) = 0) ∨ (zS 32 (t * 10 + q) ≠ 0 ∧ y60 72 (t * 10 + q) = 3 - zS 32 (t * 10 + q)) := by split at hm2 <;> omega
              have qt : 0 ≤ zS 22 q ∧ zS 22 q ≤ 100 := hRzS 22 q
              refine i_iload G dX8_report_70 rfl ?_
              refine i_bipush G dX8_report_72 (by decide) ?_
              refine i_icmp_ge (tgt := 141) G dX8_report_74 (by decide) (by omega) (by omega) (fun h74 => ?_) (fun h74 => ?_)
              · skip
                exfalso; omega
              · skip
                refine i_aload_n G dX8_report_77 rfl ?_
                refine i_getr G F_X8_51 0 rfl rfl dX8_report_78 ?_
                refine i_iload_n G dX8_report_81 rfl ?_
                refine i_bipush G dX8_report_82 (by decide) ?_
                refine i_imul G dX8_report_84 ?_
                refine i_iload G dX8_report_85 rfl ?_
                refine i_iadd G dX8_report_87 ?_
                refine j_iald_y G 13 rfl (by decide) (by decide) (by omega) (by omega) dX8_report_88 ?_
                have b88 : 0 ≤ y60 72 ((t * 10) + q) ∧ y60 72 ((t * 10) + q) ≤ 2 := hRy60 72 _
                refine i_istore (L' := [some (.ref (ad 40)), some (vi (w)), some (vi (t)), some (vi (g)), some (vi (gn)), some (vi (pa)), some (vi (q)), some (vi ((y60 72 ((t * 10) + q))))]) G dX8_report_89 (by decide) rfl ?_
                refine i_iload G dX8_report_91 rfl ?_
                refine i_iload G dX8_report_93 rfl ?_
                refine i_iconst G dX8_report_95 ?_
                refine i_icmp_ne (tgt := 109) G dX8_report_96 (by decide) (by omega) (by omega) (fun h96 => ?_) (fun h96 => ?_)
                · skip
                  refine i_iconst G dX8_report_109 ?_
                  refine i_iadd G dX8_report_110 ?_
                  refine i_istore (L' := [some (.ref (ad 40)), some (vi (w)), some (vi (t)), some (vi (g)), some (vi ((gn + 0))), some (vi (pa)), some (vi (q)), some (vi ((y60 72 ((t * 10) + q))))]) G dX8_report_111 (by decide) rfl ?_
                  refine i_iload G dX8_report_113 rfl ?_
                  refine i_iload G dX8_report_115 rfl ?_
                  refine i_iconst G dX8_report_117 ?_
                  refine i_icmp_ne (tgt := 131) G dX8_report_118 (by decide) (by omega) (by omega) (fun h118 => ?_) (fun h118 => ?_)
                  · skip
                    refine i_iconst G dX8_report_131 ?_
                    refine i_iadd G dX8_report_132 ?_
                    refine i_istore (L' := [some (.ref (ad 40)), some (vi (w)), some (vi (t)), some (vi (g)), some (vi ((gn + 0))), some (vi ((pa + 0))), some (vi (q)), some (vi ((y60 72 ((t * 10) + q))))]) G dX8_report_133 (by decide) rfl ?_
                    refine i_iinc (L' := [some (.ref (ad 40)), some (vi (w)), some (vi (t)), some (vi (g)), some (vi ((gn + 0))), some (vi ((pa + 0))), some (vi (q + 1)), some (vi ((y60 72 ((t * 10) + q))))]) G dX8_report_135 (by decide) rfl rfl ?_
                    refine i_goto (tgt := 70) G dX8_report_138 (by decide) ?_
                    refine i_forget (L' := [some (.ref (ad 40)), some (vi (w)), some (vi (t)), some (vi (g)), some (vi ((gn + 0))), some (vi ((pa + 0))), some (vi (q + 1)), none]) ⟨rfl, ⟨rfl, ⟨rfl, ⟨rfl, ⟨rfl, ⟨rfl, ⟨rfl, trivial⟩⟩⟩⟩⟩⟩⟩ ?_
                    exact ih70 _ _ (q + 1) (by omega) (by omega) (by omega) (by omega) (by rw [← hGL, trL]; congr 1; split <;> omega) (by rw [← hPL, trL]; congr 1; split <;> omega)
                  · skip
                    refine i_aload_n G dX8_report_121 rfl ?_
                    refine i_getr G F_X8_54 0 rfl rfl dX8_report_122 ?_
                    refine i_iload G dX8_report_125 rfl ?_
                    refine j_iald_z G 14 rfl (by decide) (by decide) (by omega) (by omega) dX8_report_127 ?_
                    have b127 : 0 ≤ zS 22 q ∧ zS 22 q ≤ 100 := hRzS 22 _
                    refine i_goto (tgt := 132) G dX8_report_128 (by decide) ?_
                    refine i_iadd G dX8_report_132 ?_
                    refine i_istore (L' := [some (.ref (ad 40)), some (vi (w)), some (vi (t)), some (vi (g)), some (vi ((gn + 0))), some (vi ((pa + (zS 22 q)))), some (vi (q)), some (vi ((y60 72 ((t * 10) + q))))]) G dX8_report_133 (by decide) rfl ?_
                    refine i_iinc (L' := [some (.ref (ad 40)), some (vi (w)), some (vi (t)), some (vi (g)), some (vi ((gn + 0))), some (vi ((pa + (zS 22 q)))), some (vi (q + 1)), some (vi ((y60 72 ((t * 10) + q))))]) G dX8_report_135 (by decide) rfl rfl ?_
                    refine i_goto (tgt := 70) G dX8_report_138 (by decide) ?_
                    refine i_forget (L' := [some (.ref (ad 40)), some (vi (w)), some (vi (t)), some (vi (g)), some (vi ((gn + 0))), some (vi ((pa + (zS 22 q)))), some (vi (q + 1)), none]) ⟨rfl, ⟨rfl, ⟨rfl, ⟨rfl, ⟨rfl, ⟨rfl, ⟨rfl, trivial⟩⟩⟩⟩⟩⟩⟩ ?_
                    exact ih70 _ _ (q + 1) (by omega) (by omega) (by omega) (by omega) (by rw [← hGL, trL]; congr 1; split <;> omega) (by rw [← hPL, trL]; congr 1; split <;> omega)
                · skip
                  refine i_aload_n G dX8_report_99 rfl ?_
                  refine i_getr G F_X8_54 0 rfl rfl dX8_report_100 ?_
                  refine i_iload G dX8_report_103 rfl ?_
                  refine j_iald_z G 14 rfl (by decide) (by decide) (by omega) (by omega) dX8_report_105 ?_
                  have b105 : 0 ≤ zS 22 q ∧ zS 22 q ≤ 100 := hRzS 22 _
                  refine i_goto (tgt := 110) G dX8_report_106 (by decide) ?_
                  refine i_iadd G dX8_report_110 ?_
                  refine i_istore (L' := [some (.ref (ad 40)), some (vi (w)), some (vi (t)), some (vi (g)), some (vi ((gn + (zS 22 q)))), some (vi (pa)), some (vi (q)), some (vi ((y60 72 ((t * 10) + q))))]) G dX8_report_111 (by decide) rfl ?_
                  refine i_iload G dX8_report_113 rfl ?_
                  refine i_iload G dX8_report_115 rfl ?_
                  refine i_iconst G dX8_report_117 ?_
                  refine i_icmp_ne (tgt := 131) G dX8_report_118 (by decide) (by omega) (by omega) (fun h118 => ?_) (fun h118 => ?_)
                  · skip
                    refine i_iconst G dX8_report_131 ?_
                    refine i_iadd G dX8_report_132 ?_
                    refine i_istore (L' := [some (.ref (ad 40)), some (vi (w)), some (vi (t)), some (vi (g)), some (vi ((gn + (zS 22 q)))), some (vi ((pa + 0))), some (vi (q)), some (vi ((y60 72 ((t * 10) + q))))]) G dX8_report_133 (by decide) rfl ?_
                    refine i_iinc (L' := [some (.ref (ad 40)), some (vi (w)), some (vi (t)), some (vi (g)), some (vi ((gn + (zS 22 q)))), some (vi ((pa + 0))), some (vi (q + 1)), some (vi ((y60 72 ((t * 10) + q))))]) G dX8_report_135 (by decide) rfl rfl ?_
                    refine i_goto (tgt := 70) G dX8_report_138 (by decide) ?_
                    refine i_forget (L' := [some (.ref (ad 40)), some (vi (w)), some (vi (t)), some (vi (g)), some (vi ((gn + (zS 22 q)))), some (vi ((pa + 0))), some (vi (q + 1)), none]) ⟨rfl, ⟨rfl, ⟨rfl, ⟨rfl, ⟨rfl, ⟨rfl, ⟨rfl, trivial⟩⟩⟩⟩⟩⟩⟩ ?_
                    exact ih70 _ _ (q + 1) (by omega) (by omega) (by omega) (by omega) (by rw [← hGL, trL]; congr 1; split <;> omega) (by rw [← hPL, trL]; congr 1; split <;> omega)
                  · skip
                    refine i_aload_n G dX8_report_121 rfl ?_
                    refine i_getr G F_X8_54 0 rfl rfl dX8_report_122 ?_
                    refine i_iload G dX8_report_125 rfl ?_
                    refine j_iald_z G 14 rfl (by decide) (by decide) (by omega) (by omega) dX8_report_127 ?_
                    have b127 : 0 ≤ zS 22 q ∧ zS 22 q ≤ 100 := hRzS 22 _
                    refine i_goto (tgt := 132) G dX8_report_128 (by decide) ?_
                    refine i_iadd G dX8_report_132 ?_
                    refine i_istore (L' := [some (.ref (ad 40)), some (vi (w)), some (vi (t)), some (vi (g)), some (vi ((gn + (zS 22 q)))), some (vi ((pa + (zS 22 q)))), some (vi (q)), some (vi ((y60 72 ((t * 10) + q))))]) G dX8_report_133 (by decide) rfl ?_
                    refine i_iinc (L' := [some (.ref (ad 40)), some (vi (w)), some (vi (t)), some (vi (g)), some (vi ((gn + (zS 22 q)))), some (vi ((pa + (zS 22 q)))), some (vi (q + 1)), some (vi ((y60 72 ((t * 10) + q))))]) G dX8_report_135 (by decide) rfl rfl ?_
                    refine i_goto (tgt := 70) G dX8_report_138 (by decide) ?_
                    refine i_forget (L' := [some (.ref (ad 40)), some (vi (w)), some (vi (t)), some (vi (g)), some (vi ((gn + (zS 22 q)))), some (vi ((pa + (zS 22 q)))), some (vi (q + 1)), none]) ⟨rfl, ⟨rfl, ⟨rfl, ⟨rfl, ⟨rfl, ⟨rfl, ⟨rfl, trivial⟩⟩⟩⟩⟩⟩⟩ ?_
                    exact ih70 _ _ (q + 1) (by omega) (by omega) (by omega) (by omega) (by rw [← hGL, trL]; congr 1; split <;> omega) (by rw [← hPL, trL]; congr 1; split <;> omega)
          exact lp70 10 0 0 0 (by omega) (by omega) (by omega) (by omega) rfl rfl
      · skip
        refine i_iconst G dX8_report_39 ?_
        refine j_retz G hr (by omega) dX8_report_40 ?_
        have e71 : y29 71 0 = kcRp z w t := by rw [ey29, zp_same]; unfold kcRp; (repeat' split) <;> omega
        refine ⟨e71, fun hk => ?_, fun _ => ⟨rfl, by rw [ey29, zp_nk _ (by decide)]⟩, hR, hRy29, fun k a b c => by rw [ey29, zp_nk _ b]⟩
        exfalso
        rw [ey29, zp_same] at e71
        omega
  · skip
    refine i_iconst G dX8_report_12 ?_
    refine i_goto (tgt := 29) G dX8_report_13 (by decide) ?_
    refine j_puty G P_X8_88 0 rfl rfl (by decide) (by decide) (by decide) hY (by show (0 : Int) ≤ _ ∧ _ ≤ (5 : Int); omega) dX8_report_29 (fun y29 ey29 hRy29 => ?_)
    have et := congrFun (congrFun ey29 71) 0
    rw [zp_same] at et
    refine i_aload_n G dX8_report_32 rfl ?_
    refine j_gety G F_X8_88 0 rfl rfl (by decide) dX8_report_33 ?_
    have b33 : 0 ≤ y29 71 0 ∧ y29 71 0 ≤ 5 := hRy29 71 _
    refine i_if_le (tgt := 41) G dX8_report_36 (by decide) (by omega) (fun h36 => ?_) (fun h36 => ?_)
    · skip
      refine i_aload_n G dX8_report_41 rfl ?_
      refine i_getr G F_X8_51 0 rfl rfl dX8_report_42 ?_
      refine i_iload_n G dX8_report_45 rfl ?_
      refine i_bipush G dX8_report_46 (by decide) ?_
      refine i_imul G dX8_report_48 ?_
      refine i_iload_n G dX8_report_49 rfl ?_
      refine i_iadd G dX8_report_50 ?_
      refine i_iload_n G dX8_report_51 rfl ?_
      refine i_if_eq (tgt := 59) G dX8_report_52 (by decide) (by omega) (fun h52 => ?_) (fun h52 => ?_)
      · skip
        refine i_iconst G dX8_report_59 ?_
        refine j_iast_y G 13 rfl (by decide) (by decide) (by omega) (by omega) (by decide) hRy29 (by show (0 : Int) ≤ _ ∧ _ ≤ (2 : Int); omega) dX8_report_60 (fun y60 ey60 hRy60 => ?_)
        have hwt : (0 ≤ w ∧ w < 10) ∧ (0 ≤ t ∧ t < z 1 0) := by omega
        refine j_sw (k := 32) (a := t * 10 + w) (x := (if g = 0 then 1 else 2)) (by decide +kernel) (by decide) ?_
        obtain ⟨zS, ezS⟩ : ∃ z_ : wZ, z_ = zp z 32 (t * 10 + w) (if g = 0 then 1 else 2) := ⟨_, rfl⟩
        rw [← ezS]
        have hRzS : Rng zS := by rw [ezS]; exact rng_zp hR (by show (0 : Int) ≤ _ ∧ _ ≤ (2 : Int); split <;> omega)
        have hMS : MI zS y60 := by rw [ezS, ey60]; exact MI_put (MI_y hM (by rw [ey29, zp_nk _ (by decide)])) (by rcases hg with rfl | rfl <;> first | rfl | (exfalso; omega))
        have e16 : zS 16 t = z 16 t := by rw [ezS, zp_nk _ (by decide)]
        refine i_iconst G dX8_report_61 ?_
        refine i_istore (L' := [some (.ref (ad 40)), some (vi (w)), some (vi (t)), some (vi (g)), some (vi (0)), none, none, none]) G dX8_report_62 (by decide) rfl ?_
        refine i_iconst G dX8_report_64 ?_
        refine i_istore (L' := [some (.ref (ad 40)), some (vi (w)), some (vi (t)), some (vi (g)), some (vi (0)), some (vi (0)), none, none]) G dX8_report_65 (by decide) rfl ?_
        refine i_iconst G dX8_report_67 ?_
        refine i_istore (L' := [some (.ref (ad 40)), some (vi (w)), some (vi (t)), some (vi (g)), some (vi (0)), some (vi (0)), some (vi (0)), none]) G dX8_report_68 (by decide) rfl ?_
        refine i_forget (L' := [some (.ref (ad 40)), some (vi (w)), some (vi (t)), some (vi (g)), some (vi (0)), some (vi (0)), some (vi (0)), none]) ⟨rfl, ⟨rfl, ⟨rfl, ⟨rfl, ⟨rfl, ⟨rfl, ⟨rfl, trivial⟩⟩⟩⟩⟩⟩⟩ ?_
        have lp70 : ∀ (n70 : Nat) (gn pa q : Int), (0 ≤ q) → (q + n70 = 10) → (0 ≤ gn ∧ gn ≤ 100 * q) → (0 ≤ pa ∧ pa ≤ 100 * q) → (trL zS t 2 n70 q gn = trL zS t 2 10 0 0) → (trL zS t 1 n70 q pa = trL zS t 1 10 0 0) → JW p l e (rmL 2) s m args below meth c 8 D aC ad A shM (MQ below (cQi D aC ad shM (fun r_ z2 y2 => y2 71 0 = kcRp z w t ∧ (kcRp z w t = 0 → r_ = rpF z w t g 16 t ∧ z2 = rpF z w t g ∧ MI z2 y2) ∧ (kcRp z w t ≠ 0 → z2 = z ∧ y2 72 = y 72) ∧ Rng z2 ∧ Rng y2 ∧ ∀ k', k' ≠ 70 → k' ≠ 71 → k' ≠ 72 → y2 k' = y k') A) args s 0 0 A) 0 0 (zc zS y60) 70 [some (.ref (ad 40)), some (vi (w)), some (vi (t)), some (vi (g)), some (vi (gn)), some (vi (pa)), some (vi (q)), none] [] := by
          intro n70
          induction n70 with
          | zero => 
            intro gn pa q hq hn hgn hpa hGL hPL
            have hG : gn = trL zS t 2 10 0 0 := hGL
            have hP : pa = trL zS t 1 10 0 0 := hPL
            refine i_iload G dX8_report_70 rfl ?_
            refine i_bipush G dX8_report_72 (by decide) ?_
            refine i_icmp_ge (tgt := 141) G dX8_report_74 (by decide) (by omega) (by omega) (fun h74 => ?_) (fun h74 => ?_)
            · skip
              refine i_iload G dX8_report_141 rfl ?_
              refine i_bipush G dX8_report_143 (by decide) ?_
              refine i_icmp_lt (tgt := 165) G dX8_report_145 (by decide) (by omega) (by omega) (fun h145 => ?_) (fun h145 => ?_)
              · skip
                refine i_iload G dX8_report_165 rfl ?_
                refine i_bipush G dX8_report_167 (by decide) ?_
                refine i_icmp_lt (tgt := 186) G dX8_report_169 (by decide) (by omega) (by omega) (fun h169 => ?_) (fun h169 => ?_)
                · skip
                  refine i_aload_n G dX8_report_186 rfl ?_
                  refine i_getr G F_X8_33 0 rfl rfl dX8_report_187 ?_
                  refine i_iload_n G dX8_report_190 rfl ?_
                  refine j_zald_z G 7 rfl (by decide) (by decide) (by omega) (by omega) dX8_report_191 ?_
                  have b191 : 0 ≤ zS 16 t ∧ zS 16 t ≤ 1 := hRzS 16 _
                  refine j_retz G hr (by omega) dX8_report_192 ?_
                  have e71 : y29 71 0 = kcRp z w t := by rw [ey29, zp_same]; unfold kcRp; (repeat' split) <;> omega
                  have eb : blvF zS t (z 16 t) = zS 16 t := by
                    unfold blvF
                    rw [← hG, ← hP]
                    show (if 100 ≤ gn ∧ pa < gn then (1 : Int) else if 100 ≤ pa ∧ gn ≤ pa then 0 else z 16 t) = _
                    rw [if_neg (by omega), if_neg (by omega), e16]
                  have ez : zS = rpF z w t g := by
                    unfold rpF
                    show _ = zp (ntF' z w t g) 16 t (blvF (ntF' z w t g) t (z 16 t))
                    rw [show ntF' z w t g = zS from ezS.symm, eb]
                    rw [zp_id]
                  have e716 : y60 71 0 = kcRp z w t := by rw [ey60, zp_nk _ (by decide)]; exact e71
                  refine ⟨e716, fun hk => ⟨by rw [← ez], ez, MI_z hMS (by first | rfl | rw [ezS, zp_nk _ (by decide)])⟩, fun hk => ?_, hRzS, hRy60, fun k a b c => by rw [ey60, zp_nk _ c, ey29, zp_nk _ b]⟩
                  exfalso
                  rw [ey29, zp_same] at e71
                  omega
                · skip
                  refine i_iload G dX8_report_172 rfl ?_
                  refine i_iload G dX8_report_174 rfl ?_
                  refine i_icmp_lt (tgt := 186) G dX8_report_176 (by decide) (by omega) (by omega) (fun h176 => ?_) (fun h176 => ?_)
                  · skip
                    refine i_aload_n G dX8_report_186 rfl ?_
                    refine i_getr G F_X8_33 0 rfl rfl dX8_report_187 ?_
                    refine i_iload_n G dX8_report_190 rfl ?_
                    refine j_zald_z G 7 rfl (by decide) (by decide) (by omega) (by omega) dX8_report_191 ?_
                    have b191 : 0 ≤ zS 16 t ∧ zS 16 t ≤ 1 := hRzS 16 _
                    refine j_retz G hr (by omega) dX8_report_192 ?_
                    have e71 : y29 71 0 = kcRp z w t := by rw [ey29, zp_same]; unfold kcRp; (repeat' split) <;> omega
                    have eb : blvF zS t (z 16 t) = zS 16 t := by
                      unfold blvF
                      rw [← hG, ← hP]
                      show (if 100 ≤ gn ∧ pa < gn then (1 : Int) else if 100 ≤ pa ∧ gn ≤ pa then 0 else z 16 t) = _
                      rw [if_neg (by omega), if_neg (by omega), e16]
                    have ez : zS = rpF z w t g := by
                      unfold rpF
                      show _ = zp (ntF' z w t g) 16 t (blvF (ntF' z w t g) t (z 16 t))
                      rw [show ntF' z w t g = zS from ezS.symm, eb]
                      rw [zp_id]
                    have e716 : y60 71 0 = kcRp z w t := by rw [ey60, zp_nk _ (by decide)]; exact e71
                    refine ⟨e716, fun hk => ⟨by rw [← ez], ez, MI_z hMS (by first | rfl | rw [ezS, zp_nk _ (by decide)])⟩, fun hk => ?_, hRzS, hRy60, fun k a b c => by rw [ey60, zp_nk _ c, ey29, zp_nk _ b]⟩
                    exfalso
                    rw [ey29, zp_same] at e71
                    omega
                  · skip
                    refine i_aload_n G dX8_report_179 rfl ?_
                    refine i_getr G F_X8_33 0 rfl rfl dX8_report_180 ?_
                    refine i_iload_n G dX8_report_183 rfl ?_
                    refine i_iconst G dX8_report_184 ?_
                    refine j_zast_z G 7 rfl (by decide) (by decide) (by omega) (by omega) (by omega) (by decide) hRzS (by show (0 : Int) ≤ _ ∧ _ ≤ (1 : Int); omega) dX8_report_185 (fun z185 ez185 hRz185 => ?_)
                    refine i_aload_n G dX8_report_186 rfl ?_
                    refine i_getr G F_X8_33 0 rfl rfl dX8_report_187 ?_
                    refine i_iload_n G dX8_report_190 rfl ?_
                    refine j_zald_z G 7 rfl (by decide) (by decide) (by omega) (by omega) dX8_report_191 ?_
                    have b191 : 0 ≤ z185 16 t ∧ z185 16 t ≤ 1 := hRz185 16 _
                    refine j_retz G hr (by omega) dX8_report_192 ?_
                    have e71 : y29 71 0 = kcRp z w t := by rw [ey29, zp_same]; unfold kcRp; (repeat' split) <;> omega
                    have eb : blvF zS t (z 16 t) = 0 := by
                      unfold blvF
                      rw [← hG, ← hP]
                      show (if 100 ≤ gn ∧ pa < gn then (1 : Int) else if 100 ≤ pa ∧ gn ≤ pa then 0 else z 16 t) = _
                      rw [if_neg (by omega), if_pos (by omega)]
                    have ez : z185 = rpF z w t g := by
                      unfold rpF
                      show _ = zp (ntF' z w t g) 16 t (blvF (ntF' z w t g) t (z 16 t))
                      rw [show ntF' z w t g = zS from ezS.symm, eb]
                      first | rfl | rw [ez185]
                    have e716 : y60 71 0 = kcRp z w t := by rw [ey60, zp_nk _ (by decide)]; exact e71
                    refine ⟨e716, fun hk => ⟨by rw [← ez], ez, MI_z hMS (by first | rfl | rw [ez185, zp_nk _ (by decide)])⟩, fun hk => ?_, hRz185, hRy60, fun k a b c => by rw [ey60, zp_nk _ c, ey29, zp_nk _ b]⟩
                    exfalso
                    rw [ey29, zp_same] at e71
                    omega
              · skip
                refine i_iload G dX8_report_148 rfl ?_
                refine i_iload G dX8_report_150 rfl ?_
                refine i_icmp_le (tgt := 165) G dX8_report_152 (by decide) (by omega) (by omega) (fun h152 => ?_) (fun h152 => ?_)
                · skip
                  refine i_iload G dX8_report_165 rfl ?_
                  refine i_bipush G dX8_report_167 (by decide) ?_
                  refine i_icmp_lt (tgt := 186) G dX8_report_169 (by decide) (by omega) (by omega) (fun h169 => ?_) (fun h169 => ?_)
                  · skip
                    refine i_aload_n G dX8_report_186 rfl ?_
                    refine i_getr G F_X8_33 0 rfl rfl dX8_report_187 ?_
                    refine i_iload_n G dX8_report_190 rfl ?_
                    refine j_zald_z G 7 rfl (by decide) (by decide) (by omega) (by omega) dX8_report_191 ?_
                    have b191 : 0 ≤ zS 16 t ∧ zS 16 t ≤ 1 := hRzS 16 _
                    refine j_retz G hr (by omega) dX8_report_192 ?_
                    have e71 : y29 71 0 = kcRp z w t := by rw [ey29, zp_same]; unfold kcRp; (repeat' split) <;> omega
                    have eb : blvF zS t (z 16 t) = zS 16 t := by
                      unfold blvF
                      rw [← hG, ← hP]
                      show (if 100 ≤ gn ∧ pa < gn then (1 : Int) else if 100 ≤ pa ∧ gn ≤ pa then 0 else z 16 t) = _
                      rw [if_neg (by omega), if_neg (by omega), e16]
                    have ez : zS = rpF z w t g := by
                      unfold rpF
                      show _ = zp (ntF' z w t g) 16 t (blvF (ntF' z w t g) t (z 16 t))
                      rw [show ntF' z w t g = zS from ezS.symm, eb]
                      rw [zp_id]
                    have e716 : y60 71 0 = kcRp z w t := by rw [ey60, zp_nk _ (by decide)]; exact e71
                    refine ⟨e716, fun hk => ⟨by rw [← ez], ez, MI_z hMS (by first | rfl | rw [ezS, zp_nk _ (by decide)])⟩, fun hk => ?_, hRzS, hRy60, fun k a b c => by rw [ey60, zp_nk _ c, ey29, zp_nk _ b]⟩
                    exfalso
                    rw [ey29, zp_same] at e71
                    omega
                  · skip
                    refine i_iload G dX8_report_172 rfl ?_
                    refine i_iload G dX8_report_174 rfl ?_
                    refine i_icmp_lt (tgt := 186) G dX8_report_176 (by decide) (by omega) (by omega) (fun h176 => ?_) (fun h176 => ?_)
                    · skip
                      refine i_aload_n G dX8_report_186 rfl ?_
                      refine i_getr G F_X8_33 0 rfl rfl dX8_report_187 ?_
                      refine i_iload_n G dX8_report_190 rfl ?_
                      refine j_zald_z G 7 rfl (by decide) (by decide) (by omega) (by omega) dX8_report_191 ?_
                      have b191 : 0 ≤ zS 16 t ∧ zS 16 t ≤ 1 := hRzS 16 _
                      refine j_retz G hr (by omega) dX8_report_192 ?_
                      have e71 : y29 71 0 = kcRp z w t := by rw [ey29, zp_same]; unfold kcRp; (repeat' split) <;> omega
                      have eb : blvF zS t (z 16 t) = zS 16 t := by
                        unfold blvF
                        rw [← hG, ← hP]
                        show (if 100 ≤ gn ∧ pa < gn then (1 : Int) else if 100 ≤ pa ∧ gn ≤ pa then 0 else z 16 t) = _
                        rw [if_neg (by omega), if_neg (by omega), e16]
                      have ez : zS = rpF z w t g := by
                        unfold rpF
                        show _ = zp (ntF' z w t g) 16 t (blvF (ntF' z w t g) t (z 16 t))
                        rw [show ntF' z w t g = zS from ezS.symm, eb]
                        rw [zp_id]
                      have e716 : y60 71 0 = kcRp z w t := by rw [ey60, zp_nk _ (by decide)]; exact e71
                      refine ⟨e716, fun hk => ⟨by rw [← ez], ez, MI_z hMS (by first | rfl | rw [ezS, zp_nk _ (by decide)])⟩, fun hk => ?_, hRzS, hRy60, fun k a b c => by rw [ey60, zp_nk _ c, ey29, zp_nk _ b]⟩
                      exfalso
                      rw [ey29, zp_same] at e71
                      omega
                    · skip
                      refine i_aload_n G dX8_report_179 rfl ?_
                      refine i_getr G F_X8_33 0 rfl rfl dX8_report_180 ?_
                      refine i_iload_n G dX8_report_183 rfl ?_
                      refine i_iconst G dX8_report_184 ?_
                      refine j_zast_z G 7 rfl (by decide) (by decide) (by omega) (by omega) (by omega) (by decide) hRzS (by show (0 : Int) ≤ _ ∧ _ ≤ (1 : Int); omega) dX8_report_185 (fun z185 ez185 hRz185 => ?_)
                      refine i_aload_n G dX8_report_186 rfl ?_
                      refine i_getr G F_X8_33 0 rfl rfl dX8_report_187 ?_
                      refine i_iload_n G dX8_report_190 rfl ?_
                      refine j_zald_z G 7 rfl (by decide) (by decide) (by omega) (by omega) dX8_report_191 ?_
                      have b191 : 0 ≤ z185 16 t ∧ z185 16 t ≤ 1 := hRz185 16 _
                      refine j_retz G hr (by omega) dX8_report_192 ?_
                      have e71 : y29 71 0 = kcRp z w t := by rw [ey29, zp_same]; unfold kcRp; (repeat' split) <;> omega
                      have eb : blvF zS t (z 16 t) = 0 := by
                        unfold blvF
                        rw [← hG, ← hP]
                        show (if 100 ≤ gn ∧ pa < gn then (1 : Int) else if 100 ≤ pa ∧ gn ≤ pa then 0 else z 16 t) = _
                        rw [if_neg (by omega), if_pos (by omega)]
                      have ez : z185 = rpF z w t g := by
                        unfold rpF
                        show _ = zp (ntF' z w t g) 16 t (blvF (ntF' z w t g) t (z 16 t))
                        rw [show ntF' z w t g = zS from ezS.symm, eb]
                        first | rfl | rw [ez185]
                      have e716 : y60 71 0 = kcRp z w t := by rw [ey60, zp_nk _ (by decide)]; exact e71
                      refine ⟨e716, fun hk => ⟨by rw [← ez], ez, MI_z hMS (by first | rfl | rw [ez185, zp_nk _ (by decide)])⟩, fun hk => ?_, hRz185, hRy60, fun k a b c => by rw [ey60, zp_nk _ c, ey29, zp_nk _ b]⟩
                      exfalso
                      rw [ey29, zp_same] at e71
                      omega
                · skip
                  refine i_aload_n G dX8_report_155 rfl ?_
                  refine i_getr G F_X8_33 0 rfl rfl dX8_report_156 ?_
                  refine i_iload_n G dX8_report_159 rfl ?_
                  refine i_iconst G dX8_report_160 ?_
                  refine j_zast_z G 7 rfl (by decide) (by decide) (by omega) (by omega) (by omega) (by decide) hRzS (by show (0 : Int) ≤ _ ∧ _ ≤ (1 : Int); omega) dX8_report_161 (fun z161 ez161 hRz161 => ?_)
                  refine i_goto (tgt := 186) G dX8_report_162 (by decide) ?_
                  refine i_aload_n G dX8_report_186 rfl ?_
                  refine i_getr G F_X8_33 0 rfl rfl dX8_report_187 ?_
                  refine i_iload_n G dX8_report_190 rfl ?_
                  refine j_zald_z G 7 rfl (by decide) (by decide) (by omega) (by omega) dX8_report_191 ?_
                  have b191 : 0 ≤ z161 16 t ∧ z161 16 t ≤ 1 := hRz161 16 _
                  refine j_retz G hr (by omega) dX8_report_192 ?_
                  have e71 : y29 71 0 = kcRp z w t := by rw [ey29, zp_same]; unfold kcRp; (repeat' split) <;> omega
                  have eb : blvF zS t (z 16 t) = 1 := by
                    unfold blvF
                    rw [← hG, ← hP]
                    show (if 100 ≤ gn ∧ pa < gn then (1 : Int) else if 100 ≤ pa ∧ gn ≤ pa then 0 else z 16 t) = _
                    rw [if_pos (by omega)]
                  have ez : z161 = rpF z w t g := by
                    unfold rpF
                    show _ = zp (ntF' z w t g) 16 t (blvF (ntF' z w t g) t (z 16 t))
                    rw [show ntF' z w t g = zS from ezS.symm, eb]
                    first | rfl | rw [ez161]
                  have e716 : y60 71 0 = kcRp z w t := by rw [ey60, zp_nk _ (by decide)]; exact e71
                  refine ⟨e716, fun hk => ⟨by rw [← ez], ez, MI_z hMS (by first | rfl | rw [ez161, zp_nk _ (by decide)])⟩, fun hk => ?_, hRz161, hRy60, fun k a b c => by rw [ey60, zp_nk _ c, ey29, zp_nk _ b]⟩
                  exfalso
                  rw [ey29, zp_same] at e71
                  omega
            · skip
              exfalso; omega
          | succ n70 ih70 => 
            intro gn pa q hq hn hgn hpa hGL hPL
            have q32 : 0 ≤ zS 32 (t * 10 + q) ∧ zS 32 (t * 10 + q) ≤ 2 := hRzS 32 _
            have hm2 := hMS (t * 10 + q) (by omega) (by omega)
            have hm3 : (zS 32 (t * 10 + q) = 0 ∧ y60 72 (t * 10 + q) = 0) ∨ (zS 32 (t * 10 + q) ≠ 0 ∧ y60 72 (t * 10 + q) = 3 - zS 32 (t * 10 + q)) := by split at hm2 <;> omega
            have qt : 0 ≤ zS 22 q ∧ zS 22 q ≤ 100 := hRzS 22 q
            refine i_iload G dX8_report_70 rfl ?_
            refine i_bipush G dX8_report_72 (by decide) ?_
            refine i_icmp_ge (tgt := 141) G dX8_report_74 (by decide) (by omega) (by omega) (fun h74 => ?_) (fun h74 => ?_)
            · skip
              exfalso; omega
            · skip
              refine i_aload_n G dX8_report_77 rfl ?_
              refine i_getr G F_X8_51 0 rfl rfl dX8_report_78 ?_
              refine i_iload_n G dX8_report_81 rfl ?_
              refine i_bipush G dX8_report_82 (by decide) ?_
              refine i_imul G dX8_report_84 ?_
              refine i_iload G dX8_report_85 rfl ?_
              refine i_iadd G dX8_report_87 ?_
              refine j_iald_y G 13 rfl (by decide) (by decide) (by omega) (by omega) dX8_report_88 ?_
              have b88 : 0 ≤ y60 72 ((t * 10) + q) ∧ y60 72 ((t * 10) + q) ≤ 2 := hRy60 72 _
              refine i_istore (L' := [some (.ref (ad 40)), some (vi (w)), some (vi (t)), some (vi (g)), some (vi (gn)), some (vi (pa)), some (vi (q)), some (vi ((y60 72 ((t * 10) + q))))]) G dX8_report_89 (by decide) rfl ?_
              refine i_iload G dX8_report_91 rfl ?_
              refine i_iload G dX8_report_93 rfl ?_
              refine i_iconst G dX8_report_95 ?_
              refine i_icmp_ne (tgt := 109) G dX8_report_96 (by decide) (by omega) (by omega) (fun h96 => ?_) (fun h96 => ?_)
              · skip
                refine i_iconst G dX8_report_109 ?_
                refine i_iadd G dX8_report_110 ?_
                refine i_istore (L' := [some (.ref (ad 40)), some (vi (w)), some (vi (t)), some (vi (g)), some (vi ((gn + 0))), some (vi (pa)), some (vi (q)), some (vi ((y60 72 ((t * 10) + q))))]) G dX8_report_111 (by decide) rfl ?_
                refine i_iload G dX8_report_113 rfl ?_
                refine i_iload G dX8_report_115 rfl ?_
                refine i_iconst G dX8_report_117 ?_
                refine i_icmp_ne (tgt := 131) G dX8_report_118 (by decide) (by omega) (by omega) (fun h118 => ?_) (fun h118 => ?_)
                · skip
                  refine i_iconst G dX8_report_131 ?_
                  refine i_iadd G dX8_report_132 ?_
                  refine i_istore (L' := [some (.ref (ad 40)), some (vi (w)), some (vi (t)), some (vi (g)), some (vi ((gn + 0))), some (vi ((pa + 0))), some (vi (q)), some (vi ((y60 72 ((t * 10) + q))))]) G dX8_report_133 (by decide) rfl ?_
                  refine i_iinc (L' := [some (.ref (ad 40)), some (vi (w)), some (vi (t)), some (vi (g)), some (vi ((gn + 0))), some (vi ((pa + 0))), some (vi (q + 1)), some (vi ((y60 72 ((t * 10) + q))))]) G dX8_report_135 (by decide) rfl rfl ?_
                  refine i_goto (tgt := 70) G dX8_report_138 (by decide) ?_
                  refine i_forget (L' := [some (.ref (ad 40)), some (vi (w)), some (vi (t)), some (vi (g)), some (vi ((gn + 0))), some (vi ((pa + 0))), some (vi (q + 1)), none]) ⟨rfl, ⟨rfl, ⟨rfl, ⟨rfl, ⟨rfl, ⟨rfl, ⟨rfl, trivial⟩⟩⟩⟩⟩⟩⟩ ?_
                  exact ih70 _ _ (q + 1) (by omega) (by omega) (by omega) (by omega) (by rw [← hGL, trL]; congr 1; split <;> omega) (by rw [← hPL, trL]; congr 1; split <;> omega)
                · skip
                  refine i_aload_n G dX8_report_121 rfl ?_
                  refine i_getr G F_X8_54 0 rfl rfl dX8_report_122 ?_
                  refine i_iload G dX8_report_125 rfl ?_
                  refine j_iald_z G 14 rfl (by decide) (by decide) (by omega) (by omega) dX8_report_127 ?_
                  have b127 : 0 ≤ zS 22 q ∧ zS 22 q ≤ 100 := hRzS 22 _
                  refine i_goto (tgt := 132) G dX8_report_128 (by decide) ?_
                  refine i_iadd G dX8_report_132 ?_
                  refine i_istore (L' := [some (.ref (ad 40)), some (vi (w)), some (vi (t)), some (vi (g)), some (vi ((gn + 0))), some (vi ((pa + (zS 22 q)))), some (vi (q)), some (vi ((y60 72 ((t * 10) + q))))]) G dX8_report_133 (by decide) rfl ?_
                  refine i_iinc (L' := [some (.ref (ad 40)), some (vi (w)), some (vi (t)), some (vi (g)), some (vi ((gn + 0))), some (vi ((pa + (zS 22 q)))), some (vi (q + 1)), some (vi ((y60 72 ((t * 10) + q))))]) G dX8_report_135 (by decide) rfl rfl ?_
                  refine i_goto (tgt := 70) G dX8_report_138 (by decide) ?_
                  refine i_forget (L' := [some (.ref (ad 40)), some (vi (w)), some (vi (t)), some (vi (g)), some (vi ((gn + 0))), some (vi ((pa + (zS 22 q)))), some (vi (q + 1)), none]) ⟨rfl, ⟨rfl, ⟨rfl, ⟨rfl, ⟨rfl, ⟨rfl, ⟨rfl, trivial⟩⟩⟩⟩⟩⟩⟩ ?_
                  exact ih70 _ _ (q + 1) (by omega) (by omega) (by omega) (by omega) (by rw [← hGL, trL]; congr 1; split <;> omega) (by rw [← hPL, trL]; congr 1; split <;> omega)
              · skip
                refine i_aload_n G dX8_report_99 rfl ?_
                refine i_getr G F_X8_54 0 rfl rfl dX8_report_100 ?_
                refine i_iload G dX8_report_103 rfl ?_
                refine j_iald_z G 14 rfl (by decide) (by decide) (by omega) (by omega) dX8_report_105 ?_
                have b105 : 0 ≤ zS 22 q ∧ zS 22 q ≤ 100 := hRzS 22 _
                refine i_goto (tgt := 110) G dX8_report_106 (by decide) ?_
                refine i_iadd G dX8_report_110 ?_
                refine i_istore (L' := [some (.ref (ad 40)), some (vi (w)), some (vi (t)), some (vi (g)), some (vi ((gn + (zS 22 q)))), some (vi (pa)), some (vi (q)), some (vi ((y60 72 ((t * 10) + q))))]) G dX8_report_111 (by decide) rfl ?_
                refine i_iload G dX8_report_113 rfl ?_
                refine i_iload G dX8_report_115 rfl ?_
                refine i_iconst G dX8_report_117 ?_
                refine i_icmp_ne (tgt := 131) G dX8_report_118 (by decide) (by omega) (by omega) (fun h118 => ?_) (fun h118 => ?_)
                · skip
                  refine i_iconst G dX8_report_131 ?_
                  refine i_iadd G dX8_report_132 ?_
                  refine i_istore (L' := [some (.ref (ad 40)), some (vi (w)), some (vi (t)), some (vi (g)), some (vi ((gn + (zS 22 q)))), some (vi ((pa + 0))), some (vi (q)), some (vi ((y60 72 ((t * 10) + q))))]) G dX8_report_133 (by decide) rfl ?_
                  refine i_iinc (L' := [some (.ref (ad 40)), some (vi (w)), some (vi (t)), some (vi (g)), some (vi ((gn + (zS 22 q)))), some (vi ((pa + 0))), some (vi (q + 1)), some (vi ((y60 72 ((t * 10) + q))))]) G dX8_report_135 (by decide) rfl rfl ?_
                  refine i_goto (tgt := 70) G dX8_report_138 (by decide) ?_
                  refine i_forget (L' := [some (.ref (ad 40)), some (vi (w)), some (vi (t)), some (vi (g)), some (vi ((gn + (zS 22 q)))), some (vi ((pa + 0))), some (vi (q + 1)), none]) ⟨rfl, ⟨rfl, ⟨rfl, ⟨rfl, ⟨rfl, ⟨rfl, ⟨rfl, trivial⟩⟩⟩⟩⟩⟩⟩ ?_
                  exact ih70 _ _ (q + 1) (by omega) (by omega) (by omega) (by omega) (by rw [← hGL, trL]; congr 1; split <;> omega) (by rw [← hPL, trL]; congr 1; split <;> omega)
                · skip
                  refine i_aload_n G dX8_report_121 rfl ?_
                  refine i_getr G F_X8_54 0 rfl rfl dX8_report_122 ?_
                  refine i_iload G dX8_report_125 rfl ?_
                  refine j_iald_z G 14 rfl (by decide) (by decide) (by omega) (by omega) dX8_report_127 ?_
                  have b127 : 0 ≤ zS 22 q ∧ zS 22 q ≤ 100 := hRzS 22 _
                  refine i_goto (tgt := 132) G dX8_report_128 (by decide) ?_
                  refine i_iadd G dX8_report_132 ?_
                  refine i_istore (L' := [some (.ref (ad 40)), some (vi (w)), some (vi (t)), some (vi (g)), some (vi ((gn + (zS 22 q)))), some (vi ((pa + (zS 22 q)))), some (vi (q)), some (vi ((y60 72 ((t * 10) + q))))]) G dX8_report_133 (by decide) rfl ?_
                  refine i_iinc (L' := [some (.ref (ad 40)), some (vi (w)), some (vi (t)), some (vi (g)), some (vi ((gn + (zS 22 q)))), some (vi ((pa + (zS 22 q)))), some (vi (q + 1)), some (vi ((y60 72 ((t * 10) + q))))]) G dX8_report_135 (by decide) rfl rfl ?_
                  refine i_goto (tgt := 70) G dX8_report_138 (by decide) ?_
                  refine i_forget (L' := [some (.ref (ad 40)), some (vi (w)), some (vi (t)), some (vi (g)), some (vi ((gn + (zS 22 q)))), some (vi ((pa + (zS 22 q)))), some (vi (q + 1)), none]) ⟨rfl, ⟨rfl, ⟨rfl, ⟨rfl, ⟨rfl, ⟨rfl, ⟨rfl, trivial⟩⟩⟩⟩⟩⟩⟩ ?_
                  exact ih70 _ _ (q + 1) (by omega) (by omega) (by omega) (by omega) (by rw [← hGL, trL]; congr 1; split <;> omega) (by rw [← hPL, trL]; congr 1; split <;> omega)
        exact lp70 10 0 0 0 (by omega) (by omega) (by omega) (by omega) rfl rfl
      · skip
        refine i_iconst G dX8_report_55 ?_
        refine i_goto (tgt := 60) G dX8_report_56 (by decide) ?_
        refine j_iast_y G 13 rfl (by decide) (by decide) (by omega) (by omega) (by decide) hRy29 (by show (0 : Int) ≤ _ ∧ _ ≤ (2 : Int); omega) dX8_report_60 (fun y60 ey60 hRy60 => ?_)
        have hwt : (0 ≤ w ∧ w < 10) ∧ (0 ≤ t ∧ t < z 1 0) := by omega
        refine j_sw (k := 32) (a := t * 10 + w) (x := (if g = 0 then 1 else 2)) (by decide +kernel) (by decide) ?_
        obtain ⟨zS, ezS⟩ : ∃ z_ : wZ, z_ = zp z 32 (t * 10 + w) (if g = 0 then 1 else 2) := ⟨_, rfl⟩
        rw [← ezS]
        have hRzS : Rng zS := by rw [ezS]; exact rng_zp hR (by show (0 : Int) ≤ _ ∧ _ ≤ (2 : Int); split <;> omega)
        have hMS : MI zS y60 := by rw [ezS, ey60]; exact MI_put (MI_y hM (by rw [ey29, zp_nk _ (by decide)])) (by rcases hg with rfl | rfl <;> first | rfl | (exfalso; omega))
        have e16 : zS 16 t = z 16 t := by rw [ezS, zp_nk _ (by decide)]
        refine i_iconst G dX8_report_61 ?_
        refine i_istore (L' := [some (.ref (ad 40)), some (vi (w)), some (vi (t)), some (vi (g)), some (vi (0)), none, none, none]) G dX8_report_62 (by decide) rfl ?_
        refine i_iconst G dX8_report_64 ?_
        refine i_istore (L' := [some (.ref (ad 40)), some (vi (w)), some (vi (t)), some (vi (g)), some (vi (0)), some (vi (0)), none, none]) G dX8_report_65 (by decide) rfl ?_
        refine i_iconst G dX8_report_67 ?_
        refine i_istore (L' := [some (.ref (ad 40)), some (vi (w)), some (vi (t)), some (vi (g)), some (vi (0)), some (vi (0)), some (vi (0)), none]) G dX8_report_68 (by decide) rfl ?_
        refine i_forget (L' := [some (.ref (ad 40)), some (vi (w)), some (vi (t)), some (vi (g)), some (vi (0)), some (vi (0)), some (vi (0)), none]) ⟨rfl, ⟨rfl, ⟨rfl, ⟨rfl, ⟨rfl, ⟨rfl, ⟨rfl, trivial⟩⟩⟩⟩⟩⟩⟩ ?_
        have lp70 : ∀ (n70 : Nat) (gn pa q : Int), (0 ≤ q) → (q + n70 = 10) → (0 ≤ gn ∧ gn ≤ 100 * q) → (0 ≤ pa ∧ pa ≤ 100 * q) → (trL zS t 2 n70 q gn = trL zS t 2 10 0 0) → (trL zS t 1 n70 q pa = trL zS t 1 10 0 0) → JW p l e (rmL 2) s m args below meth c 8 D aC ad A shM (MQ below (cQi D aC ad shM (fun r_ z2 y2 => y2 71 0 = kcRp z w t ∧ (kcRp z w t = 0 → r_ = rpF z w t g 16 t ∧ z2 = rpF z w t g ∧ MI z2 y2) ∧ (kcRp z w t ≠ 0 → z2 = z ∧ y2 72 = y 72) ∧ Rng z2 ∧ Rng y2 ∧ ∀ k', k' ≠ 70 → k' ≠ 71 → k' ≠ 72 → y2 k' = y k') A) args s 0 0 A) 0 0 (zc zS y60) 70 [some (.ref (ad 40)), some (vi (w)), some (vi (t)), some (vi (g)), some (vi (gn)), some (vi (pa)), some (vi (q)), none] [] := by
          intro n70
          induction n70 with
          | zero => 
            intro gn pa q hq hn hgn hpa hGL hPL
            have hG : gn = trL zS t 2 10 0 0 := hGL
            have hP : pa = trL zS t 1 10 0 0 := hPL
            refine i_iload G dX8_report_70 rfl ?_
            refine i_bipush G dX8_report_72 (by decide) ?_
            refine i_icmp_ge (tgt := 141) G dX8_report_74 (by decide) (by omega) (by omega) (fun h74 => ?_) (fun h74 => ?_)
            · skip
              refine i_iload G dX8_report_141 rfl ?_
              refine i_bipush G dX8_report_143 (by decide) ?_
              refine i_icmp_lt (tgt := 165) G dX8_report_145 (by decide) (by omega) (by omega) (fun h145 => ?_) (fun h145 => ?_)
              · skip
                refine i_iload G dX8_report_165 rfl ?_
                refine i_bipush G dX8_report_167 (by decide) ?_
                refine i_icmp_lt (tgt := 186) G dX8_report_169 (by decide) (by omega) (by omega) (fun h169 => ?_) (fun h169 => ?_)
                · skip
                  refine i_aload_n G dX8_report_186 rfl ?_
                  refine i_getr G F_X8_33 0 rfl rfl dX8_report_187 ?_
                  refine i_iload_n G dX8_report_190 rfl ?_
                  refine j_zald_z G 7 rfl (by decide) (by decide) (by omega) (by omega) dX8_report_191 ?_
                  have b191 : 0 ≤ zS 16 t ∧ zS 16 t ≤ 1 := hRzS 16 _
                  refine j_retz G hr (by omega) dX8_report_192 ?_
                  have e71 : y29 71 0 = kcRp z w t := by rw [ey29, zp_same]; unfold kcRp; (repeat' split) <;> omega
                  have eb : blvF zS t (z 16 t) = zS 16 t := by
                    unfold blvF
                    rw [← hG, ← hP]
                    show (if 100 ≤ gn ∧ pa < gn then (1 : Int) else if 100 ≤ pa ∧ gn ≤ pa then 0 else z 16 t) = _
                    rw [if_neg (by omega), if_neg (by omega), e16]
                  have ez : zS = rpF z w t g := by
                    unfold rpF
                    show _ = zp (ntF' z w t g) 16 t (blvF (ntF' z w t g) t (z 16 t))
                    rw [show ntF' z w t g = zS from ezS.symm, eb]
                    rw [zp_id]
                  have e716 : y60 71 0 = kcRp z w t := by rw [ey60, zp_nk _ (by decide)]; exact e71
                  refine ⟨e716, fun hk => ⟨by rw [← ez], ez, MI_z hMS (by first | rfl | rw [ezS, zp_nk _ (by decide)])⟩, fun hk => ?_, hRzS, hRy60, fun k a b c => by rw [ey60, zp_nk _ c, ey29, zp_nk _ b]⟩
                  exfalso
                  rw [ey29, zp_same] at e71
                  omega
                · skip
                  refine i_iload G dX8_report_172 rfl ?_
                  refine i_iload G dX8_report_174 rfl ?_
                  refine i_icmp_lt (tgt := 186) G dX8_report_176 (by decide) (by omega) (by omega) (fun h176 => ?_) (fun h176 => ?_)
                  · skip
                    refine i_aload_n G dX8_report_186 rfl ?_
                    refine i_getr G F_X8_33 0 rfl rfl dX8_report_187 ?_
                    refine i_iload_n G dX8_report_190 rfl ?_
                    refine j_zald_z G 7 rfl (by decide) (by decide) (by omega) (by omega) dX8_report_191 ?_
                    have b191 : 0 ≤ zS 16 t ∧ zS 16 t ≤ 1 := hRzS 16 _
                    refine j_retz G hr (by omega) dX8_report_192 ?_
                    have e71 : y29 71 0 = kcRp z w t := by rw [ey29, zp_same]; unfold kcRp; (repeat' split) <;> omega
                    have eb : blvF zS t (z 16 t) = zS 16 t := by
                      unfold blvF
                      rw [← hG, ← hP]
                      show (if 100 ≤ gn ∧ pa < gn then (1 : Int) else if 100 ≤ pa ∧ gn ≤ pa then 0 else z 16 t) = _
                      rw [if_neg (by omega), if_neg (by omega), e16]
                    have ez : zS = rpF z w t g := by
                      unfold rpF
                      show _ = zp (ntF' z w t g) 16 t (blvF (ntF' z w t g) t (z 16 t))
                      rw [show ntF' z w t g = zS from ezS.symm, eb]
                      rw [zp_id]
                    have e716 : y60 71 0 = kcRp z w t := by rw [ey60, zp_nk _ (by decide)]; exact e71
                    refine ⟨e716, fun hk => ⟨by rw [← ez], ez, MI_z hMS (by first | rfl | rw [ezS, zp_nk _ (by decide)])⟩, fun hk => ?_, hRzS, hRy60, fun k a b c => by rw [ey60, zp_nk _ c, ey29, zp_nk _ b]⟩
                    exfalso
                    rw [ey29, zp_same] at e71
                    omega
                  · skip
                    refine i_aload_n G dX8_report_179 rfl ?_
                    refine i_getr G F_X8_33 0 rfl rfl dX8_report_180 ?_
                    refine i_iload_n G dX8_report_183 rfl ?_
                    refine i_iconst G dX8_report_184 ?_
                    refine j_zast_z G 7 rfl (by decide) (by decide) (by omega) (by omega) (by omega) (by decide) hRzS (by show (0 : Int) ≤ _ ∧ _ ≤ (1 : Int); omega) dX8_report_185 (fun z185 ez185 hRz185 => ?_)
                    refine i_aload_n G dX8_report_186 rfl ?_
                    refine i_getr G F_X8_33 0 rfl rfl dX8_report_187 ?_
                    refine i_iload_n G dX8_report_190 rfl ?_
                    refine j_zald_z G 7 rfl (by decide) (by decide) (by omega) (by omega) dX8_report_191 ?_
                    have b191 : 0 ≤ z185 16 t ∧ z185 16 t ≤ 1 := hRz185 16 _
                    refine j_retz G hr (by omega) dX8_report_192 ?_
                    have e71 : y29 71 0 = kcRp z w t := by rw [ey29, zp_same]; unfold kcRp; (repeat' split) <;> omega
                    have eb : blvF zS t (z 16 t) = 0 := by
                      unfold blvF
                      rw [← hG, ← hP]
                      show (if 100 ≤ gn ∧ pa < gn then (1 : Int) else if 100 ≤ pa ∧ gn ≤ pa then 0 else z 16 t) = _
                      rw [if_neg (by omega), if_pos (by omega)]
                    have ez : z185 = rpF z w t g := by
                      unfold rpF
                      show _ = zp (ntF' z w t g) 16 t (blvF (ntF' z w t g) t (z 16 t))
                      rw [show ntF' z w t g = zS from ezS.symm, eb]
                      first | rfl | rw [ez185]
                    have e716 : y60 71 0 = kcRp z w t := by rw [ey60, zp_nk _ (by decide)]; exact e71
                    refine ⟨e716, fun hk => ⟨by rw [← ez], ez, MI_z hMS (by first | rfl | rw [ez185, zp_nk _ (by decide)])⟩, fun hk => ?_, hRz185, hRy60, fun k a b c => by rw [ey60, zp_nk _ c, ey29, zp_nk _ b]⟩
                    exfalso
                    rw [ey29, zp_same] at e71
                    omega
              · skip
                refine i_iload G dX8_report_148 rfl ?_
                refine i_iload G dX8_report_150 rfl ?_
                refine i_icmp_le (tgt := 165) G dX8_report_152 (by decide) (by omega) (by omega) (fun h152 => ?_) (fun h152 => ?_)
                · skip
                  refine i_iload G dX8_report_165 rfl ?_
                  refine i_bipush G dX8_report_167 (by decide) ?_
                  refine i_icmp_lt (tgt := 186) G dX8_report_169 (by decide) (by omega) (by omega) (fun h169 => ?_) (fun h169 => ?_)
                  · skip
                    refine i_aload_n G dX8_report_186 rfl ?_
                    refine i_getr G F_X8_33 0 rfl rfl dX8_report_187 ?_
                    refine i_iload_n G dX8_report_190 rfl ?_
                    refine j_zald_z G 7 rfl (by decide) (by decide) (by omega) (by omega) dX8_report_191 ?_
                    have b191 : 0 ≤ zS 16 t ∧ zS 16 t ≤ 1 := hRzS 16 _
                    refine j_retz G hr (by omega) dX8_report_192 ?_
                    have e71 : y29 71 0 = kcRp z w t := by rw [ey29, zp_same]; unfold kcRp; (repeat' split) <;> omega
                    have eb : blvF zS t (z 16 t) = zS 16 t := by
                      unfold blvF
                      rw [← hG, ← hP]
                      show (if 100 ≤ gn ∧ pa < gn then (1 : Int) else if 100 ≤ pa ∧ gn ≤ pa then 0 else z 16 t) = _
                      rw [if_neg (by omega), if_neg (by omega), e16]
                    have ez : zS = rpF z w t g := by
                      unfold rpF
                      show _ = zp (ntF' z w t g) 16 t (blvF (ntF' z w t g) t (z 16 t))
                      rw [show ntF' z w t g = zS from ezS.symm, eb]
                      rw [zp_id]
                    have e716 : y60 71 0 = kcRp z w t := by rw [ey60, zp_nk _ (by decide)]; exact e71
                    refine ⟨e716, fun hk => ⟨by rw [← ez], ez, MI_z hMS (by first | rfl | rw [ezS, zp_nk _ (by decide)])⟩, fun hk => ?_, hRzS, hRy60, fun k a b c => by rw [ey60, zp_nk _ c, ey29, zp_nk _ b]⟩
                    exfalso
                    rw [ey29, zp_same] at e71
                    omega
                  · skip
                    refine i_iload G dX8_report_172 rfl ?_
                    refine i_iload G dX8_report_174 rfl ?_
                    refine i_icmp_lt (tgt := 186) G dX8_report_176 (by decide) (by omega) (by omega) (fun h176 => ?_) (fun h176 => ?_)
                    · skip
                      refine i_aload_n G dX8_report_186 rfl ?_
                      refine i_getr G F_X8_33 0 rfl rfl dX8_report_187 ?_
                      refine i_iload_n G dX8_report_190 rfl ?_
                      refine j_zald_z G 7 rfl (by decide) (by decide) (by omega) (by omega) dX8_report_191 ?_
                      have b191 : 0 ≤ zS 16 t ∧ zS 16 t ≤ 1 := hRzS 16 _
                      refine j_retz G hr (by omega) dX8_report_192 ?_
                      have e71 : y29 71 0 = kcRp z w t := by rw [ey29, zp_same]; unfold kcRp; (repeat' split) <;> omega
                      have eb : blvF zS t (z 16 t) = zS 16 t := by
                        unfold blvF
                        rw [← hG, ← hP]
                        show (if 100 ≤ gn ∧ pa < gn then (1 : Int) else if 100 ≤ pa ∧ gn ≤ pa then 0 else z 16 t) = _
                        rw [if_neg (by omega), if_neg (by omega), e16]
                      have ez : zS = rpF z w t g := by
                        unfold rpF
                        show _ = zp (ntF' z w t g) 16 t (blvF (ntF' z w t g) t (z 16 t))
                        rw [show ntF' z w t g = zS from ezS.symm, eb]
                        rw [zp_id]
                      have e716 : y60 71 0 = kcRp z w t := by rw [ey60, zp_nk _ (by decide)]; exact e71
                      refine ⟨e716, fun hk => ⟨by rw [← ez], ez, MI_z hMS (by first | rfl | rw [ezS, zp_nk _ (by decide)])⟩, fun hk => ?_, hRzS, hRy60, fun k a b c => by rw [ey60, zp_nk _ c, ey29, zp_nk _ b]⟩
                      exfalso
                      rw [ey29, zp_same] at e71
                      omega
                    · skip
                      refine i_aload_n G dX8_report_179 rfl ?_
                      refine i_getr G F_X8_33 0 rfl rfl dX8_report_180 ?_
                      refine i_iload_n G dX8_report_183 rfl ?_
                      refine i_iconst G dX8_report_184 ?_
                      refine j_zast_z G 7 rfl (by decide) (by decide) (by omega) (by omega) (by omega) (by decide) hRzS (by show (0 : Int) ≤ _ ∧ _ ≤ (1 : Int); omega) dX8_report_185 (fun z185 ez185 hRz185 => ?_)
                      refine i_aload_n G dX8_report_186 rfl ?_
                      refine i_getr G F_X8_33 0 rfl rfl dX8_report_187 ?_
                      refine i_iload_n G dX8_report_190 rfl ?_
                      refine j_zald_z G 7 rfl (by decide) (by decide) (by omega) (by omega) dX8_report_191 ?_
                      have b191 : 0 ≤ z185 16 t ∧ z185 16 t ≤ 1 := hRz185 16 _
                      refine j_retz G hr (by omega) dX8_report_192 ?_
                      have e71 : y29 71 0 = kcRp z w t := by rw [ey29, zp_same]; unfold kcRp; (repeat' split) <;> omega
                      have eb : blvF zS t (z 16 t) = 0 := by
                        unfold blvF
                        rw [← hG, ← hP]
                        show (if 100 ≤ gn ∧ pa < gn then (1 : Int) else if 100 ≤ pa ∧ gn ≤ pa then 0 else z 16 t) = _
                        rw [if_neg (by omega), if_pos (by omega)]
                      have ez : z185 = rpF z w t g := by
                        unfold rpF
                        show _ = zp (ntF' z w t g) 16 t (blvF (ntF' z w t g) t (z 16 t))
                        rw [show ntF' z w t g = zS from ezS.symm, eb]
                        first | rfl | rw [ez185]
                      have e716 : y60 71 0 = kcRp z w t := by rw [ey60, zp_nk _ (by decide)]; exact e71
                      refine ⟨e716, fun hk => ⟨by rw [← ez], ez, MI_z hMS (by first | rfl | rw [ez185, zp_nk _ (by decide)])⟩, fun hk => ?_, hRz185, hRy60, fun k a b c => by rw [ey60, zp_nk _ c, ey29, zp_nk _ b]⟩
                      exfalso
                      rw [ey29, zp_same] at e71
                      omega
                · skip
                  refine i_aload_n G dX8_report_155 rfl ?_
                  refine i_getr G F_X8_33 0 rfl rfl dX8_report_156 ?_
                  refine i_iload_n G dX8_report_159 rfl ?_
                  refine i_iconst G dX8_report_160 ?_
                  refine j_zast_z G 7 rfl (by decide) (by decide) (by omega) (by omega) (by omega) (by decide) hRzS (by show (0 : Int) ≤ _ ∧ _ ≤ (1 : Int); omega) dX8_report_161 (fun z161 ez161 hRz161 => ?_)
                  refine i_goto (tgt := 186) G dX8_report_162 (by decide) ?_
                  refine i_aload_n G dX8_report_186 rfl ?_
                  refine i_getr G F_X8_33 0 rfl rfl dX8_report_187 ?_
                  refine i_iload_n G dX8_report_190 rfl ?_
                  refine j_zald_z G 7 rfl (by decide) (by decide) (by omega) (by omega) dX8_report_191 ?_
                  have b191 : 0 ≤ z161 16 t ∧ z161 16 t ≤ 1 := hRz161 16 _
                  refine j_retz G hr (by omega) dX8_report_192 ?_
                  have e71 : y29 71 0 = kcRp z w t := by rw [ey29, zp_same]; unfold kcRp; (repeat' split) <;> omega
                  have eb : blvF zS t (z 16 t) = 1 := by
                    unfold blvF
                    rw [← hG, ← hP]
                    show (if 100 ≤ gn ∧ pa < gn then (1 : Int) else if 100 ≤ pa ∧ gn ≤ pa then 0 else z 16 t) = _
                    rw [if_pos (by omega)]
                  have ez : z161 = rpF z w t g := by
                    unfold rpF
                    show _ = zp (ntF' z w t g) 16 t (blvF (ntF' z w t g) t (z 16 t))
                    rw [show ntF' z w t g = zS from ezS.symm, eb]
                    first | rfl | rw [ez161]
                  have e716 : y60 71 0 = kcRp z w t := by rw [ey60, zp_nk _ (by decide)]; exact e71
                  refine ⟨e716, fun hk => ⟨by rw [← ez], ez, MI_z hMS (by first | rfl | rw [ez161, zp_nk _ (by decide)])⟩, fun hk => ?_, hRz161, hRy60, fun k a b c => by rw [ey60, zp_nk _ c, ey29, zp_nk _ b]⟩
                  exfalso
                  rw [ey29, zp_same] at e71
                  omega
            · skip
              exfalso; omega
          | succ n70 ih70 => 
            intro gn pa q hq hn hgn hpa hGL hPL
            have q32 : 0 ≤ zS 32 (t * 10 + q) ∧ zS 32 (t * 10 + q) ≤ 2 := hRzS 32 _
            have hm2 := hMS (t * 10 + q) (by omega) (by omega)
            have hm3 : (zS 32 (t * 10 + q) = 0 ∧ y60 72 (t * 10 + q) = 0) ∨ (zS 32 (t * 10 + q) ≠ 0 ∧ y60 72 (t * 10 + q) = 3 - zS 32 (t * 10 + q)) := by split at hm2 <;> omega
            have qt : 0 ≤ zS 22 q ∧ zS 22 q ≤ 100 := hRzS 22 q
            refine i_iload G dX8_report_70 rfl ?_
            refine i_bipush G dX8_report_72 (by decide) ?_
            refine i_icmp_ge (tgt := 141) G dX8_report_74 (by decide) (by omega) (by omega) (fun h74 => ?_) (fun h74 => ?_)
            · skip
              exfalso; omega
            · skip
              refine i_aload_n G dX8_report_77 rfl ?_
              refine i_getr G F_X8_51 0 rfl rfl dX8_report_78 ?_
              refine i_iload_n G dX8_report_81 rfl ?_
              refine i_bipush G dX8_report_82 (by decide) ?_
              refine i_imul G dX8_report_84 ?_
              refine i_iload G dX8_report_85 rfl ?_
              refine i_iadd G dX8_report_87 ?_
              refine j_iald_y G 13 rfl (by decide) (by decide) (by omega) (by omega) dX8_report_88 ?_
              have b88 : 0 ≤ y60 72 ((t * 10) + q) ∧ y60 72 ((t * 10) + q) ≤ 2 := hRy60 72 _
              refine i_istore (L' := [some (.ref (ad 40)), some (vi (w)), some (vi (t)), some (vi (g)), some (vi (gn)), some (vi (pa)), some (vi (q)), some (vi ((y60 72 ((t * 10) + q))))]) G dX8_report_89 (by decide) rfl ?_
              refine i_iload G dX8_report_91 rfl ?_
              refine i_iload G dX8_report_93 rfl ?_
              refine i_iconst G dX8_report_95 ?_
              refine i_icmp_ne (tgt := 109) G dX8_report_96 (by decide) (by omega) (by omega) (fun h96 => ?_) (fun h96 => ?_)
              · skip
                refine i_iconst G dX8_report_109 ?_
                refine i_iadd G dX8_report_110 ?_
                refine i_istore (L' := [some (.ref (ad 40)), some (vi (w)), some (vi (t)), some (vi (g)), some (vi ((gn + 0))), some (vi (pa)), some (vi (q)), some (vi ((y60 72 ((t * 10) + q))))]) G dX8_report_111 (by decide) rfl ?_
                refine i_iload G dX8_report_113 rfl ?_
                refine i_iload G dX8_report_115 rfl ?_
                refine i_iconst G dX8_report_117 ?_
                refine i_icmp_ne (tgt := 131) G dX8_report_118 (by decide) (by omega) (by omega) (fun h118 => ?_) (fun h118 => ?_)
                · skip
                  refine i_iconst G dX8_report_131 ?_
                  refine i_iadd G dX8_report_132 ?_
                  refine i_istore (L' := [some (.ref (ad 40)), some (vi (w)), some (vi (t)), some (vi (g)), some (vi ((gn + 0))), some (vi ((pa + 0))), some (vi (q)), some (vi ((y60 72 ((t * 10) + q))))]) G dX8_report_133 (by decide) rfl ?_
                  refine i_iinc (L' := [some (.ref (ad 40)), some (vi (w)), some (vi (t)), some (vi (g)), some (vi ((gn + 0))), some (vi ((pa + 0))), some (vi (q + 1)), some (vi ((y60 72 ((t * 10) + q))))]) G dX8_report_135 (by decide) rfl rfl ?_
                  refine i_goto (tgt := 70) G dX8_report_138 (by decide) ?_
                  refine i_forget (L' := [some (.ref (ad 40)), some (vi (w)), some (vi (t)), some (vi (g)), some (vi ((gn + 0))), some (vi ((pa + 0))), some (vi (q + 1)), none]) ⟨rfl, ⟨rfl, ⟨rfl, ⟨rfl, ⟨rfl, ⟨rfl, ⟨rfl, trivial⟩⟩⟩⟩⟩⟩⟩ ?_
                  exact ih70 _ _ (q + 1) (by omega) (by omega) (by omega) (by omega) (by rw [← hGL, trL]; congr 1; split <;> omega) (by rw [← hPL, trL]; congr 1; split <;> omega)
                · skip
                  refine i_aload_n G dX8_report_121 rfl ?_
                  refine i_getr G F_X8_54 0 rfl rfl dX8_report_122 ?_
                  refine i_iload G dX8_report_125 rfl ?_
                  refine j_iald_z G 14 rfl (by decide) (by decide) (by omega) (by omega) dX8_report_127 ?_
                  have b127 : 0 ≤ zS 22 q ∧ zS 22 q ≤ 100 := hRzS 22 _
                  refine i_goto (tgt := 132) G dX8_report_128 (by decide) ?_
                  refine i_iadd G dX8_report_132 ?_
                  refine i_istore (L' := [some (.ref (ad 40)), some (vi (w)), some (vi (t)), some (vi (g)), some (vi ((gn + 0))), some (vi ((pa + (zS 22 q)))), some (vi (q)), some (vi ((y60 72 ((t * 10) + q))))]) G dX8_report_133 (by decide) rfl ?_
                  refine i_iinc (L' := [some (.ref (ad 40)), some (vi (w)), some (vi (t)), some (vi (g)), some (vi ((gn + 0))), some (vi ((pa + (zS 22 q)))), some (vi (q + 1)), some (vi ((y60 72 ((t * 10) + q))))]) G dX8_report_135 (by decide) rfl rfl ?_
                  refine i_goto (tgt := 70) G dX8_report_138 (by decide) ?_
                  refine i_forget (L' := [some (.ref (ad 40)), some (vi (w)), some (vi (t)), some (vi (g)), some (vi ((gn + 0))), some (vi ((pa + (zS 22 q)))), some (vi (q + 1)), none]) ⟨rfl, ⟨rfl, ⟨rfl, ⟨rfl, ⟨rfl, ⟨rfl, ⟨rfl, trivial⟩⟩⟩⟩⟩⟩⟩ ?_
                  exact ih70 _ _ (q + 1) (by omega) (by omega) (by omega) (by omega) (by rw [← hGL, trL]; congr 1; split <;> omega) (by rw [← hPL, trL]; congr 1; split <;> omega)
              · skip
                refine i_aload_n G dX8_report_99 rfl ?_
                refine i_getr G F_X8_54 0 rfl rfl dX8_report_100 ?_
                refine i_iload G dX8_report_103 rfl ?_
                refine j_iald_z G 14 rfl (by decide) (by decide) (by omega) (by omega) dX8_report_105 ?_
                have b105 : 0 ≤ zS 22 q ∧ zS 22 q ≤ 100 := hRzS 22 _
                refine i_goto (tgt := 110) G dX8_report_106 (by decide) ?_
                refine i_iadd G dX8_report_110 ?_
                refine i_istore (L' := [some (.ref (ad 40)), some (vi (w)), some (vi (t)), some (vi (g)), some (vi ((gn + (zS 22 q)))), some (vi (pa)), some (vi (q)), some (vi ((y60 72 ((t * 10) + q))))]) G dX8_report_111 (by decide) rfl ?_
                refine i_iload G dX8_report_113 rfl ?_
                refine i_iload G dX8_report_115 rfl ?_
                refine i_iconst G dX8_report_117 ?_
                refine i_icmp_ne (tgt := 131) G dX8_report_118 (by decide) (by omega) (by omega) (fun h118 => ?_) (fun h118 => ?_)
                · skip
                  refine i_iconst G dX8_report_131 ?_
                  refine i_iadd G dX8_report_132 ?_
                  refine i_istore (L' := [some (.ref (ad 40)), some (vi (w)), some (vi (t)), some (vi (g)), some (vi ((gn + (zS 22 q)))), some (vi ((pa + 0))), some (vi (q)), some (vi ((y60 72 ((t * 10) + q))))]) G dX8_report_133 (by decide) rfl ?_
                  refine i_iinc (L' := [some (.ref (ad 40)), some (vi (w)), some (vi (t)), some (vi (g)), some (vi ((gn + (zS 22 q)))), some (vi ((pa + 0))), some (vi (q + 1)), some (vi ((y60 72 ((t * 10) + q))))]) G dX8_report_135 (by decide) rfl rfl ?_
                  refine i_goto (tgt := 70) G dX8_report_138 (by decide) ?_
                  refine i_forget (L' := [some (.ref (ad 40)), some (vi (w)), some (vi (t)), some (vi (g)), some (vi ((gn + (zS 22 q)))), some (vi ((pa + 0))), some (vi (q + 1)), none]) ⟨rfl, ⟨rfl, ⟨rfl, ⟨rfl, ⟨rfl, ⟨rfl, ⟨rfl, trivial⟩⟩⟩⟩⟩⟩⟩ ?_
                  exact ih70 _ _ (q + 1) (by omega) (by omega) (by omega) (by omega) (by rw [← hGL, trL]; congr 1; split <;> omega) (by rw [← hPL, trL]; congr 1; split <;> omega)
                · skip
                  refine i_aload_n G dX8_report_121 rfl ?_
                  refine i_getr G F_X8_54 0 rfl rfl dX8_report_122 ?_
                  refine i_iload G dX8_report_125 rfl ?_
                  refine j_iald_z G 14 rfl (by decide) (by decide) (by omega) (by omega) dX8_report_127 ?_
                  have b127 : 0 ≤ zS 22 q ∧ zS 22 q ≤ 100 := hRzS 22 _
                  refine i_goto (tgt := 132) G dX8_report_128 (by decide) ?_
                  refine i_iadd G dX8_report_132 ?_
                  refine i_istore (L' := [some (.ref (ad 40)), some (vi (w)), some (vi (t)), some (vi (g)), some (vi ((gn + (zS 22 q)))), some (vi ((pa + (zS 22 q)))), some (vi (q)), some (vi ((y60 72 ((t * 10) + q))))]) G dX8_report_133 (by decide) rfl ?_
                  refine i_iinc (L' := [some (.ref (ad 40)), some (vi (w)), some (vi (t)), some (vi (g)), some (vi ((gn + (zS 22 q)))), some (vi ((pa + (zS 22 q)))), some (vi (q + 1)), some (vi ((y60 72 ((t * 10) + q))))]) G dX8_report_135 (by decide) rfl rfl ?_
                  refine i_goto (tgt := 70) G dX8_report_138 (by decide) ?_
                  refine i_forget (L' := [some (.ref (ad 40)), some (vi (w)), some (vi (t)), some (vi (g)), some (vi ((gn + (zS 22 q)))), some (vi ((pa + (zS 22 q)))), some (vi (q + 1)), none]) ⟨rfl, ⟨rfl, ⟨rfl, ⟨rfl, ⟨rfl, ⟨rfl, ⟨rfl, trivial⟩⟩⟩⟩⟩⟩⟩ ?_
                  exact ih70 _ _ (q + 1) (by omega) (by omega) (by omega) (by omega) (by rw [← hGL, trL]; congr 1; split <;> omega) (by rw [← hPL, trL]; congr 1; split <;> omega)
        exact lp70 10 0 0 0 (by omega) (by omega) (by omega) (by omega) rfl rfl
    · skip
      refine i_iconst G dX8_report_39 ?_
      refine j_retz G hr (by omega) dX8_report_40 ?_
      have e71 : y29 71 0 = kcRp z w t := by rw [ey29, zp_same]; unfold kcRp; (repeat' split) <;> omega
      refine ⟨e71, fun hk => ?_, fun _ => ⟨rfl, by rw [ey29, zp_nk _ (by decide)]⟩, hR, hRy29, fun k a b c => by rw [ey29, zp_nk _ b]⟩
      exfalso
      rw [ey29, zp_same] at e71
      omega
