theorem snL_d (r : Int) : ∀ (n : Nat) (z : wZ) (d : Int), (snL r n z d).1 = d + (snL r n z 0).1 ∧ (snL r n z d).2 = (snL r n z 0).2
  | 0, z, d => ⟨(Int.add_zero d).symm, rfl⟩
  | n + 1, z, d => by
    unfold snL
    split
    · exact ⟨(Int.add_zero d).symm, rfl⟩
    · split
      · have a := snL_d r n (coF (cmL r (choF z r) (glF z (choF z r)) 1000 z).2 r (choF z r)) (d + 1)
        have b := snL_d r n (coF (cmL r (choF z r) (glF z (choF z r)) 1000 z).2 r (choF z r)) (0 + 1)
        refine ⟨?_, a.2.trans b.2.symm⟩
        rw [a.1, b.1]; omega
      · exact snL_d r n _ d
set_option maxHeartbeats 4000000 in
set_option maxRecDepth 100000 in
theorem m_day (l : Launch) {D : va_G} {aC : Nat → ClassId} {ad : Nat → Nat} (hd : wDi ad shM) {z y : wZ} (hR : Rng z) (hY : Rng y)  (hF : WF z) (hM : MI z y) (hwk : ∀ q, 0 ≤ q → q < z 4 0 → z 29 q ≤ 480 * z 7 0) : cMi l D aC ad shM yX8_day cX8_day 4 (.int) (rmL 6) [.ref (ad 40)] z y (fun r_ z2 y2 => y2 71 0 = kcDy z ∧ (kcDy z = 0 → r_ = (dyL (z 4 0).toNat 0 z 0).1 ∧ z2 = zp (dyL (z 4 0).toNat 0 z 0).2 7 0 (z 7 0 + 1) ∧ WF z2 ∧ MI z2 y2) ∧ (kcDy z ≠ 0 → z2 = z ∧ y2 72 = y 72) ∧ Rng z2 ∧ Rng y2 ∧ ∀ k', k' ≠ 70 → k' ≠ 71 → k' ≠ 72 → y2 k' = y k') := by
  refine c_i [some (.ref (ad 40)), none, none, none] (by decide +kernel) rfl (Nat.le_of_ble_eq_true rfl) rfl hd ?_
  intro p e s m args below meth c A G hr
  have q4 : 0 ≤ z 4 0 ∧ z 4 0 ≤ 4 := hR 4 0
  have q7 : 0 ≤ z 7 0 ∧ z 7 0 ≤ 50 := hR 7 0
  have q3 : 0 ≤ z 3 0 ∧ z 3 0 ≤ 40 := hR 3 0
  refine i_aload_n G dX8_day_0 rfl ?_
  refine j_getz G F_X8_204 0 rfl rfl (by decide) dX8_day_1 ?_
  have b1 : 0 ≤ z 7 0 ∧ z 7 0 ≤ 50 := hR 7 _
  refine i_bipush G dX8_day_4 (by decide) ?_
  refine i_icmp_ne (tgt := 15) G dX8_day_6 (by decide) (by omega) (by omega) (fun h6 => ?_) (fun h6 => ?_)
  · skip
    refine i_iconst G dX8_day_15 ?_
    refine i_istore_n (L' := [some (.ref (ad 40)), some (vi (0)), none, none]) G dX8_day_16 (by decide) rfl ?_
    refine i_iconst G dX8_day_17 ?_
    refine i_istore_n (L' := [some (.ref (ad 40)), some (vi (0)), some (vi (0)), none]) G dX8_day_18 (by decide) rfl ?_
    refine i_forget (L' := [some (.ref (ad 40)), some (vi (0)), some (vi (0)), none]) ⟨rfl, ⟨rfl, ⟨rfl, trivial⟩⟩⟩ ?_
    have lp19 : ∀ (n19 : Nat) (d j : Int) (z19_ : wZ) (y19_ : wZ), Rng z19_ → Rng y19_ → (0 ≤ j) → (j + n19 = z 4 0) → (WF z19_) → (MI z19_ y19_) → (z19_ 4 0 = z 4 0) → (z19_ 7 0 = z 7 0) → (∀ q, j ≤ q → q < z 4 0 → z19_ 29 q ≤ 480 * z 7 0) → (∀ k', k' ≠ 70 → k' ≠ 71 → k' ≠ 72 → y19_ k' = y k') → (dyL n19 j z19_ d = dyL (z 4 0).toNat 0 z 0) → JW p l e (rmL 6) s m args below meth c 4 D aC ad A shM (MQ below (cQi D aC ad shM (fun r_ z2 y2 => y2 71 0 = kcDy z ∧ (kcDy z = 0 → r_ = (dyL (z 4 0).toNat 0 z 0).1 ∧ z2 = zp (dyL (z 4 0).toNat 0 z 0).2 7 0 (z 7 0 + 1) ∧ WF z2 ∧ MI z2 y2) ∧ (kcDy z ≠ 0 → z2 = z ∧ y2 72 = y 72) ∧ Rng z2 ∧ Rng y2 ∧ ∀ k', k' ≠ 70 → k' ≠ 71 → k' ≠ 72 → y2 k' = y k') A) args s 0 0 A) 0 0 (zc z19_ y19_) 19 [some (.ref (ad 40)), some (vi (d)), some (vi (j)), none] [] := by
      intro n19
      induction n19 with
      | zero => 
        intro d j z19_ y19_ hRz19_ hRy19_ hj hn hw hm hh4 hh7 hwb hyo hD
        refine i_iload_n G dX8_day_19 rfl ?_
        refine i_aload_n G dX8_day_20 rfl ?_
        refine j_getz G F_X8_107 0 rfl rfl (by decide) dX8_day_21 ?_
        have b21 : 0 ≤ z19_ 4 0 ∧ z19_ 4 0 ≤ 4 := hRz19_ 4 _
        refine i_icmp_ge (tgt := 86) G dX8_day_24 (by decide) (by omega) (by omega) (fun h24 => ?_) (fun h24 => ?_)
        · skip
          refine i_aload_n G dX8_day_86 rfl ?_
          refine i_dup G rfl dX8_day_87 ?_
          refine j_getz G F_X8_204 0 rfl rfl (by decide) dX8_day_88 ?_
          have b88 : 0 ≤ z19_ 7 0 ∧ z19_ 7 0 ≤ 50 := hRz19_ 7 _
          refine i_iconst G dX8_day_91 ?_
          refine i_iadd G dX8_day_92 ?_
          refine j_putz G P_X8_204 0 rfl rfl (by decide) (by decide) (by decide) hRz19_ (by show (0 : Int) ≤ _ ∧ _ ≤ (50 : Int); omega) dX8_day_93 (fun z93 ez93 hRz93 => ?_)
          refine i_aload_n G dX8_day_96 rfl ?_
          refine i_iload_n G dX8_day_97 rfl ?_
          refine j_callYi (q0 := 0) (As := [vi (d)]) (st := []) G K_X8_114 (m_tells l hd hRz93 hRy19_ d ) rfl rfl rfl (rm_ok (by decide) (by decide)) ⟨Nat.le_refl _, Nat.le_refl _⟩ (Nat.le_of_ble_eq_true rfl) dX8_day_98 (fun r98 y98 q98 => ?_)
          obtain ⟨er98, ey98, hRy98⟩ := q98
          refine j_reti G hr dX8_day_101 ?_
          have e71 : y98 71 0 = kcDy z := by rw [ey98, zp_same]; unfold kcDy; (repeat' split) <;> omega
          have e : (d, z19_) = dyL (z 4 0).toNat 0 z 0 := hD
          have ez : z93 = zp (dyL (z 4 0).toNat 0 z 0).2 7 0 (z 7 0 + 1) := by rw [ez93, ← e, hh7]
          refine ⟨e71, fun hk => ⟨by rw [← e]; exact er98, ez, ?_, ?_⟩, fun hk => absurd (e71.symm.trans (by rw [ey98, zp_same])) hk, hRz93, hRy98, fun k a b c => by rw [ey98, zp_nk _ b]; exact hyo k a b c⟩
          · rw [ez93]; exact WF_congr hw (fun k _ h7 _ _ _ _ _ _ _ _ _ _ => by rw [zp_nk _ h7])
          · exact MI_z (MI_y hm (by rw [ey98, zp_nk _ (by decide)])) (by rw [ez93, zp_nk _ (by decide)])
        · skip
          exfalso; omega
      | succ n19 ih19 => 
        intro d j z19_ y19_ hRz19_ hRy19_ hj hn hw hm hh4 hh7 hwb hyo hD
        have hj4 : 0 ≤ j ∧ j < z 4 0 := by omega
        have q8 := hwb j (by omega) (by omega)
        refine i_iload_n G dX8_day_19 rfl ?_
        refine i_aload_n G dX8_day_20 rfl ?_
        refine j_getz G F_X8_107 0 rfl rfl (by decide) dX8_day_21 ?_
        have b21 : 0 ≤ z19_ 4 0 ∧ z19_ 4 0 ≤ 4 := hRz19_ 4 _
        refine i_icmp_ge (tgt := 86) G dX8_day_24 (by decide) (by omega) (by omega) (fun h24 => ?_) (fun h24 => ?_)
        · skip
          exfalso; omega
        · skip
          refine i_aload_n G dX8_day_27 rfl ?_
          refine i_sipush G dX8_day_28 (by decide) ?_
          refine j_putz G P_X8_188 0 rfl rfl (by decide) (by decide) (by decide) hRz19_ (by show (0 : Int) ≤ _ ∧ _ ≤ (480 : Int); omega) dX8_day_31 (fun z31 ez31 hRz31 => ?_)
          refine i_aload_n G dX8_day_34 rfl ?_
          refine i_iload_n G dX8_day_35 rfl ?_
          have hw31 : WF z31 := WF_congr hw (fun k _ _ h8 _ _ _ _ _ _ _ _ _ => by rw [ez31, zp_nk _ h8])
          have hm31 : MI z31 y19_ := MI_z hm (by rw [ez31, zp_nk _ (by decide)])
          have hr31 : 0 ≤ j ∧ j < z31 4 0 := by rw [ez31, zp_nk _ (by decide)]; omega
          refine j_callYi (q0 := 0) (As := [vi (j)]) (st := []) G K_X8_207 (m_chosen l hd hRz31 hRy19_ j (by first | assumption | omega) (by first | assumption | omega)) rfl rfl rfl (rm_ok (by decide) (by decide)) ⟨Nat.le_refl _, Nat.le_refl _⟩ (Nat.le_of_ble_eq_true rfl) dX8_day_36 (fun r36 y36 q36 => ?_)
          obtain ⟨er36, hRy36, ho36⟩ := q36
          have hm31 : MI z31 y36 := MI_y hm31 (ho36 72 (by decide))
          refine i_istore_n (L' := [some (.ref (ad 40)), some (vi (d)), some (vi (j)), some (vi (r36))]) G dX8_day_39 (by decide) rfl ?_
          have lp40 : ∀ (n40 : Nat) (d2 tk : Int) (z40_ : wZ) (y40_ : wZ), Rng z40_ → Rng y40_ → (WF z40_) → (MI z40_ y40_) → (muZ z40_ < n40) → (tk = choF z40_ j) → (z40_ 4 0 = z19_ 4 0) → (z40_ 7 0 = z19_ 7 0) → (z40_ 3 0 = z19_ 3 0) → (z40_ 29 j + z40_ 8 0 = z19_ 29 j + 480) → (∀ k', k' ≠ 70 → k' ≠ 71 → k' ≠ 72 → y40_ k' = y19_ k') → (snL j n40 z40_ d2 = snL j 1000 (zp z19_ 8 0 480) d) → JW p l e (rmL 6) s m args below meth c 4 D aC ad A shM (MQ below (cQi D aC ad shM (fun r_ z2 y2 => y2 71 0 = kcDy z ∧ (kcDy z = 0 → r_ = (dyL (z 4 0).toNat 0 z 0).1 ∧ z2 = zp (dyL (z 4 0).toNat 0 z 0).2 7 0 (z 7 0 + 1) ∧ WF z2 ∧ MI z2 y2) ∧ (kcDy z ≠ 0 → z2 = z ∧ y2 72 = y 72) ∧ Rng z2 ∧ Rng y2 ∧ ∀ k', k' ≠ 70 → k' ≠ 71 → k' ≠ 72 → y2 k' = y k') A) args s 0 0 A) 0 0 (zc z40_ y40_) 40 [some (.ref (ad 40)), some (vi (d2)), some (vi (j)), some (vi (tk))] [] := by
            intro n40
            induction n40 with
            | zero => 
              intro d2 tk z40_ y40_ hRz40_ hRy40_ hw2 hm2 hmu htk hk4 hk7 hk3 hs2 hyo2 hS
              exfalso; omega
            | succ n40 ih40 => 
              intro d2 tk z40_ y40_ hRz40_ hRy40_ hw2 hm2 hmu htk hk4 hk7 hk3 hs2 hyo2 hS
              have q3 : 0 ≤ z40_ 3 0 ∧ z40_ 3 0 ≤ 40 := hRz40_ 3 0
              have q48 : 0 ≤ z40_ 8 0 ∧ z40_ 8 0 ≤ 480 := hRz40_ 8 0
              have hci := choF_in hRz40_ j
              have hr40 : 0 ≤ j ∧ j < z40_ 4 0 := by omega
              refine i_iload_n G dX8_day_40 rfl ?_
              refine i_iconst G dX8_day_41 ?_
              refine i_icmp_eq (tgt := 80) G dX8_day_42 (by decide) (by omega) (by omega) (fun h42 => ?_) (fun h42 => ?_)
              · skip
                have hS2 : (d2, z40_) = snL j 1000 (zp z19_ 8 0 480) d := by rw [← hS]; exact (snL_stop d2 (by omega) _).symm
                refine i_iinc (L' := [some (.ref (ad 40)), some (vi (d2)), some (vi (j + 1)), some (vi (tk))]) G dX8_day_80 (by decide) rfl rfl ?_
                refine i_goto (tgt := 19) G dX8_day_83 (by decide) ?_
                refine i_forget (L' := [some (.ref (ad 40)), some (vi (d2)), some (vi (j + 1)), none]) ⟨rfl, ⟨rfl, ⟨rfl, trivial⟩⟩⟩ ?_
                have eS : (d2, z40_) = snL j 1000 (zp z19_ 8 0 480) d := hS2
                have eS1 : d2 = d + (snL j 1000 (zp z19_ 8 0 480) 0).1 := by
                  have h9 := snL_d j 1000 (zp z19_ 8 0 480) d
                  rw [← eS] at h9
                  exact h9.1
                have eS2 : z40_ = (snL j 1000 (zp z19_ 8 0 480) 0).2 := by
                  have h9 := snL_d j 1000 (zp z19_ 8 0 480) d
                  rw [← eS] at h9
                  exact h9.2
                exact ih19 d2 (j + 1) z40_ y40_ hRz40_ hRy40_ (by omega) (by omega) hw2 hm2 (by rw [hk4]; exact hh4) (by rw [hk7]; exact hh7) (fun q h0 h1 => by rw [eS2, snL_29 _ (by omega), zp_nk _ (by decide)]; exact hwb q (by omega) h1) (fun k a b c => (hyo2 k a b c).trans (hyo k a b c)) (by rw [← hD, dyL, ← eS2, ← eS1])
              · skip
                have hok := choF_ok (z := z40_) (r := j) (by omega)
                rw [← htk] at hok
                have hh := hok.2.2
                have ht40 : 0 ≤ tk ∧ tk < z40_ 3 0 := by omega
                refine i_aload_n G dX8_day_45 rfl ?_
                refine i_iload_n G dX8_day_46 rfl ?_
                refine i_iload_n G dX8_day_47 rfl ?_
                refine j_calli (q0 := 0) (As := [vi (j), vi (tk)]) (st := []) G K_X8_210 (m_comes l hd hRz40_ hRy40_ j tk (by first | assumption | omega) (by first | assumption | omega) (by first | assumption | omega) (by first | assumption | omega) (by first | assumption | omega) (by first | assumption | omega)) rfl rfl rfl (rm_ok (by decide) (by decide)) ⟨Nat.le_refl _, Nat.le_refl _⟩ (Nat.le_of_ble_eq_true rfl) dX8_day_48 (fun r48 z48 y48 q48 => ?_)
                obtain ⟨er48, ez48, hwz48, hMz48, hRz48, hRy48, ho48, hs48, hn48, hu48, b48⟩ := q48
                have ek48 : ∀ k, k ≠ 8 ∧ k ≠ 27 ∧ k ≠ 29 ∧ k ≠ 16 ∧ k ≠ 22 ∧ k ≠ 32 → z48 k = z40_ k := fun k hk => by rw [ez48, cmL_k _ _ _ hk]
                have e483 := ek48 3 (by decide)
                have e484 := ek48 4 (by decide)
                have e487 := ek48 7 (by decide)
                have ht48 : 0 ≤ tk ∧ tk < z48 3 0 := by rw [e483]; exact ht40
                refine i_if_eq (tgt := 71) G dX8_day_51 (by decide) (by omega) (fun h51 => ?_) (fun h51 => ?_)
                · skip
                  refine i_aload_n G dX8_day_71 rfl ?_
                  refine i_iload_n G dX8_day_72 rfl ?_
                  have hw73 : WF z48 := hwz48
                  have hr73 : 0 ≤ j ∧ j < z48 4 0 := by rw [e484]; exact hr40
                  refine j_callYi (q0 := 0) (As := [vi (j)]) (st := []) G K_X8_207 (m_chosen l hd hRz48 hRy48 j (by first | assumption | omega) (by first | assumption | omega)) rfl rfl rfl (rm_ok (by decide) (by decide)) ⟨Nat.le_refl _, Nat.le_refl _⟩ (Nat.le_of_ble_eq_true rfl) dX8_day_73 (fun r73 y73 q73 => ?_)
                  obtain ⟨er73, hRy73, ho73⟩ := q73
                  refine i_istore_n (L' := [some (.ref (ad 40)), some (vi (d2)), some (vi (j)), some (vi (r73))]) G dX8_day_76 (by decide) rfl ?_
                  refine i_goto (tgt := 40) G dX8_day_77 (by decide) ?_
                  have hmu2 : muZ z48 < muZ z40_ := by
                    rcases hu48 with h | h
                    · exfalso
                      have h1 := hok.2.1
                      rw [← h.2] at h1
                      omega
                    · exact h
                  exact ih40 _ _ z48 y73 hRz48 hRy73 hw73 (MI_y hMz48 (by first | exact (ho73 72 (by decide)).trans (ho56 72 (by decide)) | exact ho73 72 (by decide))) (by omega) er73 (by rw [e484]; exact hk4) (by rw [e487]; exact hk7) (by rw [e483]; exact hk3) (by omega) (fun k a b c => by first | exact (ho73 k a).trans ((ho56 k a).trans ((ho48 k a c).trans (hyo2 k a b c))) | exact (ho73 k a).trans ((ho48 k a c).trans (hyo2 k a b c))) (by rw [← hS, snL, if_neg (by omega), ← htk, if_neg (fun hc => by first | (have h9 := hc.1; rw [← er48] at h9; omega) | (have h9 := hc.2; rw [← ez48] at h9; omega)), ← ez48])
                · skip
                  refine i_aload_n G dX8_day_54 rfl ?_
                  refine i_iload_n G dX8_day_55 rfl ?_
                  refine j_callYi (q0 := 0) (As := [vi (tk)]) (st := []) G K_X8_194 (m_canBeDone l hd hRz48 hRy48 tk (by first | assumption | omega) (by first | assumption | omega)) rfl rfl rfl (rm_ok (by decide) (by decide)) ⟨Nat.le_refl _, Nat.le_refl _⟩ (Nat.le_of_ble_eq_true rfl) dX8_day_56 (fun r56 y56 q56 => ?_)
                  obtain ⟨er56, br56, hRy56, ho56⟩ := q56
                  refine i_if_eq (tgt := 71) G dX8_day_59 (by decide) (by omega) (fun h59 => ?_) (fun h59 => ?_)
                  · skip
                    refine i_aload_n G dX8_day_71 rfl ?_
                    refine i_iload_n G dX8_day_72 rfl ?_
                    have hw73 : WF z48 := hwz48
                    have hr73 : 0 ≤ j ∧ j < z48 4 0 := by rw [e484]; exact hr40
                    refine j_callYi (q0 := 0) (As := [vi (j)]) (st := []) G K_X8_207 (m_chosen l hd hRz48 hRy56 j (by first | assumption | omega) (by first | assumption | omega)) rfl rfl rfl (rm_ok (by decide) (by decide)) ⟨Nat.le_refl _, Nat.le_refl _⟩ (Nat.le_of_ble_eq_true rfl) dX8_day_73 (fun r73 y73 q73 => ?_)
                    obtain ⟨er73, hRy73, ho73⟩ := q73
                    refine i_istore_n (L' := [some (.ref (ad 40)), some (vi (d2)), some (vi (j)), some (vi (r73))]) G dX8_day_76 (by decide) rfl ?_
                    refine i_goto (tgt := 40) G dX8_day_77 (by decide) ?_
                    have hmu2 : muZ z48 < muZ z40_ := by
                      rcases hu48 with h | h
                      · exfalso
                        have h1 := hok.2.1
                        rw [← h.2] at h1
                        omega
                      · exact h
                    exact ih40 _ _ z48 y73 hRz48 hRy73 hw73 (MI_y hMz48 (by first | exact (ho73 72 (by decide)).trans (ho56 72 (by decide)) | exact ho73 72 (by decide))) (by omega) er73 (by rw [e484]; exact hk4) (by rw [e487]; exact hk7) (by rw [e483]; exact hk3) (by omega) (fun k a b c => by first | exact (ho73 k a).trans ((ho56 k a).trans ((ho48 k a c).trans (hyo2 k a b c))) | exact (ho73 k a).trans ((ho48 k a c).trans (hyo2 k a b c))) (by rw [← hS, snL, if_neg (by omega), ← htk, if_neg (fun hc => by first | (have h9 := hc.1; rw [← er48] at h9; omega) | (have h9 := hc.2; rw [← ez48] at h9; omega)), ← ez48])
                  · skip
                    have hms48 : msF z48 tk = 1 := by omega
                    have hr48 : 0 ≤ j ∧ j < z48 4 0 := by rw [e484]; exact hr40
                    have hM56 : MI z48 y56 := MI_y hMz48 (ho56 72 (by decide))
                    refine i_aload_n G dX8_day_62 rfl ?_
                    refine i_iload_n G dX8_day_63 rfl ?_
                    refine i_iload_n G dX8_day_64 rfl ?_
                    refine j_callv (q0 := 0) (As := [vi (j), vi (tk)]) (st := []) G K_X8_213 (m_does l hd hRz48 hRy56 j tk (by first | assumption | omega) (by first | assumption | omega) (by first | assumption | omega) (by first | assumption | omega) (by first | assumption | omega) (by first | assumption | omega) (by first | assumption | omega)) rfl rfl rfl (rm_ok (by decide) (by decide)) ⟨Nat.le_refl _, Nat.le_refl _⟩ (Nat.le_of_ble_eq_true rfl) dX8_day_65 (fun z65 y65 q65 => ?_)
                    obtain ⟨ez65, hMz65, hRz65, hRy65, ho65⟩ := q65
                    refine i_iinc (L' := [some (.ref (ad 40)), some (vi (d2 + 1)), some (vi (j)), some (vi (tk))]) G dX8_day_68 (by decide) rfl rfl ?_
                    refine i_aload_n G dX8_day_71 rfl ?_
                    refine i_iload_n G dX8_day_72 rfl ?_
                    have hw73 : WF z65 := by rw [ez65]; exact WF_co hwz48 hRz48 ht48.1 ht48.2 hr48.2 hms48
                    have e654 : z65 4 = z48 4 := by rw [ez65, coF_k _ _ _ (by decide)]
                    have hr73 : 0 ≤ j ∧ j < z65 4 0 := by rw [e654]; exact hr48
                    refine j_callYi (q0 := 0) (As := [vi (j)]) (st := []) G K_X8_207 (m_chosen l hd hRz65 hRy65 j (by first | assumption | omega) (by first | assumption | omega)) rfl rfl rfl (rm_ok (by decide) (by decide)) ⟨Nat.le_refl _, Nat.le_refl _⟩ (Nat.le_of_ble_eq_true rfl) dX8_day_73 (fun r73 y73 q73 => ?_)
                    obtain ⟨er73, hRy73, ho73⟩ := q73
                    refine i_istore_n (L' := [some (.ref (ad 40)), some (vi (d2 + 1)), some (vi (j)), some (vi (r73))]) G dX8_day_76 (by decide) rfl ?_
                    refine i_goto (tgt := 40) G dX8_day_77 (by decide) ?_
                    have hmu2 : muZ z65 < muZ z40_ := by
                      have h1 : muZ z65 < muZ z48 := by rw [ez65]; exact mu_co hn48
                      rcases hu48 with h | h
                      · rw [h.2] at h1; exact h1
                      · omega
                    exact ih40 _ _ z65 y73 hRz65 hRy73 hw73 (MI_y hMz65 (ho73 72 (by decide))) (by omega) er73 (by rw [e654, e484]; exact hk4) (by rw [ez65, coF_k _ _ _ (by decide), e487]; exact hk7) (by rw [ez65, coF_k _ _ _ (by decide), e483]; exact hk3) (by rw [ez65, coF_sum]; omega) (fun k a b c => (ho73 k a).trans ((ho65 k a c).trans ((ho56 k a).trans ((ho48 k a c).trans (hyo2 k a b c))))) (by rw [← hS, snL, if_neg (by omega), ← htk, if_pos ⟨by rw [← er48]; omega, by rw [← ez48]; exact hms48⟩, ez65, ← ez48])
          exact lp40 1000 d r36 z31 y36 hRz31 hRy36 hw31 hm31 (by have := muZ_in hRz31; omega) er36 (by rw [ez31, zp_nk _ (by decide)]) (by rw [ez31, zp_nk _ (by decide)]) (by rw [ez31, zp_nk _ (by decide)]) (by rw [ez31, zp_nk _ (by decide), zp_same]) (fun k a b c => ho36 k a) (by rw [ez31])
    exact lp19 (z 4 0).toNat 0 0 z y hR hY (by omega) (by omega) hF hM rfl rfl (fun q h0 h1 => hwk q h0 h1) (fun _ _ _ _ => rfl) rfl
  · skip
    refine i_aload_n G dX8_day_9 rfl ?_
    refine i_iconst G dX8_day_10 ?_
    refine j_callYi (q0 := 0) (As := [vi (1)]) (st := []) G K_X8_110 (m_fails l hd hR hY 1 (by first | assumption | omega)) rfl rfl rfl (rm_ok (by decide) (by decide)) ⟨Nat.le_refl _, Nat.le_refl _⟩ (Nat.le_of_ble_eq_true rfl) dX8_day_11 (fun r11 y11 q11 => ?_)
    obtain ⟨er11, ey11, hRy11⟩ := q11
    refine j_reti G hr dX8_day_14 ?_
    have e71 : y11 71 0 = kcDy z := by rw [ey11, zp_same]; unfold kcDy; (repeat' split) <;> omega
    refine ⟨e71, fun hk => ?_, fun _ => ⟨rfl, by rw [ey11, zp_nk _ (by decide)]⟩, hR, hRy11, fun k a b c => by rw [ey11, zp_nk _ b]⟩
    exfalso
    rw [ey11, zp_same] at e71
    omega
