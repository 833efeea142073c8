theorem coF_k (z : wZ) (r t : Int) {k : Nat} (h : k ≠ 8 ∧ k ≠ 29 ∧ k ≠ 26 ∧ k ≠ 15 ∧ k ≠ 16 ∧ k ≠ 22 ∧ k ≠ 32 ∧ k ≠ 19 ∧ k ≠ 20 ∧ k ≠ 21 ∧ k ≠ 6) : coF z r t k = z k := by
  unfold coF spdF
  rw [zp_nk _ (by omega), zp_nk _ (by omega), zp_nk _ (by omega), dnF_k z t (by omega)]
theorem coF_sum (z : wZ) (r t : Int) : coF z r t 29 r + coF z r t 8 0 = z 29 r + z 8 0 := by
  have e1 : coF z r t 29 r = dnF z t 29 r + mnK (z 23 t) := by unfold coF spdF; simp [zp]
  have e2 : coF z r t 8 0 = dnF z t 8 0 - mnK (z 23 t) := by unfold coF spdF; simp [zp]
  rw [e1, e2, dnF_k z t (by decide), dnF_k z t (by decide)]
  omega
set_option maxHeartbeats 4000000 in
set_option maxRecDepth 100000 in
theorem c_sendOut (l : Launch) {D : va_G} {aC : Nat → ClassId} {ad : Nat → Nat} (hd : wDi ad shC) {z y : wZ} (hR : Rng z) (hY : Rng y) (hI_z_y : CW z y) (r : Int) (hr0 : 0 ≤ r ∧ r < z 4 0) (hw : z 29 r ≤ 59520) : cMi l D aC ad shC yX7_sendOut cX7_sendOut 5 (.int) (rmL 5) [.ref (ad 0), vi r] z y (fun r_ z2 y2 => r_ = (snL r 1000 (zp z 8 0 480) 0).1 ∧ z2 = (snL r 1000 (zp z 8 0 480) 0).2 ∧ Rng z2 ∧ Rng y2 ∧ CW z2 y2 ∧ ∀ k', k' ≠ 64 → k' ≠ 65 → y2 k' = y k') := by
  refine c_i [some (.ref (ad 0)), some (vi (r)), none, none, none] (by decide +kernel) rfl (Nat.le_of_ble_eq_true rfl) rfl hd ?_
  intro p e s m args below meth c A G hr
  have q4 : 0 ≤ z 4 0 ∧ z 4 0 ≤ 4 := hR 4 0
  refine i_iconst G dX7_sendOut_0 ?_
  refine i_istore_n (L' := [some (.ref (ad 0)), some (vi (r)), some (vi (0)), none, none]) G dX7_sendOut_1 (by decide) rfl ?_
  refine i_aload_n G dX7_sendOut_2 rfl ?_
  refine i_getr G F_X7_40 0 rfl rfl dX7_sendOut_3 ?_
  refine i_sipush G dX7_sendOut_6 (by decide) ?_
  refine j_putz G P_X7_313 28 rfl rfl (by decide) (by decide) (by decide) hR (by show (0 : Int) ≤ _ ∧ _ ≤ (480 : Int); omega) dX7_sendOut_9 (fun z9 ez9 hRz9 => ?_)
  refine i_iconst G dX7_sendOut_12 ?_
  refine i_istore_n (L' := [some (.ref (ad 0)), some (vi (r)), some (vi (0)), some (vi (0)), none]) G dX7_sendOut_13 (by decide) rfl ?_
  refine i_forget (L' := [some (.ref (ad 0)), some (vi (r)), some (vi (0)), some (vi (0)), none]) ⟨rfl, ⟨rfl, ⟨rfl, ⟨rfl, trivial⟩⟩⟩⟩ ?_
  have lp14 : ∀ (n14 : Nat) (d j : Int) (z14_ : wZ) (y14_ : wZ), Rng z14_ → Rng y14_ → (0 ≤ j) → (j + n14 = 1000) → (CW z14_ y14_) → (z14_ 4 0 = z 4 0) → (z14_ 29 r + z14_ 8 0 = z 29 r + 480) → (∀ k', k' ≠ 64 → k' ≠ 65 → y14_ k' = y k') → (snL r n14 z14_ d = snL r 1000 (zp z 8 0 480) 0) → JW p l e (rmL 5) s m args below meth c 5 D aC ad A shC (MQ below (cQi D aC ad shC (fun r_ z2 y2 => r_ = (snL r 1000 (zp z 8 0 480) 0).1 ∧ z2 = (snL r 1000 (zp z 8 0 480) 0).2 ∧ Rng z2 ∧ Rng y2 ∧ CW z2 y2 ∧ ∀ k', k' ≠ 64 → k' ≠ 65 → y2 k' = y k') A) args s 0 0 A) 0 0 (zc z14_ y14_) 14 [some (.ref (ad 0)), some (vi (r)), some (vi (d)), some (vi (j)), none] [] := by
    intro n14
    induction n14 with
    | zero => 
      intro d j z14_ y14_ hRz14_ hRy14_ hj hn hI_z14__y14_ h4 hs hyo hF
      refine i_iload_n G dX7_sendOut_14 rfl ?_
      refine i_sipush G dX7_sendOut_15 (by decide) ?_
      refine i_icmp_ge (tgt := 71) G dX7_sendOut_18 (by decide) (by omega) (by omega) (fun h18 => ?_) (fun h18 => ?_)
      · skip
        refine i_iload_n G dX7_sendOut_71 rfl ?_
        refine j_reti G hr dX7_sendOut_72 ?_
        have e : (d, z14_) = snL r 1000 (zp z 8 0 480) 0 := hF
        exact ⟨by rw [← e], by rw [← e], hRz14_, hRy14_, hI_z14__y14_, hyo⟩
      · skip
        exfalso; omega
    | succ n14 ih14 => 
      intro d j z14_ y14_ hRz14_ hRy14_ hj hn hI_z14__y14_ h4 hs hyo hF
      have q3 : 0 ≤ z14_ 3 0 ∧ z14_ 3 0 ≤ 40 := hRz14_ 3 0
      refine i_iload_n G dX7_sendOut_14 rfl ?_
      refine i_sipush G dX7_sendOut_15 (by decide) ?_
      refine i_icmp_ge (tgt := 71) G dX7_sendOut_18 (by decide) (by omega) (by omega) (fun h18 => ?_) (fun h18 => ?_)
      · skip
        exfalso; omega
      · skip
        refine i_aload_n G dX7_sendOut_21 rfl ?_
        refine i_iload_n G dX7_sendOut_22 rfl ?_
        refine j_callE (q0 := 0) (As := [vi (r)]) (st := []) G K_X7_316 (c_chooseTask l hd hRz14_ hRy14_ hI_z14__y14_ r (by first | assumption | omega)) rfl rfl rfl (rm_ok (by decide) (by decide)) ⟨Nat.le_refl _, Nat.le_refl _⟩ (Nat.le_of_ble_eq_true rfl) dX7_sendOut_23 ?_
        have b23 : (choF z14_ r) = -1 ∨ (0 ≤ (choF z14_ r) ∧ (choF z14_ r) < z14_ 3 0) := choF_in hRz14_ _
        refine i_istore (L' := [some (.ref (ad 0)), some (vi (r)), some (vi (d)), some (vi (j)), some (vi ((choF z14_ r)))]) G dX7_sendOut_26 (by decide) rfl ?_
        refine i_iload G dX7_sendOut_28 rfl ?_
        refine i_iconst G dX7_sendOut_30 ?_
        refine i_icmp_ne (tgt := 36) G dX7_sendOut_31 (by decide) (by omega) (by omega) (fun h31 => ?_) (fun h31 => ?_)
        · skip
          have hok := choF_ok (z := z14_) (r := r) (by omega)
          have hok3 := hok.2.2
          refine i_aload_n G dX7_sendOut_36 rfl ?_
          refine i_iload_n G dX7_sendOut_37 rfl ?_
          refine i_iload G dX7_sendOut_38 rfl ?_
          refine j_calli (q0 := 0) (As := [vi (r), vi ((choF z14_ r))]) (st := []) G K_X7_319 (c_comesTo l hd hRz14_ hRy14_ hI_z14__y14_ r (choF z14_ r) (by first | assumption | omega) (by first | assumption | omega) (by first | assumption | omega) (by first | assumption | omega)) rfl rfl rfl (rm_ok (by decide) (by decide)) ⟨Nat.le_refl _, Nat.le_refl _⟩ (Nat.le_of_ble_eq_true rfl) dX7_sendOut_40 (fun r40 z40 y40 q40 => ?_)
          obtain ⟨er40, ez40, hRz40, hRy40, hI_z40_y40, ho40, hs40, hm40, b40⟩ := q40
          have e3 : z40 3 0 = z14_ 3 0 := by rw [ez40, cmL_k _ _ _ (by decide)]
          have e4 : z40 4 0 = z 4 0 := by rw [ez40, cmL_k _ _ _ (by decide)]; exact h4
          refine i_if_eq (tgt := 65) G dX7_sendOut_43 (by decide) (by omega) (fun h43 => ?_) (fun h43 => ?_)
          · skip
            refine i_iinc (L' := [some (.ref (ad 0)), some (vi (r)), some (vi (d)), some (vi (j + 1)), some (vi ((choF z14_ r)))]) G dX7_sendOut_65 (by decide) rfl rfl ?_
            refine i_goto (tgt := 14) G dX7_sendOut_68 (by decide) ?_
            refine i_forget (L' := [some (.ref (ad 0)), some (vi (r)), some (vi (d)), some (vi (j + 1)), none]) ⟨rfl, ⟨rfl, ⟨rfl, ⟨rfl, trivial⟩⟩⟩⟩ ?_
            exact ih14 _ (j + 1) z40 y40 hRz40 hRy40 (by omega) (by omega) hI_z40_y40 e4 (by omega) (fun k' a b => (ho40 k' b).trans (hyo k' a b)) (by rw [← hF, snL, if_neg (by omega), if_neg (fun hc => by first | (have h9 := hc.1; rw [← er40] at h9; omega) | (have h9 := hc.2; rw [← ez40] at h9; omega)), ez40])
          · skip
            refine i_aload_n G dX7_sendOut_46 rfl ?_
            refine i_iload G dX7_sendOut_47 rfl ?_
            refine j_callE (q0 := 0) (As := [vi ((choF z14_ r))]) (st := []) G K_X7_322 (c_makesSense l hd hRz40 hRy40 hI_z40_y40 (choF z14_ r) (by first | assumption | omega)) rfl rfl rfl (rm_ok (by decide) (by decide)) ⟨Nat.le_refl _, Nat.le_refl _⟩ (Nat.le_of_ble_eq_true rfl) dX7_sendOut_49 ?_
            have b49 : 0 ≤ (msF z40 (choF z14_ r)) ∧ (msF z40 (choF z14_ r)) ≤ 1 := msF_in hRz40 _
            refine i_if_eq (tgt := 65) G dX7_sendOut_52 (by decide) (by omega) (fun h52 => ?_) (fun h52 => ?_)
            · skip
              refine i_iinc (L' := [some (.ref (ad 0)), some (vi (r)), some (vi (d)), some (vi (j + 1)), some (vi ((choF z14_ r)))]) G dX7_sendOut_65 (by decide) rfl rfl ?_
              refine i_goto (tgt := 14) G dX7_sendOut_68 (by decide) ?_
              refine i_forget (L' := [some (.ref (ad 0)), some (vi (r)), some (vi (d)), some (vi (j + 1)), none]) ⟨rfl, ⟨rfl, ⟨rfl, ⟨rfl, trivial⟩⟩⟩⟩ ?_
              exact ih14 _ (j + 1) z40 y40 hRz40 hRy40 (by omega) (by omega) hI_z40_y40 e4 (by omega) (fun k' a b => (ho40 k' b).trans (hyo k' a b)) (by rw [← hF, snL, if_neg (by omega), if_neg (fun hc => by first | (have h9 := hc.1; rw [← er40] at h9; omega) | (have h9 := hc.2; rw [← ez40] at h9; omega)), ez40])
            · skip
              have hm4 := hm40 (by omega)
              refine i_aload_n G dX7_sendOut_55 rfl ?_
              refine i_iload_n G dX7_sendOut_56 rfl ?_
              refine i_iload G dX7_sendOut_57 rfl ?_
              refine j_callv (q0 := 0) (As := [vi (r), vi ((choF z14_ r))]) (st := []) G K_X7_325 (c_carryOut l hd hRz40 hRy40 hI_z40_y40 r (choF z14_ r) (by first | assumption | omega) (by first | assumption | omega) (by first | assumption | omega) (by first | assumption | omega) (by first | assumption | omega)) rfl rfl rfl (rm_ok (by decide) (by decide)) ⟨Nat.le_refl _, Nat.le_refl _⟩ (Nat.le_of_ble_eq_true rfl) dX7_sendOut_59 (fun z59 y59 q59 => ?_)
              obtain ⟨ez59, hRz59, hRy59, hI_z59_y59, ho59⟩ := q59
              refine i_iinc (L' := [some (.ref (ad 0)), some (vi (r)), some (vi (d + 1)), some (vi (j)), some (vi ((choF z14_ r)))]) G dX7_sendOut_62 (by decide) rfl rfl ?_
              refine i_iinc (L' := [some (.ref (ad 0)), some (vi (r)), some (vi (d + 1)), some (vi (j + 1)), some (vi ((choF z14_ r)))]) G dX7_sendOut_65 (by decide) rfl rfl ?_
              refine i_goto (tgt := 14) G dX7_sendOut_68 (by decide) ?_
              refine i_forget (L' := [some (.ref (ad 0)), some (vi (r)), some (vi (d + 1)), some (vi (j + 1)), none]) ⟨rfl, ⟨rfl, ⟨rfl, ⟨rfl, trivial⟩⟩⟩⟩ ?_
              have c1 : (cmL r (choF z14_ r) (glF z14_ (choF z14_ r)) 1000 z14_).1 = 1 := by rw [← er40]; omega
              have c2 : msF (cmL r (choF z14_ r) (glF z14_ (choF z14_ r)) 1000 z14_).2 (choF z14_ r) = 1 := by rw [← ez40]; omega
              have hs9 := coF_sum z40 r (choF z14_ r)
              have e4' : z59 4 = z40 4 := by rw [ez59]; exact coF_k _ _ _ (by decide)
              exact ih14 _ (j + 1) z59 y59 hRz59 hRy59 (by omega) (by omega) hI_z59_y59 (by rw [e4']; exact e4) (by rw [ez59]; omega) (fun k' a b => (ho59 k' a b).trans ((ho40 k' b).trans (hyo k' a b))) (by rw [← hF, snL, if_neg (by omega), if_pos ⟨c1, c2⟩, ez59, ez40])
        · skip
          refine i_iload_n G dX7_sendOut_34 rfl ?_
          refine j_reti G hr dX7_sendOut_35 ?_
          have e := hF
          rw [snL, if_pos (by omega)] at e
          exact ⟨by rw [← e], by rw [← e], hRz14_, hRy14_, hI_z14__y14_, hyo⟩
  have hI9 : CW z9 y := CW_k hI_z_y (WF_congr hI_z_y.1 (fun k _ _ h8 _ _ _ _ _ _ _ _ _ => by rw [ez9, zp_nk _ h8])) (fun i hi => by rw [ez9, zp_nk _ (by omega)])
  exact lp14 1000 0 0 z9 y hRz9 hY (by omega) (by omega) hI9 (by rw [ez9, zp_nk _ (by decide)]) (by rw [ez9, zp_nk _ (by decide), zp_same]) (fun _ _ _ => rfl) (by rw [ez9])
