theorem kL_View : kLk yX5_init cX5_init 1 := ⟨im_X5_init, co_X5_init, in_X5, rfl, by decide, by decide +kernel⟩
def pzN (z' : wZ) : Prop := ∃ y' : wZ, z' = zc z0S y' ∧ Rng y' ∧ (∀ a b, 0 ≤ a → a < 16 → 0 ≤ b → b < 16 → y' 64 (a * 16 + b) = if a = b then 0 else 1000000) ∧ ∀ a b, 0 ≤ a → a < 16 → 0 ≤ b → b < 16 → y' 65 (a * 16 + b) = if a = b then 0 else 1000000
def sh_Net : wSh := [(1, .inl (4, [.inl 2, .inl 3, .inl 4, .inl 5, .inl 6, .inl 7, .inl 10, .inl 13, .inr (0, 0), .inr (1, 0)])), (2, .inr (1, 16, 10)), (3, .inr (0, 24, 11)), (4, .inr (0, 24, 12)), (5, .inr (0, 24, 13)), (6, .inr (0, 24, 14)), (7, .inl (7, [.inl 8, .inl 9])), (8, .inr (1, 24, 15)), (9, .inr (0, 256, 64)), (10, .inl (7, [.inl 11, .inl 12])), (11, .inr (1, 24, 16)), (12, .inr (0, 256, 65)), (13, .inr (0, 256, 66))]
set_option maxHeartbeats 4000000 in
set_option maxRecDepth 100000 in
theorem k_Net (l : Launch) {D : va_G} {aC : Nat → ClassId} : kM2 l D aC yX2_init cX2_init 1 (rmX 3 12 932) 4 [.null, .null, .null, .null, .null, .null, .null, .null, vi 0, vi 0] 1 sh_Net pzN 12 932 := by
  refine k_of2 (by decide +kernel) (by decide) ?_
  intro p e s m args below meth c b A G hr hnm
  refine l_aload_n G dX2_init_0 rfl ?_
  refine l_obj G ml_X2_3 dX2_init_1 im_objectInit co_objectInit ⟨Nat.le_of_ble_eq_true rfl, Nat.le_of_ble_eq_true rfl⟩ ?_
  refine l_aload_n G dX2_init_4 rfl ?_
  refine l_bipush G dX2_init_5 (by decide) ?_
  refine l_newarr G (ty := .boolean) (t0 := 1) (N := 16) rfl ac_boolean rfl ra_boolean rfl (by decide) rfl (by decide) (Nat.le_of_ble_eq_true rfl) (Nat.le_of_ble_eq_true rfl) dX2_init_7 (fun q7 => ?_)
  refine l_put G hnm (ty0 := tyX2) F_X2_9 tyX2_ok nmX2 rfl 0 rfl rfl rfl (Nat.le_of_ble_eq_true rfl) dX2_init_9 (ws' := [(b, .inr (4, [.ref q7, .null, .null, .null, .null, .null, .null, .null, vi 0, vi 0])), (q7, .inl (aC 1, (16, .inl (fun _ => (0 : Int32)))))]) rfl ?_
  refine l_aload_n G dX2_init_12 rfl ?_
  refine l_bipush G dX2_init_13 (by decide) ?_
  refine l_newarr G (ty := .int) (t0 := 0) (N := 24) rfl ac_int rfl ra_int rfl (by decide) rfl (by decide) (Nat.le_of_ble_eq_true rfl) (Nat.le_of_ble_eq_true rfl) dX2_init_15 (fun q15 => ?_)
  refine l_put G hnm (ty0 := tyX2) F_X2_15 tyX2_ok nmX2 rfl 0 rfl rfl rfl (Nat.le_of_ble_eq_true rfl) dX2_init_17 (ws' := [(b, .inr (4, [.ref q7, .ref q15, .null, .null, .null, .null, .null, .null, vi 0, vi 0])), (q7, .inl (aC 1, (16, .inl (fun _ => (0 : Int32))))), (q15, .inl (aC 0, (24, .inl (fun _ => (0 : Int32)))))]) rfl ?_
  refine l_aload_n G dX2_init_20 rfl ?_
  refine l_bipush G dX2_init_21 (by decide) ?_
  refine l_newarr G (ty := .int) (t0 := 0) (N := 24) rfl ac_int rfl ra_int rfl (by decide) rfl (by decide) (Nat.le_of_ble_eq_true rfl) (Nat.le_of_ble_eq_true rfl) dX2_init_23 (fun q23 => ?_)
  refine l_put G hnm (ty0 := tyX2) F_X2_19 tyX2_ok nmX2 rfl 0 rfl rfl rfl (Nat.le_of_ble_eq_true rfl) dX2_init_25 (ws' := [(b, .inr (4, [.ref q7, .ref q15, .ref q23, .null, .null, .null, .null, .null, vi 0, vi 0])), (q7, .inl (aC 1, (16, .inl (fun _ => (0 : Int32))))), (q15, .inl (aC 0, (24, .inl (fun _ => (0 : Int32))))), (q23, .inl (aC 0, (24, .inl (fun _ => (0 : Int32)))))]) rfl ?_
  refine l_aload_n G dX2_init_28 rfl ?_
  refine l_bipush G dX2_init_29 (by decide) ?_
  refine l_newarr G (ty := .int) (t0 := 0) (N := 24) rfl ac_int rfl ra_int rfl (by decide) rfl (by decide) (Nat.le_of_ble_eq_true rfl) (Nat.le_of_ble_eq_true rfl) dX2_init_31 (fun q31 => ?_)
  refine l_put G hnm (ty0 := tyX2) F_X2_22 tyX2_ok nmX2 rfl 0 rfl rfl rfl (Nat.le_of_ble_eq_true rfl) dX2_init_33 (ws' := [(b, .inr (4, [.ref q7, .ref q15, .ref q23, .ref q31, .null, .null, .null, .null, vi 0, vi 0])), (q7, .inl (aC 1, (16, .inl (fun _ => (0 : Int32))))), (q15, .inl (aC 0, (24, .inl (fun _ => (0 : Int32))))), (q23, .inl (aC 0, (24, .inl (fun _ => (0 : Int32))))), (q31, .inl (aC 0, (24, .inl (fun _ => (0 : Int32)))))]) rfl ?_
  refine l_aload_n G dX2_init_36 rfl ?_
  refine l_bipush G dX2_init_37 (by decide) ?_
  refine l_newarr G (ty := .int) (t0 := 0) (N := 24) rfl ac_int rfl ra_int rfl (by decide) rfl (by decide) (Nat.le_of_ble_eq_true rfl) (Nat.le_of_ble_eq_true rfl) dX2_init_39 (fun q39 => ?_)
  refine l_put G hnm (ty0 := tyX2) F_X2_25 tyX2_ok nmX2 rfl 0 rfl rfl rfl (Nat.le_of_ble_eq_true rfl) dX2_init_41 (ws' := [(b, .inr (4, [.ref q7, .ref q15, .ref q23, .ref q31, .ref q39, .null, .null, .null, vi 0, vi 0])), (q7, .inl (aC 1, (16, .inl (fun _ => (0 : Int32))))), (q15, .inl (aC 0, (24, .inl (fun _ => (0 : Int32))))), (q23, .inl (aC 0, (24, .inl (fun _ => (0 : Int32))))), (q31, .inl (aC 0, (24, .inl (fun _ => (0 : Int32))))), (q39, .inl (aC 0, (24, .inl (fun _ => (0 : Int32)))))]) rfl ?_
  refine l_aload_n G dX2_init_44 rfl ?_
  refine l_new G (ci := 7) (fs := [.null, .null]) (ty := tyX5) rfl inwX5 tyX5_ok cl_X2_28 it_X5 in_X5 (by decide) (Nat.le_of_ble_eq_true rfl) (Nat.le_of_ble_eq_true rfl) dX2_init_45 (fun q45 => ?_)
  refine l_dup G rfl dX2_init_48 ?_
  refine l_ctorI G kL_View ml_X2_30 (k_View1 l) (xrm_ok (by decide) (by decide)) ⟨Nat.le_of_ble_eq_true rfl, Nat.le_of_ble_eq_true rfl⟩ (Nat.le_of_ble_eq_true rfl) dX2_init_49 (fun a1 z1 ha1 pz1 => ?_)
  have wa1 : wd aC a1 sh_View1 z1 = [(q45, .inr (7, [.ref (a1 8), .ref (a1 9)])), (a1 8, .inl (aC 1, (24, .inl (wrow z1 15)))), (a1 9, .inl (aC 0, (256, .inl (wrow z1 64))))] := by rw [← ha1]; rfl
  rw [wa1]
  refine l_put G hnm (ty0 := tyX2) F_X2_31 tyX2_ok nmX2 rfl 0 rfl rfl rfl (Nat.le_of_ble_eq_true rfl) dX2_init_52 (ws' := [(b, .inr (4, [.ref q7, .ref q15, .ref q23, .ref q31, .ref q39, .ref q45, .null, .null, vi 0, vi 0])), (q7, .inl (aC 1, (16, .inl (fun _ => (0 : Int32))))), (q15, .inl (aC 0, (24, .inl (fun _ => (0 : Int32))))), (q23, .inl (aC 0, (24, .inl (fun _ => (0 : Int32))))), (q31, .inl (aC 0, (24, .inl (fun _ => (0 : Int32))))), (q39, .inl (aC 0, (24, .inl (fun _ => (0 : Int32))))), (q45, .inr (7, [.ref (a1 8), .ref (a1 9)])), (a1 8, .inl (aC 1, (24, .inl (wrow z1 15)))), (a1 9, .inl (aC 0, (256, .inl (wrow z1 64))))]) rfl ?_
  refine l_aload_n G dX2_init_55 rfl ?_
  refine l_new G (ci := 7) (fs := [.null, .null]) (ty := tyX5) rfl inwX5 tyX5_ok cl_X2_28 it_X5 in_X5 (by decide) (Nat.le_of_ble_eq_true rfl) (Nat.le_of_ble_eq_true rfl) dX2_init_56 (fun q56 => ?_)
  refine l_dup G rfl dX2_init_59 ?_
  refine l_ctorI G kL_View ml_X2_30 (k_View0 l) (xrm_ok (by decide) (by decide)) ⟨Nat.le_of_ble_eq_true rfl, Nat.le_of_ble_eq_true rfl⟩ (Nat.le_of_ble_eq_true rfl) dX2_init_60 (fun a0 z0 ha0 pz0 => ?_)
  have wa0 : wd aC a0 sh_View0 z0 = [(q56, .inr (7, [.ref (a0 11), .ref (a0 12)])), (a0 11, .inl (aC 1, (24, .inl (wrow z0 16)))), (a0 12, .inl (aC 0, (256, .inl (wrow z0 65))))] := by rw [← ha0]; rfl
  rw [wa0]
  refine l_put G hnm (ty0 := tyX2) F_X2_35 tyX2_ok nmX2 rfl 0 rfl rfl rfl (Nat.le_of_ble_eq_true rfl) dX2_init_63 (ws' := [(b, .inr (4, [.ref q7, .ref q15, .ref q23, .ref q31, .ref q39, .ref q45, .ref q56, .null, vi 0, vi 0])), (q7, .inl (aC 1, (16, .inl (fun _ => (0 : Int32))))), (q15, .inl (aC 0, (24, .inl (fun _ => (0 : Int32))))), (q23, .inl (aC 0, (24, .inl (fun _ => (0 : Int32))))), (q31, .inl (aC 0, (24, .inl (fun _ => (0 : Int32))))), (q39, .inl (aC 0, (24, .inl (fun _ => (0 : Int32))))), (q45, .inr (7, [.ref (a1 8), .ref (a1 9)])), (a1 8, .inl (aC 1, (24, .inl (wrow z1 15)))), (a1 9, .inl (aC 0, (256, .inl (wrow z1 64)))), (q56, .inr (7, [.ref (a0 11), .ref (a0 12)])), (a0 11, .inl (aC 1, (24, .inl (wrow z0 16)))), (a0 12, .inl (aC 0, (256, .inl (wrow z0 65))))]) rfl ?_
  refine l_aload_n G dX2_init_66 rfl ?_
  refine l_sipush G dX2_init_67 (by decide) ?_
  refine l_newarr G (ty := .int) (t0 := 0) (N := 256) rfl ac_int rfl ra_int rfl (by decide) rfl (by decide) (Nat.le_of_ble_eq_true rfl) (Nat.le_of_ble_eq_true rfl) dX2_init_70 (fun q70 => ?_)
  refine l_put G hnm (ty0 := tyX2) F_X2_38 tyX2_ok nmX2 rfl 0 rfl rfl rfl (Nat.le_of_ble_eq_true rfl) dX2_init_72 (ws' := [(b, .inr (4, [.ref q7, .ref q15, .ref q23, .ref q31, .ref q39, .ref q45, .ref q56, .ref q70, vi 0, vi 0])), (q7, .inl (aC 1, (16, .inl (fun _ => (0 : Int32))))), (q15, .inl (aC 0, (24, .inl (fun _ => (0 : Int32))))), (q23, .inl (aC 0, (24, .inl (fun _ => (0 : Int32))))), (q31, .inl (aC 0, (24, .inl (fun _ => (0 : Int32))))), (q39, .inl (aC 0, (24, .inl (fun _ => (0 : Int32))))), (q45, .inr (7, [.ref (a1 8), .ref (a1 9)])), (a1 8, .inl (aC 1, (24, .inl (wrow z1 15)))), (a1 9, .inl (aC 0, (256, .inl (wrow z1 64)))), (q56, .inr (7, [.ref (a0 11), .ref (a0 12)])), (a0 11, .inl (aC 1, (24, .inl (wrow z0 16)))), (a0 12, .inl (aC 0, (256, .inl (wrow z0 65)))), (q70, .inl (aC 0, (256, .inl (fun _ => (0 : Int32)))))]) rfl ?_
  refine l_aload_n G dX2_init_75 rfl ?_
  refine l_iconst G dX2_init_76 ?_
  refine l_put G hnm (ty0 := tyX2) F_X2_41 tyX2_ok nmX2 rfl 0 rfl rfl rfl (Nat.le_of_ble_eq_true rfl) dX2_init_77 (ws' := [(b, .inr (4, [.ref q7, .ref q15, .ref q23, .ref q31, .ref q39, .ref q45, .ref q56, .ref q70, vi 0, vi 0])), (q7, .inl (aC 1, (16, .inl (fun _ => (0 : Int32))))), (q15, .inl (aC 0, (24, .inl (fun _ => (0 : Int32))))), (q23, .inl (aC 0, (24, .inl (fun _ => (0 : Int32))))), (q31, .inl (aC 0, (24, .inl (fun _ => (0 : Int32))))), (q39, .inl (aC 0, (24, .inl (fun _ => (0 : Int32))))), (q45, .inr (7, [.ref (a1 8), .ref (a1 9)])), (a1 8, .inl (aC 1, (24, .inl (wrow z1 15)))), (a1 9, .inl (aC 0, (256, .inl (wrow z1 64)))), (q56, .inr (7, [.ref (a0 11), .ref (a0 12)])), (a0 11, .inl (aC 1, (24, .inl (wrow z0 16)))), (a0 12, .inl (aC 0, (256, .inl (wrow z0 65)))), (q70, .inl (aC 0, (256, .inl (fun _ => (0 : Int32)))))]) rfl ?_
  refine l_aload_n G dX2_init_80 rfl ?_
  refine l_iconst G dX2_init_81 ?_
  refine l_put G hnm (ty0 := tyX2) F_X2_45 tyX2_ok nmX2 rfl 0 rfl rfl rfl (Nat.le_of_ble_eq_true rfl) dX2_init_82 (ws' := [(b, .inr (4, [.ref q7, .ref q15, .ref q23, .ref q31, .ref q39, .ref q45, .ref q56, .ref q70, vi 0, vi 0])), (q7, .inl (aC 1, (16, .inl (fun _ => (0 : Int32))))), (q15, .inl (aC 0, (24, .inl (fun _ => (0 : Int32))))), (q23, .inl (aC 0, (24, .inl (fun _ => (0 : Int32))))), (q31, .inl (aC 0, (24, .inl (fun _ => (0 : Int32))))), (q39, .inl (aC 0, (24, .inl (fun _ => (0 : Int32))))), (q45, .inr (7, [.ref (a1 8), .ref (a1 9)])), (a1 8, .inl (aC 1, (24, .inl (wrow z1 15)))), (a1 9, .inl (aC 0, (256, .inl (wrow z1 64)))), (q56, .inr (7, [.ref (a0 11), .ref (a0 12)])), (a0 11, .inl (aC 1, (24, .inl (wrow z0 16)))), (a0 12, .inl (aC 0, (256, .inl (wrow z0 65)))), (q70, .inl (aC 0, (256, .inl (fun _ => (0 : Int32)))))]) rfl ?_
  obtain ⟨y', ey⟩ : ∃ y' : wZ, y' = fun k => if k = 64 then z1 64 else if k = 65 then z0 65 else zZ k := ⟨_, rfl⟩
  have e64 : y' 64 = z1 64 := by rw [ey]; rfl
  have e65 : y' 65 = z0 65 := by rw [ey]; rfl
  have e66 : y' 66 = zZ 66 := by rw [ey]; rfl
  have r15 : wrow z1 15 = (fun _ => (0 : Int32)) := by unfold wrow; rw [pz1.1 15 (by decide)]; rfl
  have r16 : wrow z0 16 = (fun _ => (0 : Int32)) := by unfold wrow; rw [pz0.1 16 (by decide)]; rfl
  have r64 : wrow z1 64 = wrow (zc z0S y') 64 := by unfold wrow; rw [zc_y (by decide), e64]
  have r65 : wrow z0 65 = wrow (zc z0S y') 65 := by unfold wrow; rw [zc_y (by decide), e65]
  have r66 : wrow (zc z0S y') 66 = (fun _ => (0 : Int32)) := by unfold wrow; rw [zc_y (by decide), e66]; rfl
  have hRy : Rng y' := by
    intro k a
    rw [ey]
    show wlo k ≤ (if k = 64 then z1 64 else if k = 65 then z0 65 else zZ k) a ∧ (if k = 64 then z1 64 else if k = 65 then z0 65 else zZ k) a ≤ whi k
    by_cases c1 : k = 64
    · subst c1; exact pz1.2.1 64 a
    · rw [if_neg c1]
      by_cases c2 : k = 65
      · subst c2; exact pz0.2.1 65 a
      · rw [if_neg c2]; exact zZ_R k a
  refine l_ret2 G (zc z0S y') (fun n => if n = 1 then b else if n = 2 then q7 else if n = 3 then q15 else if n = 4 then q23 else if n = 5 then q31 else if n = 6 then q39 else if n = 7 then q45 else if n = 8 then a1 8 else if n = 9 then a1 9 else if n = 10 then q56 else if n = 11 then a0 11 else if n = 12 then a0 12 else if n = 13 then q70 else 0) ⟨y', rfl, hRy, by rw [e64]; exact pz1.2.2, by rw [e65]; exact pz0.2.2⟩ hr ?_ rfl ⟨Nat.le_of_ble_eq_true rfl, Nat.le_of_ble_eq_true rfl⟩ dX2_init_85
  rw [r15, r16, r64, r65]
  simp only [wd, sh_Net, List.map, wce, wfv, r66]
  rfl
