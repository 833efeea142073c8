def z0S : wZ := fun k a => if k = 6 then 10 else if k = 22 then (if 0 ≤ a ∧ a < 10 then 50 else 0) else 0
theorem ra_int {s : State} (a b : ClassId) (h1 : va_RA s a .int) (h2 : va_RA s b .int) : a = b := Option.some.inj (h1.symm.trans h2)
theorem ra_boolean {s : State} (a b : ClassId) (h1 : va_RA s a .boolean) (h2 : va_RA s b .boolean) : a = b := Option.some.inj (h1.symm.trans h2)
theorem ra_char {s : State} (a b : ClassId) (h1 : va_RA s a .char) (h2 : va_RA s b .char) : a = b := Option.some.inj (h1.symm.trans h2)
def sh_Boards : wSh := [(14, .inl (2, [.inl 15, .inl 16, .inl 17, .inl 18, .inl 19, .inr (2, 0), .inr (6, 0)])), (15, .inr (0, 30, 17)), (16, .inr (0, 30, 18)), (17, .inr (0, 30, 19)), (18, .inr (0, 30, 20)), (19, .inr (1, 30, 21))]
set_option maxHeartbeats 4000000 in
set_option maxRecDepth 100000 in
theorem k_Boards (l : Launch) {D : va_G} {aC : Nat → ClassId} : kM l D aC yX0_init cX0_init 1 (rmX 2 5 150) 2 [.null, .null, .null, .null, .null, vi 0, vi 0] 14 sh_Boards z0S 5 150 := by
  refine k_of (by decide +kernel) (by decide) ?_
  intro p e s m args below meth c b A G hr hnm
  refine l_aload_n G dX0_init_0 rfl ?_
  refine l_obj G ml_X0_3 dX0_init_1 im_objectInit co_objectInit ⟨Nat.le_of_ble_eq_true rfl, Nat.le_of_ble_eq_true rfl⟩ ?_
  refine l_aload_n G dX0_init_4 rfl ?_
  refine l_bipush G dX0_init_5 (by decide) ?_
  refine l_newarr G (ty := .int) (t0 := 0) (N := 30) rfl ac_int rfl ra_int rfl (by decide) rfl (by decide) (Nat.le_of_ble_eq_true rfl) (Nat.le_of_ble_eq_true rfl) dX0_init_7 (fun q7 => ?_)
  refine l_put G hnm (ty0 := tyX0) F_X0_9 tyX0_ok nmX0 rfl 0 rfl rfl rfl (Nat.le_of_ble_eq_true rfl) dX0_init_9 (ws' := [(b, .inr (2, [.ref q7, .null, .null, .null, .null, vi 0, vi 0])), (q7, .inl (aC 0, (30, .inl (fun _ => (0 : Int32)))))]) rfl ?_
  refine l_aload_n G dX0_init_12 rfl ?_
  refine l_bipush G dX0_init_13 (by decide) ?_
  refine l_newarr G (ty := .int) (t0 := 0) (N := 30) rfl ac_int rfl ra_int rfl (by decide) rfl (by decide) (Nat.le_of_ble_eq_true rfl) (Nat.le_of_ble_eq_true rfl) dX0_init_15 (fun q15 => ?_)
  refine l_put G hnm (ty0 := tyX0) F_X0_15 tyX0_ok nmX0 rfl 0 rfl rfl rfl (Nat.le_of_ble_eq_true rfl) dX0_init_17 (ws' := [(b, .inr (2, [.ref q7, .ref q15, .null, .null, .null, vi 0, vi 0])), (q7, .inl (aC 0, (30, .inl (fun _ => (0 : Int32))))), (q15, .inl (aC 0, (30, .inl (fun _ => (0 : Int32)))))]) rfl ?_
  refine l_aload_n G dX0_init_20 rfl ?_
  refine l_bipush G dX0_init_21 (by decide) ?_
  refine l_newarr G (ty := .int) (t0 := 0) (N := 30) rfl ac_int rfl ra_int rfl (by decide) rfl (by decide) (Nat.le_of_ble_eq_true rfl) (Nat.le_of_ble_eq_true rfl) dX0_init_23 (fun q23 => ?_)
  refine l_put G hnm (ty0 := tyX0) F_X0_18 tyX0_ok nmX0 rfl 0 rfl rfl rfl (Nat.le_of_ble_eq_true rfl) dX0_init_25 (ws' := [(b, .inr (2, [.ref q7, .ref q15, .ref q23, .null, .null, vi 0, vi 0])), (q7, .inl (aC 0, (30, .inl (fun _ => (0 : Int32))))), (q15, .inl (aC 0, (30, .inl (fun _ => (0 : Int32))))), (q23, .inl (aC 0, (30, .inl (fun _ => (0 : Int32)))))]) rfl ?_
  refine l_aload_n G dX0_init_28 rfl ?_
  refine l_bipush G dX0_init_29 (by decide) ?_
  refine l_newarr G (ty := .int) (t0 := 0) (N := 30) rfl ac_int rfl ra_int rfl (by decide) rfl (by decide) (Nat.le_of_ble_eq_true rfl) (Nat.le_of_ble_eq_true rfl) dX0_init_31 (fun q31 => ?_)
  refine l_put G hnm (ty0 := tyX0) F_X0_21 tyX0_ok nmX0 rfl 0 rfl rfl rfl (Nat.le_of_ble_eq_true rfl) dX0_init_33 (ws' := [(b, .inr (2, [.ref q7, .ref q15, .ref q23, .ref q31, .null, vi 0, vi 0])), (q7, .inl (aC 0, (30, .inl (fun _ => (0 : Int32))))), (q15, .inl (aC 0, (30, .inl (fun _ => (0 : Int32))))), (q23, .inl (aC 0, (30, .inl (fun _ => (0 : Int32))))), (q31, .inl (aC 0, (30, .inl (fun _ => (0 : Int32)))))]) rfl ?_
  refine l_aload_n G dX0_init_36 rfl ?_
  refine l_bipush G dX0_init_37 (by decide) ?_
  refine l_newarr G (ty := .boolean) (t0 := 1) (N := 30) rfl ac_boolean rfl ra_boolean rfl (by decide) rfl (by decide) (Nat.le_of_ble_eq_true rfl) (Nat.le_of_ble_eq_true rfl) dX0_init_39 (fun q39 => ?_)
  refine l_put G hnm (ty0 := tyX0) F_X0_24 tyX0_ok nmX0 rfl 0 rfl rfl rfl (Nat.le_of_ble_eq_true rfl) dX0_init_41 (ws' := [(b, .inr (2, [.ref q7, .ref q15, .ref q23, .ref q31, .ref q39, vi 0, vi 0])), (q7, .inl (aC 0, (30, .inl (fun _ => (0 : Int32))))), (q15, .inl (aC 0, (30, .inl (fun _ => (0 : Int32))))), (q23, .inl (aC 0, (30, .inl (fun _ => (0 : Int32))))), (q31, .inl (aC 0, (30, .inl (fun _ => (0 : Int32))))), (q39, .inl (aC 1, (30, .inl (fun _ => (0 : Int32)))))]) rfl ?_
  refine l_aload_n G dX0_init_44 rfl ?_
  refine l_iconst G dX0_init_45 ?_
  refine l_put G hnm (ty0 := tyX0) F_X0_28 tyX0_ok nmX0 rfl 0 rfl rfl rfl (Nat.le_of_ble_eq_true rfl) dX0_init_46 (ws' := [(b, .inr (2, [.ref q7, .ref q15, .ref q23, .ref q31, .ref q39, vi 0, vi 0])), (q7, .inl (aC 0, (30, .inl (fun _ => (0 : Int32))))), (q15, .inl (aC 0, (30, .inl (fun _ => (0 : Int32))))), (q23, .inl (aC 0, (30, .inl (fun _ => (0 : Int32))))), (q31, .inl (aC 0, (30, .inl (fun _ => (0 : Int32))))), (q39, .inl (aC 1, (30, .inl (fun _ => (0 : Int32)))))]) rfl ?_
  refine l_aload_n G dX0_init_49 rfl ?_
  refine l_bipush G dX0_init_50 (by decide) ?_
  refine l_put G hnm (ty0 := tyX0) F_X0_32 tyX0_ok nmX0 rfl 0 rfl rfl rfl (Nat.le_of_ble_eq_true rfl) dX0_init_52 (ws' := [(b, .inr (2, [.ref q7, .ref q15, .ref q23, .ref q31, .ref q39, vi 0, vi 10])), (q7, .inl (aC 0, (30, .inl (fun _ => (0 : Int32))))), (q15, .inl (aC 0, (30, .inl (fun _ => (0 : Int32))))), (q23, .inl (aC 0, (30, .inl (fun _ => (0 : Int32))))), (q31, .inl (aC 0, (30, .inl (fun _ => (0 : Int32))))), (q39, .inl (aC 1, (30, .inl (fun _ => (0 : Int32)))))]) rfl ?_
  exact l_ret G (fun n => if n = 14 then b else if n = 15 then q7 else if n = 16 then q15 else if n = 17 then q23 else if n = 18 then q31 else if n = 19 then q39 else 0) hr rfl rfl ⟨Nat.le_of_ble_eq_true rfl, Nat.le_of_ble_eq_true rfl⟩ dX0_init_55
def sh_Maps : wSh := [(32, .inl (3, [.inl 33, .inl 34, .inr (5, 0)])), (33, .inr (1, 240, 30)), (34, .inr (0, 10, 31))]
set_option maxHeartbeats 4000000 in
set_option maxRecDepth 100000 in
theorem k_Maps (l : Launch) {D : va_G} {aC : Nat → ClassId} : kM l D aC yX1_init cX1_init 1 (rmX 2 2 250) 3 [.null, .null, vi 0] 32 sh_Maps z0S 2 250 := by
  refine k_of (by decide +kernel) (by decide) ?_
  intro p e s m args below meth c b A G hr hnm
  refine l_aload_n G dX1_init_0 rfl ?_
  refine l_obj G ml_X1_3 dX1_init_1 im_objectInit co_objectInit ⟨Nat.le_of_ble_eq_true rfl, Nat.le_of_ble_eq_true rfl⟩ ?_
  refine l_aload_n G dX1_init_4 rfl ?_
  refine l_sipush G dX1_init_5 (by decide) ?_
  refine l_newarr G (ty := .boolean) (t0 := 1) (N := 240) rfl ac_boolean rfl ra_boolean rfl (by decide) rfl (by decide) (Nat.le_of_ble_eq_true rfl) (Nat.le_of_ble_eq_true rfl) dX1_init_8 (fun q8 => ?_)
  refine l_put G hnm (ty0 := tyX1) F_X1_9 tyX1_ok nmX1 rfl 0 rfl rfl rfl (Nat.le_of_ble_eq_true rfl) dX1_init_10 (ws' := [(b, .inr (3, [.ref q8, .null, vi 0])), (q8, .inl (aC 1, (240, .inl (fun _ => (0 : Int32)))))]) rfl ?_
  refine l_aload_n G dX1_init_13 rfl ?_
  refine l_bipush G dX1_init_14 (by decide) ?_
  refine l_newarr G (ty := .int) (t0 := 0) (N := 10) rfl ac_int rfl ra_int rfl (by decide) rfl (by decide) (Nat.le_of_ble_eq_true rfl) (Nat.le_of_ble_eq_true rfl) dX1_init_16 (fun q16 => ?_)
  refine l_put G hnm (ty0 := tyX1) F_X1_15 tyX1_ok nmX1 rfl 0 rfl rfl rfl (Nat.le_of_ble_eq_true rfl) dX1_init_18 (ws' := [(b, .inr (3, [.ref q8, .ref q16, vi 0])), (q8, .inl (aC 1, (240, .inl (fun _ => (0 : Int32))))), (q16, .inl (aC 0, (10, .inl (fun _ => (0 : Int32)))))]) rfl ?_
  refine l_aload_n G dX1_init_21 rfl ?_
  refine l_iconst G dX1_init_22 ?_
  refine l_put G hnm (ty0 := tyX1) F_X1_19 tyX1_ok nmX1 rfl 0 rfl rfl rfl (Nat.le_of_ble_eq_true rfl) dX1_init_23 (ws' := [(b, .inr (3, [.ref q8, .ref q16, vi 0])), (q8, .inl (aC 1, (240, .inl (fun _ => (0 : Int32))))), (q16, .inl (aC 0, (10, .inl (fun _ => (0 : Int32)))))]) rfl ?_
  exact l_ret G (fun n => if n = 32 then b else if n = 33 then q8 else if n = 34 then q16 else 0) hr rfl rfl ⟨Nat.le_of_ble_eq_true rfl, Nat.le_of_ble_eq_true rfl⟩ dX1_init_26
def sh_Rangers : wSh := [(28, .inl (5, [.inl 29, .inl 30, .inl 31, .inr (4, 0), .inr (8, 0)])), (29, .inr (0, 4, 27)), (30, .inr (0, 4, 28)), (31, .inr (0, 4, 29))]
set_option maxHeartbeats 4000000 in
set_option maxRecDepth 100000 in
theorem k_Rangers (l : Launch) {D : va_G} {aC : Nat → ClassId} : kM l D aC yX3_init cX3_init 1 (rmX 2 3 12) 5 [.null, .null, .null, vi 0, vi 0] 28 sh_Rangers z0S 3 12 := by
  refine k_of (by decide +kernel) (by decide) ?_
  intro p e s m args below meth c b A G hr hnm
  refine l_aload_n G dX3_init_0 rfl ?_
  refine l_obj G ml_X3_3 dX3_init_1 im_objectInit co_objectInit ⟨Nat.le_of_ble_eq_true rfl, Nat.le_of_ble_eq_true rfl⟩ ?_
  refine l_aload_n G dX3_init_4 rfl ?_
  refine l_iconst G dX3_init_5 ?_
  refine l_newarr G (ty := .int) (t0 := 0) (N := 4) rfl ac_int rfl ra_int rfl (by decide) rfl (by decide) (Nat.le_of_ble_eq_true rfl) (Nat.le_of_ble_eq_true rfl) dX3_init_6 (fun q6 => ?_)
  refine l_put G hnm (ty0 := tyX3) F_X3_9 tyX3_ok nmX3 rfl 0 rfl rfl rfl (Nat.le_of_ble_eq_true rfl) dX3_init_8 (ws' := [(b, .inr (5, [.ref q6, .null, .null, vi 0, vi 0])), (q6, .inl (aC 0, (4, .inl (fun _ => (0 : Int32)))))]) rfl ?_
  refine l_aload_n G dX3_init_11 rfl ?_
  refine l_iconst G dX3_init_12 ?_
  refine l_newarr G (ty := .int) (t0 := 0) (N := 4) rfl ac_int rfl ra_int rfl (by decide) rfl (by decide) (Nat.le_of_ble_eq_true rfl) (Nat.le_of_ble_eq_true rfl) dX3_init_13 (fun q13 => ?_)
  refine l_put G hnm (ty0 := tyX3) F_X3_15 tyX3_ok nmX3 rfl 0 rfl rfl rfl (Nat.le_of_ble_eq_true rfl) dX3_init_15 (ws' := [(b, .inr (5, [.ref q6, .ref q13, .null, vi 0, vi 0])), (q6, .inl (aC 0, (4, .inl (fun _ => (0 : Int32))))), (q13, .inl (aC 0, (4, .inl (fun _ => (0 : Int32)))))]) rfl ?_
  refine l_aload_n G dX3_init_18 rfl ?_
  refine l_iconst G dX3_init_19 ?_
  refine l_newarr G (ty := .int) (t0 := 0) (N := 4) rfl ac_int rfl ra_int rfl (by decide) rfl (by decide) (Nat.le_of_ble_eq_true rfl) (Nat.le_of_ble_eq_true rfl) dX3_init_20 (fun q20 => ?_)
  refine l_put G hnm (ty0 := tyX3) F_X3_18 tyX3_ok nmX3 rfl 0 rfl rfl rfl (Nat.le_of_ble_eq_true rfl) dX3_init_22 (ws' := [(b, .inr (5, [.ref q6, .ref q13, .ref q20, vi 0, vi 0])), (q6, .inl (aC 0, (4, .inl (fun _ => (0 : Int32))))), (q13, .inl (aC 0, (4, .inl (fun _ => (0 : Int32))))), (q20, .inl (aC 0, (4, .inl (fun _ => (0 : Int32)))))]) rfl ?_
  refine l_aload_n G dX3_init_25 rfl ?_
  refine l_iconst G dX3_init_26 ?_
  refine l_put G hnm (ty0 := tyX3) F_X3_21 tyX3_ok nmX3 rfl 0 rfl rfl rfl (Nat.le_of_ble_eq_true rfl) dX3_init_27 (ws' := [(b, .inr (5, [.ref q6, .ref q13, .ref q20, vi 0, vi 0])), (q6, .inl (aC 0, (4, .inl (fun _ => (0 : Int32))))), (q13, .inl (aC 0, (4, .inl (fun _ => (0 : Int32))))), (q20, .inl (aC 0, (4, .inl (fun _ => (0 : Int32)))))]) rfl ?_
  refine l_aload_n G dX3_init_30 rfl ?_
  refine l_iconst G dX3_init_31 ?_
  refine l_put G hnm (ty0 := tyX3) F_X3_25 tyX3_ok nmX3 rfl 0 rfl rfl rfl (Nat.le_of_ble_eq_true rfl) dX3_init_32 (ws' := [(b, .inr (5, [.ref q6, .ref q13, .ref q20, vi 0, vi 0])), (q6, .inl (aC 0, (4, .inl (fun _ => (0 : Int32))))), (q13, .inl (aC 0, (4, .inl (fun _ => (0 : Int32))))), (q20, .inl (aC 0, (4, .inl (fun _ => (0 : Int32)))))]) rfl ?_
  exact l_ret G (fun n => if n = 28 then b else if n = 29 then q6 else if n = 30 then q13 else if n = 31 then q20 else 0) hr rfl rfl ⟨Nat.le_of_ble_eq_true rfl, Nat.le_of_ble_eq_true rfl⟩ dX3_init_35
def sh_Tasks : wSh := [(23, .inl (6, [.inl 24, .inl 25, .inl 26, .inl 27, .inr (3, 0)])), (24, .inr (2, 40, 23)), (25, .inr (0, 40, 24)), (26, .inr (0, 40, 25)), (27, .inr (0, 40, 26))]
set_option maxHeartbeats 4000000 in
set_option maxRecDepth 100000 in
theorem k_Tasks (l : Launch) {D : va_G} {aC : Nat → ClassId} : kM l D aC yX4_init cX4_init 1 (rmX 2 4 160) 6 [.null, .null, .null, .null, vi 0] 23 sh_Tasks z0S 4 160 := by
  refine k_of (by decide +kernel) (by decide) ?_
  intro p e s m args below meth c b A G hr hnm
  refine l_aload_n G dX4_init_0 rfl ?_
  refine l_obj G ml_X4_3 dX4_init_1 im_objectInit co_objectInit ⟨Nat.le_of_ble_eq_true rfl, Nat.le_of_ble_eq_true rfl⟩ ?_
  refine l_aload_n G dX4_init_4 rfl ?_
  refine l_bipush G dX4_init_5 (by decide) ?_
  refine l_newarr G (ty := .char) (t0 := 2) (N := 40) rfl ac_char rfl ra_char rfl (by decide) rfl (by decide) (Nat.le_of_ble_eq_true rfl) (Nat.le_of_ble_eq_true rfl) dX4_init_7 (fun q7 => ?_)
  refine l_put G hnm (ty0 := tyX4) F_X4_9 tyX4_ok nmX4 rfl 0 rfl rfl rfl (Nat.le_of_ble_eq_true rfl) dX4_init_9 (ws' := [(b, .inr (6, [.ref q7, .null, .null, .null, vi 0])), (q7, .inl (aC 2, (40, .inl (fun _ => (0 : Int32)))))]) rfl ?_
  refine l_aload_n G dX4_init_12 rfl ?_
  refine l_bipush G dX4_init_13 (by decide) ?_
  refine l_newarr G (ty := .int) (t0 := 0) (N := 40) rfl ac_int rfl ra_int rfl (by decide) rfl (by decide) (Nat.le_of_ble_eq_true rfl) (Nat.le_of_ble_eq_true rfl) dX4_init_15 (fun q15 => ?_)
  refine l_put G hnm (ty0 := tyX4) F_X4_15 tyX4_ok nmX4 rfl 0 rfl rfl rfl (Nat.le_of_ble_eq_true rfl) dX4_init_17 (ws' := [(b, .inr (6, [.ref q7, .ref q15, .null, .null, vi 0])), (q7, .inl (aC 2, (40, .inl (fun _ => (0 : Int32))))), (q15, .inl (aC 0, (40, .inl (fun _ => (0 : Int32)))))]) rfl ?_
  refine l_aload_n G dX4_init_20 rfl ?_
  refine l_bipush G dX4_init_21 (by decide) ?_
  refine l_newarr G (ty := .int) (t0 := 0) (N := 40) rfl ac_int rfl ra_int rfl (by decide) rfl (by decide) (Nat.le_of_ble_eq_true rfl) (Nat.le_of_ble_eq_true rfl) dX4_init_23 (fun q23 => ?_)
  refine l_put G hnm (ty0 := tyX4) F_X4_19 tyX4_ok nmX4 rfl 0 rfl rfl rfl (Nat.le_of_ble_eq_true rfl) dX4_init_25 (ws' := [(b, .inr (6, [.ref q7, .ref q15, .ref q23, .null, vi 0])), (q7, .inl (aC 2, (40, .inl (fun _ => (0 : Int32))))), (q15, .inl (aC 0, (40, .inl (fun _ => (0 : Int32))))), (q23, .inl (aC 0, (40, .inl (fun _ => (0 : Int32)))))]) rfl ?_
  refine l_aload_n G dX4_init_28 rfl ?_
  refine l_bipush G dX4_init_29 (by decide) ?_
  refine l_newarr G (ty := .int) (t0 := 0) (N := 40) rfl ac_int rfl ra_int rfl (by decide) rfl (by decide) (Nat.le_of_ble_eq_true rfl) (Nat.le_of_ble_eq_true rfl) dX4_init_31 (fun q31 => ?_)
  refine l_put G hnm (ty0 := tyX4) F_X4_22 tyX4_ok nmX4 rfl 0 rfl rfl rfl (Nat.le_of_ble_eq_true rfl) dX4_init_33 (ws' := [(b, .inr (6, [.ref q7, .ref q15, .ref q23, .ref q31, vi 0])), (q7, .inl (aC 2, (40, .inl (fun _ => (0 : Int32))))), (q15, .inl (aC 0, (40, .inl (fun _ => (0 : Int32))))), (q23, .inl (aC 0, (40, .inl (fun _ => (0 : Int32))))), (q31, .inl (aC 0, (40, .inl (fun _ => (0 : Int32)))))]) rfl ?_
  refine l_aload_n G dX4_init_36 rfl ?_
  refine l_iconst G dX4_init_37 ?_
  refine l_put G hnm (ty0 := tyX4) F_X4_25 tyX4_ok nmX4 rfl 0 rfl rfl rfl (Nat.le_of_ble_eq_true rfl) dX4_init_38 (ws' := [(b, .inr (6, [.ref q7, .ref q15, .ref q23, .ref q31, vi 0])), (q7, .inl (aC 2, (40, .inl (fun _ => (0 : Int32))))), (q15, .inl (aC 0, (40, .inl (fun _ => (0 : Int32))))), (q23, .inl (aC 0, (40, .inl (fun _ => (0 : Int32))))), (q31, .inl (aC 0, (40, .inl (fun _ => (0 : Int32)))))]) rfl ?_
  exact l_ret G (fun n => if n = 23 then b else if n = 24 then q7 else if n = 25 then q15 else if n = 26 then q23 else if n = 27 then q31 else 0) hr rfl rfl ⟨Nat.le_of_ble_eq_true rfl, Nat.le_of_ble_eq_true rfl⟩ dX4_init_41
