def kNs (s : State) : Prop := va_Nw (.methodLinkNest RX7 9 yX2_init RX7) s ∧ va_Nw (.methodLinkNest RX7 18 yX0_init RX7) s ∧ va_Nw (.methodLinkNest RX7 32 yX4_init RX7) s ∧ va_Nw (.methodLinkNest RX7 39 yX3_init RX7) s ∧ va_Nw (.methodLinkNest RX7 46 yX1_init RX7) s
theorem kL_Net : kLk yX2_init cX2_init 1 := ⟨im_X2_init, co_X2_init, in_X2, rfl, by decide, by decide +kernel⟩
theorem kL_Boards : kLk yX0_init cX0_init 1 := ⟨im_X0_init, co_X0_init, in_X0, rfl, by decide, by decide +kernel⟩
theorem kL_Walkers : kLk yX6_init cX6_init 2 := ⟨im_X6_init, co_X6_init, in_X6, rfl, by decide, by decide +kernel⟩
theorem kL_Tasks : kLk yX4_init cX4_init 1 := ⟨im_X4_init, co_X4_init, in_X4, rfl, by decide, by decide +kernel⟩
theorem kL_Rangers : kLk yX3_init cX3_init 1 := ⟨im_X3_init, co_X3_init, in_X3, rfl, by decide, by decide +kernel⟩
theorem kL_Maps : kLk yX1_init cX1_init 1 := ⟨im_X1_init, co_X1_init, in_X1, rfl, by decide, by decide +kernel⟩
set_option maxHeartbeats 4000000 in
set_option maxRecDepth 100000 in
theorem k_body (l : Launch) {D : va_G} {aC : Nat → ClassId} (p : Program) (e : Env) (s : State) (m : MethodId) (args : Array Value) (below : List Frame) (meth : Method) (c : Code) (b : Nat) (A : Nat → Prop) (G : wG p s m args meth c cX7_init yX7_init.cls 1 D aC (fun _ => 0) A []) (hr : meth.sig.returnType = none) (hnm : meth.name = yX7_init.name) (hns : kNs s) : JL p l e (rmX 4 34 1786) s m args below meth c 1 D A (MQ below (kQ2 D aC 0 b shC pzN A) args s 34 1786 A) 0 0 [(b, .inr (9, [.null, .null, .null, .null, .null, .null, vi 0]))] 0 [some (.ref b)] [] := by
  refine l_aload_n G dX7_init_0 rfl ?_
  refine l_obj G ml_X7_1 dX7_init_1 im_objectInit co_objectInit ⟨Nat.le_of_ble_eq_true rfl, Nat.le_of_ble_eq_true rfl⟩ ?_
  refine l_aload_n G dX7_init_4 rfl ?_
  refine l_new G (ci := 4) (fs := [.null, .null, .null, .null, .null, .null, .null, .null, vi 0, vi 0]) (ty := tyX2) rfl inwX2 tyX2_ok cl_X7_7 it_X2 in_X2 (by decide) (Nat.le_of_ble_eq_true rfl) (Nat.le_of_ble_eq_true rfl) dX7_init_5 (fun q5 => ?_)
  refine l_dup G rfl dX7_init_8 ?_
  refine l_ctorN G kL_Net hns.1 (k_Net l) (xrm_ok (by decide) (by decide)) ⟨Nat.le_of_ble_eq_true rfl, Nat.le_of_ble_eq_true rfl⟩ (Nat.le_of_ble_eq_true rfl) dX7_init_9 (fun aNet zNet haNet pzNet => ?_)
  refine l_put G hnm (ty0 := tyX7) F_X7_10 tyX7_ok nmX7 rfl 0 rfl rfl rfl (Nat.le_of_ble_eq_true rfl) dX7_init_12 (ws' := [(b, .inr (9, [.ref q5, .null, .null, .null, .null, .null, vi 0]))] ++ wd aC aNet sh_Net zNet) rfl ?_
  refine l_aload_n G dX7_init_15 rfl ?_
  refine l_new G (ci := 2) (fs := [.null, .null, .null, .null, .null, vi 0, vi 0]) (ty := tyX0) rfl inwX0 tyX0_ok cl_X7_16 it_X0 in_X0 (by decide) (Nat.le_of_ble_eq_true rfl) (Nat.le_of_ble_eq_true rfl) dX7_init_16 (fun q16 => ?_)
  refine l_dup G rfl dX7_init_19 ?_
  refine l_ctorN G kL_Boards hns.2.1 (k_Boards l) (xrm_ok (by decide) (by decide)) ⟨Nat.le_of_ble_eq_true rfl, Nat.le_of_ble_eq_true rfl⟩ (Nat.le_of_ble_eq_true rfl) dX7_init_20 (fun aBoards zBoards haBoards pzBoards => ?_)
  refine l_put G hnm (ty0 := tyX7) F_X7_19 tyX7_ok nmX7 rfl 0 rfl rfl rfl (Nat.le_of_ble_eq_true rfl) dX7_init_23 (ws' := [(b, .inr (9, [.ref q5, .ref q16, .null, .null, .null, .null, vi 0]))] ++ wd aC aNet sh_Net zNet ++ wd aC aBoards sh_Boards zBoards) rfl ?_
  refine l_aload_n G dX7_init_26 rfl ?_
  refine l_new G (ci := 8) (fs := [.null, .null]) (ty := tyX6) rfl inwX6 tyX6_ok cl_X7_23 it_X6 in_X6 (by decide) (Nat.le_of_ble_eq_true rfl) (Nat.le_of_ble_eq_true rfl) dX7_init_27 (fun q27 => ?_)
  refine l_dup G rfl dX7_init_30 ?_
  refine l_ctorI G kL_Walkers ml_X7_25 (k_Walkers l) (xrm_ok (by decide) (by decide)) ⟨Nat.le_of_ble_eq_true rfl, Nat.le_of_ble_eq_true rfl⟩ (Nat.le_of_ble_eq_true rfl) dX7_init_31 (fun aWalkers zWalkers haWalkers pzWalkers => ?_)
  refine l_put G hnm (ty0 := tyX7) F_X7_26 tyX7_ok nmX7 rfl 0 rfl rfl rfl (Nat.le_of_ble_eq_true rfl) dX7_init_34 (ws' := [(b, .inr (9, [.ref q5, .ref q16, .ref q27, .null, .null, .null, vi 0]))] ++ wd aC aNet sh_Net zNet ++ wd aC aBoards sh_Boards zBoards ++ wd aC aWalkers sh_Walkers zWalkers) rfl ?_
  refine l_aload_n G dX7_init_37 rfl ?_
  refine l_new G (ci := 6) (fs := [.null, .null, .null, .null, vi 0]) (ty := tyX4) rfl inwX4 tyX4_ok cl_X7_30 it_X4 in_X4 (by decide) (Nat.le_of_ble_eq_true rfl) (Nat.le_of_ble_eq_true rfl) dX7_init_38 (fun q38 => ?_)
  refine l_dup G rfl dX7_init_41 ?_
  refine l_ctorN G kL_Tasks hns.2.2.1 (k_Tasks l) (xrm_ok (by decide) (by decide)) ⟨Nat.le_of_ble_eq_true rfl, Nat.le_of_ble_eq_true rfl⟩ (Nat.le_of_ble_eq_true rfl) dX7_init_42 (fun aTasks zTasks haTasks pzTasks => ?_)
  refine l_put G hnm (ty0 := tyX7) F_X7_33 tyX7_ok nmX7 rfl 0 rfl rfl rfl (Nat.le_of_ble_eq_true rfl) dX7_init_45 (ws' := [(b, .inr (9, [.ref q5, .ref q16, .ref q27, .ref q38, .null, .null, vi 0]))] ++ wd aC aNet sh_Net zNet ++ wd aC aBoards sh_Boards zBoards ++ wd aC aWalkers sh_Walkers zWalkers ++ wd aC aTasks sh_Tasks zTasks) rfl ?_
  refine l_aload_n G dX7_init_48 rfl ?_
  refine l_new G (ci := 5) (fs := [.null, .null, .null, vi 0, vi 0]) (ty := tyX3) rfl inwX3 tyX3_ok cl_X7_37 it_X3 in_X3 (by decide) (Nat.le_of_ble_eq_true rfl) (Nat.le_of_ble_eq_true rfl) dX7_init_49 (fun q49 => ?_)
  refine l_dup G rfl dX7_init_52 ?_
  refine l_ctorN G kL_Rangers hns.2.2.2.1 (k_Rangers l) (xrm_ok (by decide) (by decide)) ⟨Nat.le_of_ble_eq_true rfl, Nat.le_of_ble_eq_true rfl⟩ (Nat.le_of_ble_eq_true rfl) dX7_init_53 (fun aRangers zRangers haRangers pzRangers => ?_)
  refine l_put G hnm (ty0 := tyX7) F_X7_40 tyX7_ok nmX7 rfl 0 rfl rfl rfl (Nat.le_of_ble_eq_true rfl) dX7_init_56 (ws' := [(b, .inr (9, [.ref q5, .ref q16, .ref q27, .ref q38, .ref q49, .null, vi 0]))] ++ wd aC aNet sh_Net zNet ++ wd aC aBoards sh_Boards zBoards ++ wd aC aWalkers sh_Walkers zWalkers ++ wd aC aTasks sh_Tasks zTasks ++ wd aC aRangers sh_Rangers zRangers) rfl ?_
  refine l_aload_n G dX7_init_59 rfl ?_
  refine l_new G (ci := 3) (fs := [.null, .null, vi 0]) (ty := tyX1) rfl inwX1 tyX1_ok cl_X7_44 it_X1 in_X1 (by decide) (Nat.le_of_ble_eq_true rfl) (Nat.le_of_ble_eq_true rfl) dX7_init_60 (fun q60 => ?_)
  refine l_dup G rfl dX7_init_63 ?_
  refine l_ctorN G kL_Maps hns.2.2.2.2 (k_Maps l) (xrm_ok (by decide) (by decide)) ⟨Nat.le_of_ble_eq_true rfl, Nat.le_of_ble_eq_true rfl⟩ (Nat.le_of_ble_eq_true rfl) dX7_init_64 (fun aMaps zMaps haMaps pzMaps => ?_)
  refine l_put G hnm (ty0 := tyX7) F_X7_47 tyX7_ok nmX7 rfl 0 rfl rfl rfl (Nat.le_of_ble_eq_true rfl) dX7_init_67 (ws' := [(b, .inr (9, [.ref q5, .ref q16, .ref q27, .ref q38, .ref q49, .ref q60, vi 0]))] ++ wd aC aNet sh_Net zNet ++ wd aC aBoards sh_Boards zBoards ++ wd aC aWalkers sh_Walkers zWalkers ++ wd aC aTasks sh_Tasks zTasks ++ wd aC aRangers sh_Rangers zRangers ++ wd aC aMaps sh_Maps zMaps) rfl ?_
  refine l_aload_n G dX7_init_70 rfl ?_
  refine l_iconst G dX7_init_71 ?_
  refine l_put G hnm (ty0 := tyX7) F_X7_51 tyX7_ok nmX7 rfl 0 rfl rfl rfl (Nat.le_of_ble_eq_true rfl) dX7_init_72 (ws' := [(b, .inr (9, [.ref q5, .ref q16, .ref q27, .ref q38, .ref q49, .ref q60, vi 0]))] ++ wd aC aNet sh_Net zNet ++ wd aC aBoards sh_Boards zBoards ++ wd aC aWalkers sh_Walkers zWalkers ++ wd aC aTasks sh_Tasks zTasks ++ wd aC aRangers sh_Rangers zRangers ++ wd aC aMaps sh_Maps zMaps) rfl ?_
  obtain ⟨y', hz, hRy, hy1, hy2⟩ := pzNet
  subst pzBoards
  subst pzWalkers
  subst pzTasks
  subst pzRangers
  subst pzMaps
  subst hz
  subst haNet
  subst haBoards
  subst haWalkers
  subst haTasks
  subst haRangers
  subst haMaps
  refine l_ret2 G (zc z0S y') (fun n => if n = 0 then b else if n < 14 then aNet n else if n < 20 then aBoards n else if n < 23 then aWalkers n else if n < 28 then aTasks n else if n < 32 then aRangers n else if n < 35 then aMaps n else 0) ⟨y', rfl, hRy, hy1, hy2⟩ hr ?_ rfl ⟨Nat.le_of_ble_eq_true rfl, Nat.le_of_ble_eq_true rfl⟩ dX7_init_75
  rfl
def kPcN (D : va_G) (aC : Nat → ClassId) (b sz ci : Nat) (fs : List Value) : Array Value → State → Prop := va_Pc [.ref b] (fun U => U.heap.size = sz ∧ b < sz ∧ va_P D vwCl [(b, .inr (ci, fs))] U.heap ∧ va_K D vwCl (wty aC) U ∧ kNs U)
theorem kNs.same {u U : State} (h : u.vm = U.vm) (q : kNs u) : kNs U := ⟨va_tabs rfl h q.1, va_tabs rfl h q.2.1, va_tabs rfl h q.2.2.1, va_tabs rfl h q.2.2.2.1, va_tabs rfl h q.2.2.2.2⟩
theorem kPcN_blind {D : va_G} {aC : Nat → ClassId} {b sz ci : Nat} {fs : List Value} : FrameBlind (kPcN D aC b sz ci fs) := fun a U g mk q => by
  obtain ⟨q0, q1, q2, q3, q4, q5⟩ := q
  exact ⟨q0, q1, q2, q3, va_K.moved (u := U) (U := U.calling g mk a) (Vm.Alike.refl U.vm) q4, kNs.same (u := U) (U := U.calling g mk a) rfl q5⟩
theorem k_Class (l : Launch) {D : va_G} {aC : Nat → ClassId} : ∀ b sz, Met l yX7_init (.code yX7_init cX7_init 1 none :: wALL) (rmX 4 34 1786) (kPcN D aC b sz 9 [.null, .null, .null, .null, .null, .null, vi 0]) (kQ2 D aC 0 b shC pzN (kA b sz)) 34 1786 (kA b sz) := by
  intro b sz
  refine Met.ofW (cc := cX7_init) (maxL := 1) (ret := none) (by decide +kernel) rfl ?_
  intro p e s m args below meth c s₁ B hml hv
  have hex := w_table (S := headSpec (Cond.code yX7_init cX7_init 1 none :: wALL) (rmX 4 34 1786)) B
  obtain ⟨rfl, rfl, hbl, hP, hK, hN⟩ := hv
  have hts := atoms_spec (ws := Cond.code yX7_init cX7_init 1 none :: wALL) B.pre
  have G : wG p s m [Value.ref b].toArray meth c cX7_init yX7_init.cls 1 D aC (fun _ => 0) (kA b s.heap.size) [] := ⟨B.exec, B.bytes, hml, findClass_of_methodNamed B.named, fun w h => hts w (List.mem_cons_of_mem _ h), hK, (fun i j p q hi => by simp at hi), (fun q hq => by simp at hq), fun q h => Or.inr h, B.notSynchronized, hex⟩
  have hD : va_D (kA b s.heap.size) [(b, .inr (9, [.null, .null, .null, .null, .null, .null, vi 0]))] := by
    refine ⟨fun i j p q hi hj _ => ?_, fun k q hq => ?_⟩
    · have h1 := (List.getElem?_eq_some_iff.mp hi).1
      have h2 := (List.getElem?_eq_some_iff.mp hj).1
      simp at h1 h2; omega
    · have h1 := (List.getElem?_eq_some_iff.mp hq).1
      have : k = 0 := by simp at h1; exact h1
      subst this
      cases hq
      exact Or.inl rfl
  have k := k_body l p e s m _ below meth c b _ G B.returns (name_of_methodNamed B.named B.method).1 hN s.heap [] _ hP hD va_S.rf (lvh_entry (vs := [Value.ref b]) (fun v hv => by rcases List.mem_singleton.mp hv with rfl; rfl) (Nat.le_refl _))
  rw [lg_entry_eq]
  exact k

