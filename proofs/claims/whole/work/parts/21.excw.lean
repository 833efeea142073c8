/-! the words of a throw: those that the tables give, and the ones that go by themselves -/
section EXW
def nmR : List String := ["java/lang/RuntimeException", "java/lang/Exception"]
def eISE : String := "java/lang/IllegalStateException"
def eIAE : String := "java/lang/IllegalArgumentException"
def eIOB : String := "java/lang/IndexOutOfBoundsException"
def eNSE : String := "java/util/NoSuchElementException"
def eUOE : String := "java/lang/UnsupportedOperationException"
def eAE : String := "java/lang/ArithmeticException"
def xEs : List String := [eISE, eIAE, eIOB, eNSE, eUOE, eAE]
def xdW (E : String) : List Cond := [.castable E E, .declares ⟨"java/lang/RuntimeException", "<init>", "(Ljava/lang/String;)V"⟩, .declares ⟨"java/lang/Exception", "<init>", "(Ljava/lang/String;)V"⟩, .declares ⟨"java/lang/Throwable", "<init>", "(Ljava/lang/String;)V"⟩]
def xTx : List (Nat × String) := [(60, "no room for a fork"), (289, "no such fork"), (75, "a trail needs two forks"), (304, "minutes out of range"), (84, "no room for a trail"), (292, "no such trail"), (117, "no way"), (123, "no first trail"), (125, "wood out of range"), (130, "a board names another fork that is a place"), (136, "no way, or too long a one"), (140, "no wood"), (146, "no room for a board"), (294, "no such board"), (302, "no such walker"), (195, "no such kind of task to make"), (197, "danger out of range"), (203, "no room for a task"), (296, "no such task"), (231, "the task is open"), (237, "no such tools"), (240, "no room for a ranger"), (298, "no such ranger"), (252, "no day is left"), (258, "no room for a map"), (300, "no such map"), (275, "no trails"), (278, "no boards")]
def wXF (ik ic : Nat) (E : String) : Prop := Bundle.fit E = true ∧ Cond.classLink RX7 ik E ∈ wALL ∧ Cond.initialized E ∈ wALL ∧ (∀ w ∈ (vx_atS RX7 ic E nmR).filter goodWord, w ∈ wALL) ∧ (∀ w ∈ (vx_atS RX7 ic E nmR).filter (fun w => !goodWord w), w ∈ xdW E) ∧ (∀ w ∈ Cond.classLink RX7 ik E :: Cond.initialized E :: vx_atS RX7 ic E nmR, vx_ot w = true) ∧ E ∈ xEs
theorem xg_of {L : List Cond} (h : ∀ w ∈ L.filter goodWord, w ∈ lw_tbl) : ∀ w ∈ L.filter goodWord, w ∈ wALL := fun w hw => List.mem_filter.mpr ⟨h w hw, (List.mem_filter.mp hw).2⟩
/-! 'throw new NoSuchElementException("text")': its constructor links the one above it by its own number, so the bundle's words don't fit it; the walk follows the library's for the others (BundleOwnThrow) -/
def nxB : ByteArray := ⟨#[0x2a, 0x2b, 0xb7, 0x00, 0x0d, 0xb1]⟩
theorem nxB_0 : decode nxB 0 = .ok (.aload_n 0, 1) := by decide +kernel
theorem nxB_1 : decode nxB 1 = .ok (.aload_n 1, 1) := by decide +kernel
theorem nxB_2 : decode nxB 2 = .ok (.invokespecial 13, 3) := by decide +kernel
theorem nxB_5 : decode nxB 5 = .ok (.return_, 1) := by decide +kernel
def eRTE : String := "java/lang/RuntimeException"
def nxW (own : String) (ic : Nat) : List Cond := Bundle.throwableAtoms ++ Bundle.throwableSAtoms ++ (Bundle.passSAtoms eNSE eRTE 13 nxB ++ Bundle.chainSAtoms eRTE ["java/lang/Exception"]) ++
  [.methodLink own ic (Bundle.initS eNSE), .instantiable eNSE 6, .castable eNSE eNSE, .selects eNSE Bundle.tFill0 Bundle.tFill0, .selects eNSE Bundle.tFill Bundle.tFill,
   .lays eNSE Bundle.tN "cause" "Ljava/lang/Throwable;", .lays eNSE Bundle.tN "stackTrace" Bundle.steD, .lays eNSE Bundle.tN "suppressedExceptions" Bundle.listD, .lays eNSE Bundle.tN "detailMessage" "Ljava/lang/String;",
   .isRef (.static Bundle.tN "UNASSIGNED_STACK" Bundle.steD), .isRef (.static Bundle.tN "SUPPRESSED_SENTINEL" Bundle.listD),
   .fieldLink Bundle.tN 198 Bundle.tN "backtrace" "Ljava/lang/Object;", .lays Bundle.tN Bundle.tN "backtrace" "Ljava/lang/Object;", .lays eNSE Bundle.tN "backtrace" "Ljava/lang/Object;"]
def nxAt (own : String) (ic : Nat) : List Cond := (nxW own ic).filter vx_no
set_option maxHeartbeats 4000000 in
theorem nx_ctor {p : Program} {l : Launch} {e : Env} {R : Room} {s : State} {m₀ : MethodId} {args : Array Value} {below : List Frame} {meth : Method} {c : Code} {W : State} {locs : List Loc} {cells slots : Nat}
    (X : Stand p l e R s m₀ args below meth c W locs cells slots) (hexec : p.tables.exec = Jvm.exec) (htr : e.platform.stackTraces = false) {own : String} {ic : Nat}
    (hown : s.vm.findClass own = some m₀.cls) (h : ∀ a ∈ nxW own ic, a.before args s = true)
    (hlocs : ∀ x ∈ locs, ∀ cell, s.heap[x.base]? = some cell → cell.vm.isStatics = false)
    {a : Addr} {cX : ClassId} {kX : Class} (hfoundX : s.vm.findClass eNSE = some cX) (hkX : s.vm.classes[cX]? = some kX) (hcell : W.heap[a]? = some (freshCell cX kX)) (hnew : s.heap.size ≤ a)
    {msg : Value} (hmsg : msg.isRef = true)
    {g : JFrame} (hg : g.method = m₀) (hsize : g.locals.size = c.maxLocals) (hlocked : g.locked = none) (hentered : g.entered = []) {rest : List Value} (hstack : g.stack = msg :: .ref a :: .ref a :: rest)
    (hd6 : decode c.code g.pc = .ok (.invokespecial ic, 3)) (hd9 : decode c.code (g.pc + 3) = .ok (.athrow, 1)) (hout : ∀ x ∈ c.exceptionTable.toList, covers x (g.pc + 3) = false)
    (hRframes : 5 < R.frames) (hRlocals : 2 * g.monitorRoom + ((Value.ref a :: rest).map fun v => v.category).sum + 81 ≤ R.locals) (hlocks : meth.locks = false) :
    ∃ U : State, Steps p.tables e below (W.setTop g) U ∧ U.status = .running ∧ Ended U below (.threw a) ∧ s.WarmedH U.vm ∧ s.sameButNew ({ U with vm := s.vm } : State) locs cells slots ∧
      ∃ ce, U.heap[a]? = some ce ∧ ce.vm = .none ∧ s.vm.findClass eNSE = some ce.cls := by
  have howns : e.platform.frameOwnsMonitors = true := by rw [X.admits.platform]
  have hfin : e.platform.finalization = false := by rw [X.admits.platform]
  have hpl : e.platform.magicAccessors = ({} : Platform).magicAccessors := by rw [X.admits.platform]
  have a' : ∀ x, x ∈ nxW own ic → x.holds args s none s [] = true := fun x hx => h x hx
  obtain ⟨T, Z0, L, -, Y⟩ := ThrowableC.of_atoms (args := args) howns hfin hpl (fun x hx => h x (by simp [nxW, hx]))
  obtain ⟨Z, M, LZ, LM, hnZ⟩ := Init0T.ofS_atoms (args := args) hpl L Y (fun x hx => h x (by simp [nxW, hx]))
  obtain ⟨P1, L1, hP1m, hP1s⟩ := PassC.ofS_atoms (args := args) (s := s) hpl (X := eNSE) (Y := eRTE) (by decide +kernel) (by decide +kernel) nxB_0 nxB_1 nxB_2 nxB_5 (fun x hx => h x (by simp [nxW, hx]))
  obtain ⟨P2, Ps, hlen, L2, hL, hP2m, hsup2, hpass2⟩ := Bundle.chainS (args := args) hpl hnZ ["java/lang/Exception"] eRTE (by decide +kernel) (by decide +kernel) (fun x hx => h x (by simp [nxW, hx]))
  have hlink1 : P1.sup = P2.m := Option.some.inj (hP1s.symm.trans hP2m)
  have hfound : s.vm.findClass eNSE = some P1.m.cls := findClass_of_methodNamed hP1m
  cases Option.some.inj (hfoundX.symm.trans hfound)
  obtain ⟨c1, kX', hc1, hk, hord, -, -, hn6⟩ := Cond.instantiable_spec (a' (.instantiable eNSE 6) (by simp [nxW]))
  cases Option.some.inj (hc1.symm.trans hfound)
  cases Option.some.inj (hkX.symm.trans hk)
  have hsel0 : selectMethod e.platform s.vm P1.m.cls T.fill0 = .method T.fill0 := by
    obtain ⟨c2, r2, m2, q1, q2, q3, q4, -⟩ := Cond.selects_spec (a' (.selects eNSE Bundle.tFill0 Bundle.tFill0) (by simp [nxW]))
    cases Option.some.inj (q1.symm.trans hfound)
    cases Option.some.inj (q2.symm.trans (State.methodFound?_of_named Y.fill0 (by decide)))
    cases Option.some.inj (q3.symm.trans Y.fill0)
    rw [Launch.admits_selectMethod X.admits]; exact q4
  have hselF : selectMethod e.platform s.vm P1.m.cls T.fill = .method T.fill := by
    obtain ⟨c2, r2, m2, q1, q2, q3, q4, -⟩ := Cond.selects_spec (a' (.selects eNSE Bundle.tFill Bundle.tFill) (by simp [nxW]))
    cases Option.some.inj (q1.symm.trans hfound)
    cases Option.some.inj (q2.symm.trans (State.methodFound?_of_named Y.fill (by decide)))
    cases Option.some.inj (q3.symm.trans Y.fill)
    rw [Launch.admits_selectMethod X.admits]; exact q4
  obtain ⟨cellS0, hcS0, hiss⟩ := Y.statics
  obtain ⟨u0, hu0⟩ := Cond.staticRefV Y.unassigned L.unassignedStatic L.statics hcS0 hiss (a' (.isRef (.static Bundle.tN "UNASSIGNED_STACK" Bundle.steD)) (by simp [nxW]))
  obtain ⟨sen, hsen⟩ := Cond.staticRefV Y.sentinel L.sentinelStatic L.statics hcS0 hiss (a' (.isRef (.static Bundle.tN "SUPPRESSED_SENTINEL" Bundle.listD)) (by simp [nxW]))
  obtain ⟨ci198, i198, fB, hk198, hg198, ha198, hsB, -, hnB, htB, hffB⟩ := Cond.ownField (t := .object "java/lang/Object") Y.found L.cls (by decide +kernel) (a' (.fieldLink Bundle.tN 198 Bundle.tN "backtrace" "Ljava/lang/Object;") (by simp [nxW])) (a' (.lays Bundle.tN Bundle.tN "backtrace" "Ljava/lang/Object;") (by simp [nxW])) e.platform hpl
  obtain ⟨cellS, hcS', heS, -, hkeep⟩ := X.same.2.2.2.2.2 T.aS cellS0 hcS0
  have hcellS : W.heap[T.aS]? = some cellS := hcS'
  have hout' : ∀ i, (⟨T.aS, i⟩ : Loc) ∉ locs := fun i hmem => by
    have := hlocs _ hmem cellS0 hcS0
    rw [hiss] at this; cases this
  have hknownS : cellS.vm ≠ .unknown := by
    rw [heS]; intro hu
    rw [show cellS0.vm = .unknown from hu] at hiss
    cases hiss
  have hneS : T.aS ≠ a := Nat.ne_of_lt (Nat.lt_of_lt_of_le (Array.getElem?_eq_some_iff.mp hcS0).1 hnew)
  obtain ⟨iM, hffM⟩ := Y.msg
  obtain ⟨tyC, dC, hdC, hdnC⟩ := Cond.laysAt hfound hk Y.cause (a' (.lays eNSE Bundle.tN "cause" "Ljava/lang/Throwable;") (by simp [nxW]))
  obtain ⟨tyS, dS, hdS, hdnS⟩ := Cond.laysAt hfound hk Y.stack (a' (.lays eNSE Bundle.tN "stackTrace" Bundle.steD) (by simp [nxW]))
  obtain ⟨tyP, dP, hdP, hdnP⟩ := Cond.laysAt hfound hk Y.supp (a' (.lays eNSE Bundle.tN "suppressedExceptions" Bundle.listD) (by simp [nxW]))
  obtain ⟨tyM, dM, hdM, hdnM⟩ := Cond.laysAt hfound hk hffM (a' (.lays eNSE Bundle.tN "detailMessage" "Ljava/lang/String;") (by simp [nxW]))
  obtain ⟨tyB, dB, hdB, hdnB⟩ := Cond.laysAt hfound hk hffB (a' (.lays eNSE Bundle.tN "backtrace" "Ljava/lang/Object;") (by simp [nxW]))
  have bC := Cond.laysApart hdB hdC hdnB hdnC (by rw [hnB, Y.causeName]; decide)
  have bS := Cond.laysApart hdB hdS hdnB hdnS (by rw [hnB, Y.stackName]; decide)
  have bP := Cond.laysApart hdB hdP hdnB hdnP (by rw [hnB, Y.suppName]; decide)
  have hskip : SkipFacts T e.platform s (fun u => u) u0 ((preparedCellV T.toThrowableT (freshCell P1.m.cls kX) a u0 sen).withEntry W.cur) :=
    ⟨{ ci198 := ci198, i198 := i198, fBack := fB }, ⟨hk198, hg198, ha198, hsB⟩, by
      have := fresh_default (c := P1.m.cls) tyB
      rw [htB] at this
      simpa [preparedCellV, Cell.setSlot, Cell.withEntry, Array.getElem?_setIfInBounds, bC, bS, bP, bC.symm, bS.symm, bP.symm, defaultValue] using this, fun _ _ => rfl⟩
  obtain ⟨tm, methC, cdC, kC, vm₁, hnC, -, -, -, -, -, -, -, hW₁, st1⟩ := Steps.initColdS (tb := p.tables) (e := e) (below := below) (s := s) (U := W) X.here hexec X.warmed hpl hown (t := Bundle.initS eNSE) rfl rfl (by decide +kernel)
    (a' (.methodLink own ic (Bundle.initS eNSE)) (by simp [nxW])) (h (.instanceMethod (Bundle.initS eNSE)) (by simp [nxW, Bundle.passSAtoms])) (bytes := nxB) (maxL := 2) (h (.code (Bundle.initS eNSE) nxB 2 none) (by simp [nxW, Bundle.passSAtoms]))
    (f := g) hg (a := a) (msg := msg) (rest := .ref a :: rest) hstack hd6
  cases Option.some.inj (hnC.symm.trans hP1m)
  have X₁ := X.noted hW₁
  obtain ⟨vm₂, X₂, st2⟩ := X₁.ctorMessageOffV hexec (g := { g with stack := .ref a :: rest }) hg hsize T L Z LZ M LM (P1 :: P2 :: Ps)
    (fun P hP => by
      rcases List.mem_cons.mp hP with rfl | hP
      · exact L1
      · rcases List.mem_cons.mp hP with rfl | hP
        · exact L2
        · exact hL P hP) ⟨hlink1, hsup2, hpass2⟩ (u0 := u0) (sen := sen) (self := a) hmsg (cell := freshCell P1.m.cls kX) (cellS := cellS)
    hcell (fun _ => by simp) (by simp) rfl rfl hsel0 hselF hcellS hneS hknownS (by rw [hkeep _ (hout' _)]; exact hu0) (by rw [hkeep _ (hout' _)]; exact hsen)
    (Takes.of_laid hk hord tyC (by rw [Y.causeType]; rfl)) (Takes.of_laid hk hord tyS (by rw [Y.stackType]; exact fits_refV_array _ u0)) (Takes.of_laid hk hord tyP (by rw [Y.suppType]; exact fits_refV_object _ sen))
    (Takes.of_laid hk hord tyM (by rw [Y.msgType]; exact fits_refV_object _ ⟨msg, hmsg⟩)) Y.objLocals hskip htr [] hd6
    (by simp only [List.length_cons, hlen]; simp; omega) (by simp only [List.length_cons, hlen]; simp only [List.length_nil]; omega)
  obtain ⟨hwalk, hrun, hended, hWU, hsame⟩ := X₂.athrowLeaves hexec (g := { g with stack := .ref a :: rest, pc := g.pc + 3 }) hg hlocked hentered hout (a := a) (rest := rest) rfl hd9
  have hlt : a < ((W.setVm vm₁).setVm vm₂).heap.size := (Array.getElem?_eq_some_iff.mp hcell).1
  have hU := heapAt_setCell_self (s := (W.setVm vm₁).setVm vm₂) (plainBareV T.toThrowableT (freshCell P1.m.cls kX) a u0 sen msg) hlt
  refine ⟨_, st1 _ (fun acts => ?_), hrun, hended, hWU, hsame.weaken (fun y hy hlt' => ?_) (Nat.le_refl _) (Nat.le_refl _), _, hU, rfl, hfound⟩
  · rw [doInvoke_state]
    exact st2 _ hwalk
  · rcases List.mem_append.mp hy with h1 | h1
    · exact h1
    · exfalso
      have hb : y.base = a := by
        simp only [List.mem_cons, List.not_mem_nil, or_false] at h1
        rcases h1 with rfl | rfl | rfl | rfl | rfl <;> rfl
      rw [hb] at hlt'
      exact Nat.not_lt.mpr hnew hlt'
def nxOt : List Cond := nxW RX7 119
theorem nx_throwS {p : Program} {l : Launch} {e : Env} {R : Room} {s : State} {m : MethodId} {args : Array Value} {below : List Frame} {meth : Method} {c : Code} {H : Heap} {locs : List Loc} {cells slots : Nat} {ls : Array Slot} {rest : List Value} {free : Nat → Prop} {XC : String → State → State → Prop} {Qc : Array Value → State → Outcome → State → Prop}
    {cc : ByteArray} {pc : Nat} (hexec : p.tables.exec = Jvm.exec) (hb : c.code = cc) (hl : l.stackTraces = false) {own text : String} {ik is ic mc ms sa : Nat} {A : Nat → Prop}
    (hown : s.vm.findClass own = some m.cls)
    (hk : (Cond.classLink own ik eNSE).before args s = true) (hini : (Cond.initialized eNSE).before args s = true) (hstr : vk_R own is text sa s) (hat : ∀ w ∈ nxAt own ic, w.before args s = true)
    (hgood : ∀ w ∈ Cond.classLink own ik eNSE :: Cond.initialized eNSE :: nxAt own ic, vx_ot w = true)
    (hU : vx_Zq Bundle.tN "UNASSIGNED_STACK" Bundle.steD A s s.heap) (hN : vx_Zq Bundle.tN "SUPPRESSED_SENTINEL" Bundle.listD A s s.heap) (hS : va_S A s.heap H locs) (hsize : ls.size = c.maxLocals)
    (d0 : decode cc pc = .ok (.new ik, 3)) (d3 : decode cc (pc + 3) = .ok (.dup, 1)) (d4 : decode cc (pc + 4) = .ok (.ldc is, 2)) (d6 : decode cc (pc + 6) = .ok (.invokespecial ic, 3)) (d9 : decode cc (pc + 9) = .ok (.athrow, 1))
    (hout : ∀ x ∈ c.exceptionTable.toList, covers x (pc + 9) = false)
    (hRframes : 5 < R.frames) (hRlocals : (rest.map fun v => v.category).sum + 82 ≤ R.locals) (hRcells : cells + 1 ≤ R.cells) (hRslots : slots + 6 ≤ R.slots) (hlocks : meth.locks = false)
    (hx : ∀ t : State, s.vm.Alike t.vm → H.size ≤ t.heap.size → (∀ q : Nat, q < H.size → t.heap[q]? = H[q]?) → XC eNSE s t)
    (hf : ∀ z ∈ locs, free z.base) (hc : cells + 1 ≤ mc) (hs : slots + 6 ≤ ms) :
    W p l e R s m args below meth c H locs cells slots (vx_MQ below Qc XC args s mc ms free) (F0 m pc ls rest) := by
  intro T hT X
  have htr : e.platform.stackTraces = false := (show e.platform.stackTraces = l.stackTraces by rw [X.admits.platform]).trans hl
  have Y := vx_rebase X (R' := { frames := R.frames, locals := R.locals, cells := 1, slots := 6 }) (Nat.le_refl _) (Nat.le_refl _) hRcells hRslots
  obtain ⟨s', hA⟩ : ∃ z, z = (T.setVm s.vm).setFrames (.invoking m args :: below) := ⟨_, rfl⟩
  rw [← hA] at Y
  have hvm : s'.vm = s.vm := by rw [hA]; rfl
  have hhp : s'.heap = H := by rw [hA]; exact hT
  have hW0 : s.WarmedH s'.vm := by rw [hvm]; exact State.WarmedH.refl s
  have hat' : ∀ w ∈ nxAt own ic, w.before args s' = true := fun w hw => vx_ot_at hW0 hvm.symm (hgood w (List.mem_cons_of_mem _ (List.mem_cons_of_mem _ hw))) (hat w hw)
  have hk' : (Cond.classLink own ik eNSE).before args s' = true := vx_ot_at hW0 hvm.symm (hgood _ List.mem_cons_self) hk
  have hini' : (Cond.initialized eNSE).before args s' = true := vx_ot_at hW0 hvm.symm (hgood _ (List.mem_cons_of_mem _ List.mem_cons_self)) hini
  have hU' : vx_Zq Bundle.tN "UNASSIGNED_STACK" Bundle.steD A s' s'.heap := by rw [hhp]; exact vx_Zq.moved hW0.alike (hU.kept hS.2.1)
  have hN' : vx_Zq Bundle.tN "SUPPRESSED_SENTINEL" Bundle.listD A s' s'.heap := by rw [hhp]; exact vx_Zq.moved hW0.alike (hN.kept hS.2.1)
  have h : ∀ w ∈ nxW own ic, w.before args s' = true := vx_own hat' (vx_isRefq hU'.1) (vx_isRefq hN'.1) hU'.2.word hN'.2.word
  have hown' : s'.vm.findClass own = some m.cls := by rw [hvm]; exact hown
  have hins : (Cond.instantiable eNSE 6).before args s' = true := h _ (by simp [nxW])
  obtain ⟨vm₁, cX, kX, hfX, hkX, -, -, X₁, st1⟩ := Y.newCold hexec (own := own) (C := eNSE) (index := ik) (n := 6) hown' hk' hins hini'
    (g := F0 m pc ls rest) rfl (by rw [hb]; exact d0) (Nat.le_refl _) (Nat.le_refl _)
  generalize hT1 : (T.setVm vm₁).pushCell { cls := cX, slots := kX.instanceTypes.map defaultValue, vm := .none } = T1 at X₁ st1
  have hcat : (Value.ref T.heap.size).category = 1 := rfl
  have hcellA : T1.heap[T.heap.size]? = some (freshCell cX kX) := by rw [← hT1]; exact State.heap_pushCell_size _ _
  have d3' : decode c.code (pc + 3) = .ok (.dup, 1) := by rw [hb]; exact d3
  have d4' : decode c.code (pc + 4) = .ok (.ldc is, 2) := by rw [hb]; exact d4
  have hstr' : vk_R own is text sa s' := vk_R.warm hW0 hstr
  obtain ⟨U, hsteps, hrun, hend, hW, hsame, ce, hce, hOv, hOc⟩ := nx_ctor X₁ hexec htr (own := own) (ic := ic) hown' h (fun x hx => nomatch hx) hfX hkX hcellA (by rw [hhp, hT]; exact Nat.le_refl _) (msg := .ref sa) rfl
    (g := { method := m, pc := pc + 6, locals := ls, stack := .ref sa :: .ref T.heap.size :: .ref T.heap.size :: rest, locked := none }) rfl hsize rfl rfl (rest := rest) rfl
    (by rw [hb]; exact d6) (by rw [hb]; exact d9) hout hRframes (by simp only [List.map_cons, List.sum_cons, hcat]; show 2 * 0 + _ + 81 ≤ _; omega) hlocks
  obtain ⟨f1, f2⟩ := vx_frame hsame
  rw [hhp] at f1 f2
  have hWs : s.WarmedH U.vm := State.WarmedH.trans hW0 hW
  have hcl : s.vm.findClass eNSE = some ce.cls := by
    have h9 := hOc
    rw [hvm] at h9
    exact h9
  have hall : s.sameButNew ({ U with vm := s.vm } : State) locs mc ms := by
    subst hA
    obtain ⟨e1, e2⟩ := hsame
    rw [State.setFrames_setFrames] at e1
    have h2 : (T.setVm s.vm).sameButNew ({ U with vm := s.vm } : State) [] (0 + 1) (0 + 6) := ⟨e1, e2⟩
    have h3 := X.same.trans h2
    rw [List.append_nil] at h3
    exact h3.mono hc hs
  refine ⟨U, ?_, .threw T.heap.size, hrun, hend, Or.inr ⟨T.heap.size, rfl, eNSE, ce, locs, hx U hWs.alike f1 (fun q hq => f2 q hq (fun z hz => nomatch hz)), hce, hOv, hcl, hWs, hall, hf⟩⟩
  refine st1 _ ?_
  show Steps p.tables e below (T1.setTop { method := m, pc := pc + 3, locals := ls, stack := .ref T.heap.size :: rest, locked := none }) _
  jvm_step X₁.here [X₁.here.top, hexec, d3', Value.category]
  exact X₁.ldcString hexec (own := own) (text := text) (index := is) (a := sa) hown' hstr'.1 hstr'.2
    (g := { method := m, pc := pc + 4, locals := ls, stack := .ref T.heap.size :: .ref T.heap.size :: rest, locked := none }) rfl d4' _ hsteps
def nXF : Prop := Cond.classLink RX7 115 eNSE ∈ wALL ∧ Cond.initialized eNSE ∈ wALL ∧ (∀ w ∈ (nxAt RX7 119).filter goodWord, w ∈ wALL) ∧ (∀ w ∈ (nxAt RX7 119).filter (fun w => !goodWord w), w ∈ xdW eNSE) ∧ (∀ w ∈ Cond.classLink RX7 115 eNSE :: Cond.initialized eNSE :: nxAt RX7 119, vx_ot w = true)
theorem xd_NSE : ∀ w ∈ xdW eNSE, w ∈ lw_tbl := by decide +kernel
theorem XF_NSE : nXF := ⟨cl_X7_115, in_java_util_NoSuchElementException, xg_of (by decide +kernel), by decide +kernel, by decide +kernel⟩

theorem xd_ISE : ∀ w ∈ xdW eISE, w ∈ lw_tbl := by decide +kernel
theorem XF_ISE : wXF 58 62 eISE := ⟨by decide +kernel, cl_X7_58, in_java_lang_IllegalStateException, xg_of (by decide +kernel), by decide +kernel, by decide +kernel, by decide +kernel⟩
theorem xd_IAE : ∀ w ∈ xdW eIAE, w ∈ lw_tbl := by decide +kernel
theorem XF_IAE : wXF 73 77 eIAE := ⟨by decide +kernel, cl_X7_73, in_java_lang_IllegalArgumentException, xg_of (by decide +kernel), by decide +kernel, by decide +kernel, by decide +kernel⟩
theorem xd_IOB : ∀ w ∈ xdW eIOB, w ∈ lw_tbl := by decide +kernel
theorem XF_IOB : wXF 287 291 eIOB := ⟨by decide +kernel, cl_X7_287, in_java_lang_IndexOutOfBoundsException, xg_of (by decide +kernel), by decide +kernel, by decide +kernel, by decide +kernel⟩
theorem xd_UOE : ∀ w ∈ xdW eUOE, w ∈ lw_tbl := by decide +kernel
theorem XF_UOE : wXF 138 142 eUOE := ⟨by decide +kernel, cl_X7_138, in_java_lang_UnsupportedOperationException, xg_of (by decide +kernel), by decide +kernel, by decide +kernel, by decide +kernel⟩
theorem xd_AE : ∀ w ∈ xdW eAE, w ∈ lw_tbl := by decide +kernel
theorem XF_AE : wXF 273 277 eAE := ⟨by decide +kernel, cl_X7_273, in_java_lang_ArithmeticException, xg_of (by decide +kernel), by decide +kernel, by decide +kernel, by decide +kernel⟩
/-- what a method that may throw is given beside its world -/
def wXw (s : State) : Prop := ∀ E, E ∈ xEs → ∀ w, w ∈ xdW E → va_Nw w s
theorem wXw.warm {s U : State} (hW : s.WarmedH U.vm) (h : wXw s) : wXw U := by
  intro E hE w hw
  have h1 := h E hE w hw
  simp only [xdW, List.mem_cons, List.not_mem_nil, or_false] at hw
  rcases hw with rfl | rfl | rfl | rfl
  · exact va_Nw.warmC hW h1
  · exact va_Nw.warmD hW h1
  · exact va_Nw.warmD hW h1
  · exact va_Nw.warmD hW h1
def wTh (A : Nat → Prop) (s : State) (H : Heap) : Prop := vx_Zq Bundle.tN "UNASSIGNED_STACK" Bundle.steD A s H ∧ vx_Zq Bundle.tN "SUPPRESSED_SENTINEL" Bundle.listD A s H ∧ wXw s ∧ ∀ q, q ∈ xTx → ∃ a, vk_R RX7 q.1 q.2 a s
theorem wTh.go {A B : Nat → Prop} {s U : State} {H : Heap} (hW : s.WarmedH U.vm) (h : wTh A s s.heap) (hk : ∀ q : Nat, q < s.heap.size → ¬ A q → H[q]? = s.heap[q]?) (hAB : ∀ q, B q → A q) : wTh B U H :=
  ⟨vx_Zq.narrow (vx_Zq.moved hW.alike (h.1.kept hk)) hAB, vx_Zq.narrow (vx_Zq.moved hW.alike (h.2.1.kept hk)) hAB, h.2.2.1.warm hW, fun q hq => by
    obtain ⟨a, ha⟩ := h.2.2.2 q hq
    exact ⟨a, vk_R.warm hW ha⟩⟩
variable {p : Program} {l : Launch} {e : Env} {R : Room} {s : State} {m : MethodId} {args : Array Value} {below : List Frame} {meth : Method} {c : Code} {cc : ByteArray} {own : String} {nL : Nat} {D : va_G} {aC : Nat → ClassId} {ad : Nat → Nat} {A : Nat → Prop} {sh : wSh} {Q : State → Prop} {cells slots : Nat} {z y : wZ} {pc : Nat} {L : List (Option Value)} {st : List Value} {mc ms : Nat}
def xX (D : va_G) (aC : Nat → ClassId) (ad : Nat → Nat) (sh : wSh) (z : wZ) (thr : String → Prop) (A : Nat → Prop) : String → State → State → Prop := vx_X (fun _ : Unit => True) (fun E _ t => thr E ∧ wB D aC ad sh z t) A
def xPc (D : va_G) (aC : Nat → ClassId) (ad : Nat → Nat) (sh : wSh) (av : List Value) (z : wZ) (sz : Nat) : Array Value → State → Prop := va_Pc av (fun U => U.heap.size = sz ∧ wB D aC ad sh z U ∧ wTh (wAd ad sh sz) U U.heap)
theorem xPc_blind {av : List Value} {sz : Nat} : FrameBlind (xPc D aC ad sh av z sz) := fun a U g mk q => by
  obtain ⟨q0, q1, q2, q3⟩ := q
  refine ⟨q0, q1, q2.moved (U := U.calling g mk a) rfl (Vm.Alike.refl U.vm), ?_⟩
  obtain ⟨t1, t2, t3, t4⟩ := q3
  exact ⟨vx_Zq.moved (u := U) (U := U.calling g mk a) (Vm.Alike.refl U.vm) t1, vx_Zq.moved (u := U) (U := U.calling g mk a) (Vm.Alike.refl U.vm) t2, fun E hE w hw => va_tabs (by
    simp only [xdW, List.mem_cons, List.not_mem_nil, or_false] at hw
    rcases hw with rfl | rfl | rfl | rfl <;> rfl) (rfl : U.vm = (U.calling g mk a).vm) (t3 E hE w hw), fun q hq => by
    obtain ⟨x, hx⟩ := t4 q hq
    exact ⟨x, vk_R.same (u := U) (U := U.calling g mk a) rfl hx⟩⟩
def xMi (l : Launch) (D : va_G) (aC : Nat → ClassId) (ad : Nat → Nat) (sh : wSh) (y0 : MethodName) (b : ByteArray) (n : Nat) (ret : FieldType) (rm : Room) (av : List Value) (z y : wZ) (post : Int → wZ → wZ → Prop) (thr : String → Prop) (mc ms : Nat) : Prop :=
  ∀ sz, vx_Met l y0 (.code y0 b n (some ret) :: wALL) rm (xPc D aC ad sh av (zc z y) sz) (cQi D aC ad sh post (wAd ad sh sz)) (xX D aC ad sh (zc z y) thr (wAd ad sh sz)) mc ms (wAd ad sh sz)
def xMv (l : Launch) (D : va_G) (aC : Nat → ClassId) (ad : Nat → Nat) (sh : wSh) (y0 : MethodName) (b : ByteArray) (n : Nat) (rm : Room) (av : List Value) (z y : wZ) (post : wZ → wZ → Prop) (thr : String → Prop) (mc ms : Nat) : Prop :=
  ∀ sz, vx_Met l y0 (.code y0 b n none :: wALL) rm (xPc D aC ad sh av (zc z y) sz) (cQv D aC ad sh post (wAd ad sh sz)) (xX D aC ad sh (zc z y) thr (wAd ad sh sz)) mc ms (wAd ad sh sz)
def rmX (n mc ms : Nat) : Room := { frames := n, cells := mc, slots := ms, locals := 40 + 40 * n }
theorem rm_okX {a b n mc ms : Nat} (h : a + 1 ≤ b) (hn : n ≤ 20) : wRm (rmL a) (rmX b mc ms) n := ⟨rfl, rfl, h, by show 8 + (n + 11) + (40 + 40 * a) ≤ 40 + 40 * b; omega⟩
theorem x_i {y0 : MethodName} {n : Nat} {b : ByteArray} {ret : FieldType} {rm : Room} {av : List Value} {post : Int → wZ → wZ → Prop} {thr : String → Prop} (L0 : List (Option Value)) (hy : plainName y0.cls = true) (hcat : av.all (fun v => v.category == 1) = true) (hn : av.length ≤ n) (hL0 : av.map some ++ List.replicate (n - av.length) none = L0) (hd : wDi ad sh)
    (body : ∀ (p : Program) (e : Env) (s : State) (m : MethodId) (args : Array Value) (below : List Frame) (meth : Method) (c : Code) (A : Nat → Prop), wG p s m args meth c b y0.cls n D aC ad A sh → meth.sig.returnType = some ret → wTh A s s.heap → JW p l e rm s m args below meth c n D aC ad A sh (vx_MQ below (cQi D aC ad sh post A) (xX D aC ad sh (zc z y) thr A) args s mc ms A) 0 0 (zc z y) 0 L0 []) : xMi l D aC ad sh y0 b n ret rm av z y post thr mc ms := by
  intro sz
  refine vx_ofW (cc := b) (maxL := n) (ret := some ret) hy rfl ?_
  intro p e s m args below meth c s₁ B hml hex hv
  obtain ⟨rfl, rfl, ⟨hP, hK⟩, hT⟩ := hv
  have hts := atoms_spec (ws := Cond.code y0 b n (some ret) :: wALL) B.pre
  have G : wG p s m av.toArray meth c b y0.cls n D aC ad (wAd ad sh s.heap.size) sh := ⟨B.exec, B.bytes, hml, findClass_of_methodNamed B.named, fun w h => hts w (List.mem_cons_of_mem _ h), hK, hd, fun q hq => Or.inl ⟨q, hq, rfl⟩, fun q h => Or.inr h, B.notSynchronized, hex⟩
  have k := body p e s m _ below meth c _ G B.returns hT s.heap [] _ hP va_S.rf (hL0 ▸ lvh_entry (cat_all hcat) hn)
  rw [lg_entry_eq]
  exact k
theorem x_v {y0 : MethodName} {n : Nat} {b : ByteArray} {rm : Room} {av : List Value} {post : wZ → wZ → Prop} {thr : String → Prop} (L0 : List (Option Value)) (hy : plainName y0.cls = true) (hcat : av.all (fun v => v.category == 1) = true) (hn : av.length ≤ n) (hL0 : av.map some ++ List.replicate (n - av.length) none = L0) (hd : wDi ad sh)
    (body : ∀ (p : Program) (e : Env) (s : State) (m : MethodId) (args : Array Value) (below : List Frame) (meth : Method) (c : Code) (A : Nat → Prop), wG p s m args meth c b y0.cls n D aC ad A sh → meth.sig.returnType = none → wTh A s s.heap → JW p l e rm s m args below meth c n D aC ad A sh (vx_MQ below (cQv D aC ad sh post A) (xX D aC ad sh (zc z y) thr A) args s mc ms A) 0 0 (zc z y) 0 L0 []) : xMv l D aC ad sh y0 b n rm av z y post thr mc ms := by
  intro sz
  refine vx_ofW (cc := b) (maxL := n) (ret := none) hy rfl ?_
  intro p e s m args below meth c s₁ B hml hex hv
  obtain ⟨rfl, rfl, ⟨hP, hK⟩, hT⟩ := hv
  have hts := atoms_spec (ws := Cond.code y0 b n none :: wALL) B.pre
  have G : wG p s m av.toArray meth c b y0.cls n D aC ad (wAd ad sh s.heap.size) sh := ⟨B.exec, B.bytes, hml, findClass_of_methodNamed B.named, fun w h => hts w (List.mem_cons_of_mem _ h), hK, hd, fun q hq => Or.inl ⟨q, hq, rfl⟩, fun q h => Or.inr h, B.notSynchronized, hex⟩
  have k := body p e s m _ below meth c _ G B.returns hT s.heap [] _ hP va_S.rf (hL0 ▸ lvh_entry (cat_all hcat) hn)
  rw [lg_entry_eq]
  exact k
theorem x_reti (G : wG p s m args meth c cc own nL D aC ad A sh) {post : Int → wZ → wZ → Prop} {XC : String → State → State → Prop} {x : Int} (hr : meth.sig.returnType = some .int) (hc : cells ≤ mc ∧ slots ≤ ms) (hdg : decode cc pc = .ok (.ireturn, 1)) (hp : post x z y) : JW p l e R s m args below meth c nL D aC ad A sh (vx_MQ below (cQi D aC ad sh post A) XC args s mc ms A) cells slots (zc z y) pc L [vi x] :=
  fun H locs ls hP hS hl => vx_ret (W.widen hc.1 hc.2 (j_reti G hr hdg hp H locs ls hP hS hl))
theorem x_retz (G : wG p s m args meth c cc own nL D aC ad A sh) {post : Int → wZ → wZ → Prop} {XC : String → State → State → Prop} {x : Int} (hr : meth.sig.returnType = some .boolean) (hx : x = 0 ∨ x = 1) (hc : cells ≤ mc ∧ slots ≤ ms) (hdg : decode cc pc = .ok (.ireturn, 1)) (hp : post x z y) : JW p l e R s m args below meth c nL D aC ad A sh (vx_MQ below (cQi D aC ad sh post A) XC args s mc ms A) cells slots (zc z y) pc L [vi x] :=
  fun H locs ls hP hS hl => vx_ret (W.widen hc.1 hc.2 (j_retz G hr hx hdg hp H locs ls hP hS hl))
theorem x_retc (G : wG p s m args meth c cc own nL D aC ad A sh) {post : Int → wZ → wZ → Prop} {XC : String → State → State → Prop} {x : Int} (hr : meth.sig.returnType = some .char) (hx : 0 ≤ x ∧ x < 65536) (hc : cells ≤ mc ∧ slots ≤ ms) (hdg : decode cc pc = .ok (.ireturn, 1)) (hp : post x z y) : JW p l e R s m args below meth c nL D aC ad A sh (vx_MQ below (cQi D aC ad sh post A) XC args s mc ms A) cells slots (zc z y) pc L [vi x] :=
  fun H locs ls hP hS hl => vx_ret (W.widen hc.1 hc.2 (j_retc G hr hx hdg hp H locs ls hP hS hl))
theorem x_retv (G : wG p s m args meth c cc own nL D aC ad A sh) {post : wZ → wZ → Prop} {XC : String → State → State → Prop} (hr : meth.sig.returnType = none) (hc : cells ≤ mc ∧ slots ≤ ms) (hdg : decode cc pc = .ok (.return_, 1)) (hp : post z y) : JW p l e R s m args below meth c nL D aC ad A sh (vx_MQ below (cQv D aC ad sh post A) XC args s mc ms A) cells slots (zc z y) pc L [] :=
  fun H locs ls hP hS hl => vx_ret (W.widen hc.1 hc.2 (j_retv G hr hdg hp H locs ls hP hS hl))
theorem x_throw {Qc : Array Value → State → Outcome → State → Prop} {thr : String → Prop} (G : wG p s m args meth c cc RX7 nL D aC ad A sh) (hT : wTh A s s.heap) (hl : l.stackTraces = false) {ik ic is : Nat} {E text : String} (F : wXF ik ic E) (hs : (is, text) ∈ xTx)
    (d0 : decode cc pc = .ok (.new ik, 3)) (d3 : decode cc (pc + 3) = .ok (.dup, 1)) (d4 : decode cc (pc + 4) = .ok (.ldc is, 2)) (d6 : decode cc (pc + 6) = .ok (.invokespecial ic, 3)) (d9 : decode cc (pc + 9) = .ok (.athrow, 1))
    (hR : 6 ≤ R.frames ∧ (st.map fun v => v.category).sum + 82 ≤ R.locals ∧ cells + 1 ≤ R.cells ∧ slots + 6 ≤ R.slots) (hc : cells + 1 ≤ mc ∧ slots + 6 ≤ ms) {z0 : wZ} (hz : zc z y = z0) (hthr : thr E) : JW p l e R s m args below meth c nL D aC ad A sh (vx_MQ below Qc (xX D aC ad sh z0 thr A) args s mc ms A) cells slots (zc z y) pc L st := by
  intro H locs ls hP hS hl1
  subst hz
  obtain ⟨sa, hsa⟩ := hT.2.2.2 _ hs
  refine vx_throwS (own := RX7) (cls := E) (names := nmR) (ik := ik) (is := is) (ic := ic) (sa := sa) (A := A) G.1 G.2.1 hl G.hown F.1 (by decide +kernel) (G.ts _ F.2.1) (G.ts _ F.2.2.1) hsa
    (vx_hat (B := xdW E) (fun w hw => G.ts w (F.2.2.2.1 w hw)) F.2.2.2.2.1 (fun w hw => va_Nw.use (by
      simp only [xdW, List.mem_cons, List.not_mem_nil, or_false] at hw
      rcases hw with rfl | rfl | rfl | rfl <;> rfl) (hT.2.2.1 E F.2.2.2.2.2.2 w hw))) F.2.2.2.2.2.1 hT.1 hT.2.1 hS (by rw [G.2.2.1, hl1.1]) d0 d3 d4 d6 d9
    (fun x hx => (G.2.2.2.2.2.2.2.2.2.2 x hx).elim) (by show 2 + 3 < R.frames; omega) (by show _ + (13 * (2 + 1) + 43) ≤ R.locals; omega) hR.2.2.1 hR.2.2.2 G.locks ?_ hS.2.2 hc.1 hc.2
  intro t hal hsz hk
  exact ⟨(), trivial, ⟨hthr, hP.kept (fun k q hq => hk q.1 (hP k q hq).lt), va_K.moved hal G.K⟩, Nat.le_trans hS.1 hsz, fun q h1 h2 => by rw [hk q (Nat.lt_of_lt_of_le h1 hS.1)]; exact hS.2.1 q h1 h2⟩
theorem x_throwW {Qc : Array Value → State → Outcome → State → Prop} {thr : String → Prop} (G : wG p s m args meth c cc RX7 nL D aC ad A sh) (hT : wTh A s s.heap) (hl : l.stackTraces = false) {ik ic is : Nat} {E text : String} (F : wXF ik ic E) (hs : (is, text) ∈ xTx)
    (d0 : decode cc pc = .ok (.new ik, 3)) (d3 : decode cc (pc + 3) = .ok (.dup, 1)) (d4 : decode cc (pc + 4) = .ok (.ldc_w is, 3)) (d7 : decode cc (pc + 7) = .ok (.invokespecial ic, 3)) (d10 : decode cc (pc + 10) = .ok (.athrow, 1))
    (hR : 6 ≤ R.frames ∧ (st.map fun v => v.category).sum + 82 ≤ R.locals ∧ cells + 1 ≤ R.cells ∧ slots + 6 ≤ R.slots) (hc : cells + 1 ≤ mc ∧ slots + 6 ≤ ms) {z0 : wZ} (hz : zc z y = z0) (hthr : thr E) : JW p l e R s m args below meth c nL D aC ad A sh (vx_MQ below Qc (xX D aC ad sh z0 thr A) args s mc ms A) cells slots (zc z y) pc L st := by
  intro H locs ls hP hS hl1
  subst hz
  obtain ⟨sa, hsa⟩ := hT.2.2.2 _ hs
  refine vx_throwSW (own := RX7) (cls := E) (names := nmR) (ik := ik) (is := is) (ic := ic) (sa := sa) (A := A) G.1 G.2.1 hl G.hown F.1 (by decide +kernel) (G.ts _ F.2.1) (G.ts _ F.2.2.1) hsa
    (vx_hat (B := xdW E) (fun w hw => G.ts w (F.2.2.2.1 w hw)) F.2.2.2.2.1 (fun w hw => va_Nw.use (by
      simp only [xdW, List.mem_cons, List.not_mem_nil, or_false] at hw
      rcases hw with rfl | rfl | rfl | rfl <;> rfl) (hT.2.2.1 E F.2.2.2.2.2.2 w hw))) F.2.2.2.2.2.1 hT.1 hT.2.1 hS (by rw [G.2.2.1, hl1.1]) d0 d3 d4 d7 d10
    (fun x hx => (G.2.2.2.2.2.2.2.2.2.2 x hx).elim) (by show 2 + 3 < R.frames; omega) (by show _ + (13 * (2 + 1) + 43) ≤ R.locals; omega) hR.2.2.1 hR.2.2.2 G.locks ?_ hS.2.2 hc.1 hc.2
  intro t hal hsz hk
  exact ⟨(), trivial, ⟨hthr, hP.kept (fun k q hq => hk q.1 (hP k q hq).lt), va_K.moved hal G.K⟩, Nat.le_trans hS.1 hsz, fun q h1 h2 => by rw [hk q (Nat.lt_of_lt_of_le h1 hS.1)]; exact hS.2.1 q h1 h2⟩
theorem x_throwN {Qc : Array Value → State → Outcome → State → Prop} {thr : String → Prop} (G : wG p s m args meth c cc RX7 nL D aC ad A sh) (hT : wTh A s s.heap) (hl : l.stackTraces = false) {is : Nat} {text : String} (hs : (is, text) ∈ xTx)
    (d0 : decode cc pc = .ok (.new 115, 3)) (d3 : decode cc (pc + 3) = .ok (.dup, 1)) (d4 : decode cc (pc + 4) = .ok (.ldc is, 2)) (d6 : decode cc (pc + 6) = .ok (.invokespecial 119, 3)) (d9 : decode cc (pc + 9) = .ok (.athrow, 1))
    (hR : 6 ≤ R.frames ∧ (st.map fun v => v.category).sum + 82 ≤ R.locals ∧ cells + 1 ≤ R.cells ∧ slots + 6 ≤ R.slots) (hc : cells + 1 ≤ mc ∧ slots + 6 ≤ ms) {z0 : wZ} (hz : zc z y = z0) (hthr : thr eNSE) : JW p l e R s m args below meth c nL D aC ad A sh (vx_MQ below Qc (xX D aC ad sh z0 thr A) args s mc ms A) cells slots (zc z y) pc L st := by
  intro H locs ls hP hS hl1
  subst hz
  obtain ⟨sa, hsa⟩ := hT.2.2.2 _ hs
  refine nx_throwS (own := RX7) (ik := 115) (is := is) (ic := 119) (sa := sa) (A := A) G.1 G.2.1 hl G.hown (G.ts _ XF_NSE.1) (G.ts _ XF_NSE.2.1) hsa
    (vx_hat (B := xdW eNSE) (fun w hw => G.ts w (XF_NSE.2.2.1 w hw)) XF_NSE.2.2.2.1 (fun w hw => va_Nw.use (by
      simp only [xdW, List.mem_cons, List.not_mem_nil, or_false] at hw
      rcases hw with rfl | rfl | rfl | rfl <;> rfl) (hT.2.2.1 eNSE (by decide +kernel) w hw))) XF_NSE.2.2.2.2 hT.1 hT.2.1 hS (by rw [G.2.2.1, hl1.1]) d0 d3 d4 d6 d9
    (fun x hx => (G.2.2.2.2.2.2.2.2.2.2 x hx).elim) (by omega) hR.2.1 hR.2.2.1 hR.2.2.2 G.locks ?_ hS.2.2 hc.1 hc.2
  intro t hal hsz hk
  exact ⟨(), trivial, ⟨hthr, hP.kept (fun k q hq => hk q.1 (hP k q hq).lt), va_K.moved hal G.K⟩, Nat.le_trans hS.1 hsz, fun q h1 h2 => by rw [hk q (Nat.lt_of_lt_of_le h1 hS.1)]; exact hS.2.1 q h1 h2⟩
def xRm (rm R : Room) (n mc ms : Nat) : Prop := rm.cells = mc ∧ rm.slots = ms ∧ rm.frames + 1 ≤ R.frames ∧ 8 + (n + 11) + rm.locals ≤ R.locals
theorem xrm_ok {a b n mc ms m2 s2 : Nat} (h : a + 1 ≤ b) (hn : n ≤ 20) : xRm (rmX a mc ms) (rmX b m2 s2) n mc ms := ⟨rfl, rfl, h, by show 8 + (n + 11) + (40 + 40 * a) ≤ 40 + 40 * b; omega⟩
/-- a private void method that may throw: what it throws goes on -/
theorem x_callv {Qc : Array Value → State → Outcome → State → Prop} {thr thr1 : String → Prop} (G : wG p s m args meth c cc own nL D aC ad A sh) (hT : wTh A s s.heap) {y0 : MethodName} {b : ByteArray} {n m1 s1 : Nat} {rm : Room} {post : wZ → wZ → Prop} {idx nb ci N q0 : Nat} {C : String} {T : u_T} {fs : List wF} {As : List Value} {st0 : List Value} (K : wCV own idx C y0 b n none As.length) (hM : xMv l D aC ad sh y0 b n rm (.ref (ad nb) :: As) z y post thr1 m1 s1) (hst : st0 = As.reverse ++ .ref (ad nb) :: st) (he : sh[q0]? = some (nb, .inl (ci, fs))) (hc : vwCl[ci]? = some (C, T, N)) (hr : xRm rm R n m1 s1) (hcs : cells + m1 ≤ R.cells ∧ slots + s1 ≤ R.slots) (hcm : cells + m1 ≤ mc ∧ slots + s1 ≤ ms) (hcat : (st.map fun v => v.category).sum ≤ 8) (hdg : decode cc pc = .ok (.invokevirtual idx, 3)) (hthr : ∀ E, thr1 E → thr E)
    (kk : ∀ (z' y' : wZ), post z' y' → JW p l e R s m args below meth c nL D aC ad A sh (vx_MQ below Qc (xX D aC ad sh (zc z y) thr A) args s mc ms A) (cells + m1) (slots + s1) (zc z' y') (pc + 3) L st) : JW p l e R s m args below meth c nL D aC ad A sh (vx_MQ below Qc (xX D aC ad sh (zc z y) thr A) args s mc ms A) cells slots (zc z y) pc L st0 :=
  fun H locs ls hP hS hl => by
    subst hst
    have hA := G.hA hS.1
    exact vx_callv (vx_runV (As := As) (rest := st) ⟨G.1, G.2.1, G.2.2.1, G.hown, G.ts⟩ (hM H.size) (cwV As.length G.ts K.good rfl hr.1 hr.2.1 K.2 ⟨hr.2.2.1, hr.2.2.2⟩)
      ⟨xPc_blind, va_recv G.K hP (ci := ci) (q0 := q0) hc (wd_get he), fun U hU hW => ⟨rfl, by rw [hU], ⟨by rw [hU]; exact hP, va_K.moved hW.alike G.K⟩, by rw [hU]; exact hT.go hW hS.2.1 hA⟩⟩ rfl rfl hl.1 rfl (lv_room hcat) hdg hcs) hS (fun q _ h => hA q h) hA (fun q _ h => hA q h)
      (fun E ce q9 u t H1 locs1 ht hvm hpx hB hz hk hS1 hce hcv hcl => vx_out (E := E) (ce := ce) (fun x hx => (G.2.2.2.2.2.2.2.2.2.2 x hx).elim) G.locks hce hcv hcl (fun t2 ht2 hal2 => ⟨(), trivial, ⟨hthr E hB.1, by rw [ht2, ← ht]; exact hB.2.1, va_K.moved hal2 G.K⟩, by rw [ht2]; exact hS1.1, fun q h1 h2 => by rw [ht2]; exact hS1.2.1 q h1 h2⟩) hS1.2.2 hcm.1 hcm.2)
      (fun u t H1 locs1 ht hvm hw hB hz1 hk1 hS1 => by
        obtain ⟨z', y', rfl, hw⟩ := hw
        exact kk z' y' hw H1 locs1 ls (ht ▸ hB.1) hS1 hl)
end EXW
