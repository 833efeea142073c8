/-! WORLDS THAT GROW: what constructors do, over a list of cells -/
section BORN
def JL (p : Program) (l : Launch) (e : Env) (R : Room) (s : State) (m : MethodId) (args : Array Value) (below : List Frame) (meth : Method) (c : Code) (nL : Nat) (D : va_G) (A : Nat → Prop) (Q : State → Prop) (cells slots : Nat) (ws : va_W) (pc : Nat) (L : List (Option Value)) (st : List Value) : Prop :=
  ∀ (H : Heap) (locs : List Loc) (ls : Array Slot), va_P D vwCl ws H → va_D A ws → va_S A s.heap H locs → lvh ls nL L → W p l e R s m args below meth c H locs cells slots Q (F0 m pc ls st)
variable {p : Program} {l : Launch} {e : Env} {R : Room} {s : State} {m : MethodId} {args : Array Value} {below : List Frame} {meth : Method} {c : Code} {cc : ByteArray} {own : String} {nL : Nat} {D : va_G} {aC : Nat → ClassId} {ad : Nat → Nat} {A : Nat → Prop} {Q : State → Prop} {cells slots : Nat} {ws : va_W} {pc : Nat} {L : List (Option Value)} {st : List Value} {mc ms : Nat}
/-- a growing world that has come to be a shape's -/
theorem l_to {sh : wSh} {z : wZ} (hw : ws = wd aC ad sh z) (k : JW p l e R s m args below meth c nL D aC ad A sh Q cells slots z pc L st) : JL p l e R s m args below meth c nL D A Q cells slots ws pc L st :=
  fun H locs ls hP _ hS hl => k H locs ls (hw ▸ hP) hS hl
theorem l_aload_n (G : wG p s m args meth c cc own nL D aC ad A []) {i : Fin 4} {x : Nat} (hdg : decode cc pc = .ok (.aload_n i, 1)) (hL : L[(i : Nat)]? = some (some (.ref x))) (k : JL p l e R s m args below meth c nL D A Q cells slots ws (pc + 1) L (.ref x :: st)) : JL p l e R s m args below meth c nL D A Q cells slots ws pc L st :=
  fun H locs ls hP hD hS hl => lv_aload_n G.1 G.2.1 hdg rfl (hl.2.2.2 i _ hL).1 (k H locs ls hP hD hS hl)
theorem l_iconst (G : wG p s m args meth c cc own nL D aC ad A []) {n : Int} (hdg : decode cc pc = .ok (.iconst n, 1)) (k : JL p l e R s m args below meth c nL D A Q cells slots ws (pc + 1) L (vi n :: st)) : JL p l e R s m args below meth c nL D A Q cells slots ws pc L st :=
  fun H locs ls hP hD hS hl => lv_iconst G.1 G.2.1 hdg rfl (k H locs ls hP hD hS hl)
theorem l_bipush (G : wG p s m args meth c cc own nL D aC ad A []) {n : Int} (hdg : decode cc pc = .ok (.bipush n, 2)) (hn : (Int8.ofInt n).toInt32 = Int32.ofInt n) (k : JL p l e R s m args below meth c nL D A Q cells slots ws (pc + 2) L (vi n :: st)) : JL p l e R s m args below meth c nL D A Q cells slots ws pc L st :=
  fun H locs ls hP hD hS hl => lv_bipush G.1 G.2.1 hdg hn (k H locs ls hP hD hS hl)
theorem l_sipush (G : wG p s m args meth c cc own nL D aC ad A []) {n : Int} (hdg : decode cc pc = .ok (.sipush n, 3)) (hn : (Int16.ofInt n).toInt32 = Int32.ofInt n) (k : JL p l e R s m args below meth c nL D A Q cells slots ws (pc + 3) L (vi n :: st)) : JL p l e R s m args below meth c nL D A Q cells slots ws pc L st :=
  fun H locs ls hP hD hS hl => lv_sipush G.1 G.2.1 hdg hn (k H locs ls hP hD hS hl)
theorem l_dup (G : wG p s m args meth c cc own nL D aC ad A []) {v : Value} (hv : v.category = 1) (hdg : decode cc pc = .ok (.dup, 1)) (k : JL p l e R s m args below meth c nL D A Q cells slots ws (pc + 1) L (v :: v :: st)) : JL p l e R s m args below meth c nL D A Q cells slots ws pc L (v :: st) :=
  fun H locs ls hP hD hS hl => lv_dup G.1 G.2.1 hdg hv (k H locs ls hP hD hS hl)
theorem l_newarr (G : wG p s m args meth c cc own nL D aC ad A []) {at0 : ArrayType} {ty : FieldType} {t0 N : Nat} {n : Int} (hty : newarray.typeOf at0 = ty) (hw : Cond.arrayClass ty ∈ wALL) (ht : (wty aC)[t0]? = some (aC t0, ty)) (hRA : ∀ a b, va_RA s a ty → va_RA s b ty → a = b) (hdv : defaultValue ty = .int 0) (hcb : componentBytes ty ≤ 4)
    (hn : n = (N : Int)) (hN : N ≤ 1000) (hcells : cells + 1 ≤ R.cells) (hslots : slots + N ≤ R.slots) (hdg : decode cc pc = .ok (.newarray at0, 2))
    (kk : ∀ q : Nat, JL p l e R s m args below meth c nL D A Q (cells + 1) (slots + N) (ws ++ [(q, .inl (aC t0, (N, .inl (fun _ => (0 : Int32)))))]) (pc + 2) L (.ref q :: st)) : JL p l e R s m args below meth c nL D A Q cells slots ws pc L (vi n :: st) := by
  intro H locs ls hP hD hS hl
  have hx : (Int32.ofInt n).toInt = (N : Int) := by rw [hn]; exact Int32.toInt_ofInt_of_le (by omega) (by omega)
  refine va_newa (D := D) (cl := vwCl) (tys := wty aC) (a0 := (N, .inl (fun _ => (0 : Int32)))) G.1 G.2.1 (ty := ty) (by rw [hty]; exact G.ts _ hw) hty G.K hP hD hS G.2.2.2.2.2.2.2.2.1 (fun cA => ?_) (fun h => ?_) (N' := N) ?_ ?_ hcells hslots hdg ?_
  · rw [hdv]; rfl
  · rw [Int32.lt_iff_toInt_lt, hx] at h
    have h0 : (0 : Int32).toInt = 0 := by decide
    omega
  · show (Int32.ofInt n).toInt.toNat = N
    rw [hx]; rfl
  · exact Nat.le_trans (Nat.mul_le_mul hN hcb) (by decide)
  · intro q cA H1 hK1 hP1 hD1 hS1
    have e5 : (wty aC ++ [(cA, ty)])[5]? = some (cA, ty) := rfl
    have he : cA = aC t0 := hRA _ _ (hK1.2 5 _ e5).2 (G.K.2 t0 _ ht).2
    subst he
    exact kk q H1 locs ls hP1 hD1 hS1 hl
theorem l_new (G : wG p s m args meth c cc own nL D aC ad A []) {C : String} {T : u_T} {N ci index : Nat} {fs : List Value} (hc : vwCl[ci]? = some (C, T, N)) (hin : ∀ w ∈ u_ws C T N, w ∈ wALL) {ty : Nat → FieldType} (hty : ∀ k, k < N → parseFieldDescriptor (T k).2.2.1 = some (ty k)) (hcl : Cond.classLink own index C ∈ wALL) (hit : Cond.instantiable C N ∈ wALL) (hini : Cond.initialized C ∈ wALL) (hfs : ∀ j, j < N → defaultValue (ty j) = vp_V fs j)
    (hcells : cells + 1 ≤ R.cells) (hslots : slots + N ≤ R.slots) (hdg : decode cc pc = .ok (.new index, 3))
    (kk : ∀ q : Nat, JL p l e R s m args below meth c nL D A Q (cells + 1) (slots + N) (ws ++ [(q, .inr (ci, fs))]) (pc + 3) L (.ref q :: st)) : JL p l e R s m args below meth c nL D A Q cells slots ws pc L st :=
  fun H locs ls hP hD hS hl => va_new (D := D) (cl := vwCl) (tys := wty aC) G.1 G.2.1 G.ts hin ty hty G.hown (G.ts _ hcl) (G.ts _ hit) (G.ts _ hini) G.K hP hD hS G.2.2.2.2.2.2.2.2.1 hc hfs hcells hslots hdg (fun q H1 hP1 hD1 hS1 => kk q H1 locs ls hP1 hD1 hS1 hl)
/-- a field is given its first value -/
theorem l_put (G : wG p s m args meth c cc own nL D aC ad A []) (hnm0 : meth.name = "<init>") {idx ci k N : Nat} {C : String} {T : u_T} {ty0 : Nat → FieldType} (F : wFL own idx ci k C T N) (hty : ∀ k, k < N → parseFieldDescriptor (T k).2.2.1 = some (ty0 k)) (hnm : ∀ a, a < N → ∀ b, b < N → a ≠ b → (T a).2.1 ≠ (T b).2.1) (hown : (T k).1 = own) (q0 : Nat) {a : Nat} {fs : List Value} (he : ws[q0]? = some (a, .inr (ci, fs))) {v : Value} (hn : narrow (ty0 k) v = v) (hfit : fits (ty0 k) v = true) (hl0 : k < fs.length) (hdg : decode cc pc = .ok (.putfield idx, 3))
    {ws' : va_W} (hw : ws.set q0 (a, .inr (ci, fs.set k v)) = ws') (kk : JL p l e R s m args below meth c nL D A Q cells slots ws' (pc + 3) L st) : JL p l e R s m args below meth c nL D A Q cells slots ws pc L (v :: .ref a :: st) := by
  intro H locs ls hP hD hS hl
  subst hw
  have hs : ∀ x, s.fieldFound? (T k).1 (T k).2.1 (T k).2.2.1 = some x → s.fieldFound? C (T k).2.1 (T k).2.2.1 = some x := fun _ h9 => by rw [F.2.2.2.2] at h9; exact h9
  by_cases hf : (T k).2.2.2 = true
  · refine va_putF (D := D) (cl := vwCl) (tys := wty aC) (ci := ci) (v := v) (ty := ty0 k) (C := C) (T := T) (N := N) G.1 G.2.1 G.ts F.2.1 ty0 hty hnm G.hown G.K hP hD hS q0 he F.1 k F.2.2.1 (G.ts _ F.2.2.2.1) hs hf hnm0 hown (hty k F.2.2.1) hn hfit hl0 hdg ?_
    exact fun H1 locs1 hP1 hD1 hS1 => kk H1 locs1 ls hP1 hD1 hS1 hl
  · refine va_put (D := D) (cl := vwCl) (tys := wty aC) (ci := ci) (v := v) (ty := ty0 k) (C := C) (T := T) (N := N) G.1 G.2.1 G.ts F.2.1 ty0 hty hnm G.hown G.K hP hD hS q0 he F.1 k F.2.2.1 (G.ts _ F.2.2.2.1) hs (by simpa using hf) (hty k F.2.2.1) hn hfit hl0 hdg ?_
    exact fun H1 locs1 hP1 hD1 hS1 => kk H1 locs1 ls hP1 hD1 hS1 hl
theorem l_iast (G : wG p s m args meth c cc own nL D aC ad A []) (q0 : Nat) {a n : Nat} {f : Nat → Int32} (he : ws[q0]? = some (a, .inl (aC 0, (n, .inl f)))) (hn : n < 2147483648) {i x : Int} (h0 : 0 ≤ i) (h1 : i < (n : Int)) (hdg : decode cc pc = .ok (.iastore, 1)) {ws' : va_W} (hw : ws.set q0 (a, .inl (aC 0, (n, .inl (upd f (Int32.ofInt i).toNatClampNeg (Int32.ofInt x))))) = ws')
    (kk : JL p l e R s m args below meth c nL D A Q cells slots ws' (pc + 1) L st) : JL p l e R s m args below meth c nL D A Q cells slots ws pc L (vi x :: vi i :: .ref a :: st) :=
  fun H locs ls hP hD hS hl => va_iast G.1 G.2.1 G.K hP hD hS q0 0 he rfl (wi_in h0 h1 hn) hdg (fun H1 locs1 hP1 hD1 hS1 => kk H1 locs1 ls (hw ▸ hP1) (hw ▸ hD1) hS1 hl)
theorem l_obj (G : wG p s m args meth c cc own nL D aC ad A []) {idx a : Nat} (hlink : Cond.methodLink own idx Lib.objectInit ∈ wALL) (hdg : decode cc pc = .ok (.invokespecial idx, 3)) (hinst : Cond.instanceMethod Lib.objectInit ∈ wALL) (hcode : Cond.code Lib.objectInit ⟨#[0xb1]⟩ 1 none ∈ wALL) (hR : 1 ≤ R.frames ∧ (st.map fun v => v.category).sum + 12 ≤ R.locals)
    (kk : JL p l e R s m args below meth c nL D A Q cells slots ws (pc + 3) L st) : JL p l e R s m args below meth c nL D A Q cells slots ws pc L (.ref a :: st) :=
  fun H locs ls hP hD hS hl => W.objInit G.1 G.2.1 G.hown (G.ts _ hlink) (G.ts _ hinst) (G.ts _ hcode) (g := F0 m pc ls (.ref a :: st)) rfl (by show ls.size = _; rw [G.2.2.1, hl.1]) rfl hdg hR.1 (by show 2 * 0 + _ + 12 ≤ _; omega) (kk H locs ls hP hD hS hl)
end BORN
section BORNK
variable {p : Program} {l : Launch} {e : Env} {R : Room} {s : State} {m : MethodId} {args : Array Value} {below : List Frame} {meth : Method} {c : Code} {cc : ByteArray} {own : String} {nL : Nat} {D : va_G} {aC : Nat → ClassId} {ad : Nat → Nat} {A : Nat → Prop} {Q : State → Prop} {cells slots : Nat} {ws : va_W} {pc : Nat} {L : List (Option Value)} {st : List Value} {mc ms : Nat}
/-- the cells that a constructor fills: its own, and those that it makes -/
def kA (b sz : Nat) : Nat → Prop := fun q => q = b ∨ sz ≤ q
def kPc (D : va_G) (aC : Nat → ClassId) (b sz ci : Nat) (fs : List Value) : Array Value → State → Prop := va_Pc [.ref b] (fun U => U.heap.size = sz ∧ b < sz ∧ va_P D vwCl [(b, .inr (ci, fs))] U.heap ∧ va_K D vwCl (wty aC) U)
theorem wDi_of {sh : wSh} {z : wZ} (h : va_D A (wd aC ad sh z)) : wDi ad sh := fun i j p q hi hj he => h.1 i j _ _ (wd_get hi) (wd_get hj) he
theorem wA_of {sh : wSh} {z : wZ} (h : va_D A (wd aC ad sh z)) : ∀ q, q ∈ sh → A (ad q.1) := fun q hq => by
  obtain ⟨i, hi⟩ := List.getElem?_of_mem hq
  exact h.2 i _ (wd_get hi)
/-- the same, with an end state that is only told of -/
def kQ2 (D : va_G) (aC : Nat → ClassId) (nb b : Nat) (sh : wSh) (PZ : wZ → Prop) (A : Nat → Prop) : Array Value → State → Outcome → State → Prop := va_Qv (fun a' : (Nat → Nat) × wZ => a'.1 nb = b ∧ wDi a'.1 sh ∧ (∀ q, q ∈ sh → A (a'.1 q.1)) ∧ PZ a'.2) (fun a' t => wB D aC a'.1 sh a'.2 t) A
def kM2 (l : Launch) (D : va_G) (aC : Nat → ClassId) (y0 : MethodName) (bc : ByteArray) (n : Nat) (rm : Room) (ci : Nat) (fs : List Value) (nb : Nat) (sh : wSh) (PZ : wZ → Prop) (mc ms : Nat) : Prop :=
  ∀ b sz, Met l y0 (.code y0 bc n none :: wALL) rm (kPc D aC b sz ci fs) (kQ2 D aC nb b sh PZ (kA b sz)) mc ms (kA b sz)
theorem k_of2 {y0 : MethodName} {n : Nat} {bc : ByteArray} {rm : Room} {ci nb : Nat} {fs : List Value} {sh : wSh} {PZ : wZ → Prop} (hy : plainName y0.cls = true) (hn : 1 ≤ n)
    (body : ∀ (p : Program) (e : Env) (s : State) (m : MethodId) (args : Array Value) (below : List Frame) (meth : Method) (c : Code) (b : Nat) (A : Nat → Prop), wG p s m args meth c bc y0.cls n D aC (fun _ => 0) A [] → meth.sig.returnType = none → meth.name = y0.name → JL p l e rm s m args below meth c n D A (MQ below (kQ2 D aC nb b sh PZ A) args s mc ms A) 0 0 [(b, .inr (ci, fs))] 0 (some (.ref b) :: List.replicate (n - 1) none) []) : kM2 l D aC y0 bc n rm ci fs nb sh PZ mc ms := by
  intro b sz
  refine Met.ofW (cc := bc) (maxL := n) (ret := none) hy rfl ?_
  intro p e s m args below meth c s₁ B hml hv
  have hex := w_table (S := headSpec (Cond.code y0 bc n none :: wALL) rm) B
  obtain ⟨rfl, rfl, hbl, hP, hK⟩ := hv
  have hts := atoms_spec (ws := Cond.code y0 bc n none :: wALL) B.pre
  have G : wG p s m [Value.ref b].toArray meth c bc y0.cls n D aC (fun _ => 0) (kA b s.heap.size) [] := ⟨B.exec, B.bytes, hml, findClass_of_methodNamed B.named, fun w h => hts w (List.mem_cons_of_mem _ h), hK, (fun i j p q hi => by simp at hi), (fun q hq => by simp at hq), fun q h => Or.inr h, B.notSynchronized, hex⟩
  have hD : va_D (kA b s.heap.size) [(b, .inr (ci, fs))] := by
    refine ⟨fun i j p q hi hj _ => ?_, fun k q hq => ?_⟩
    · have h1 := (List.getElem?_eq_some_iff.mp hi).1
      have h2 := (List.getElem?_eq_some_iff.mp hj).1
      simp at h1 h2; omega
    · have h1 := (List.getElem?_eq_some_iff.mp hq).1
      have : k = 0 := by simp at h1; exact h1
      subst this
      cases hq
      exact Or.inl rfl
  have k := body p e s m _ below meth c b _ G B.returns (name_of_methodNamed B.named B.method).1 s.heap [] _ hP hD va_S.rf (lvh_entry (vs := [Value.ref b]) (fun v hv => by rcases List.mem_singleton.mp hv with rfl; rfl) hn)
  rw [lg_entry_eq]
  exact k
abbrev kQ (D : va_G) (aC : Nat → ClassId) (nb b : Nat) (sh : wSh) (z : wZ) (A : Nat → Prop) : Array Value → State → Outcome → State → Prop := kQ2 D aC nb b sh (fun z' => z' = z) A
abbrev kM (l : Launch) (D : va_G) (aC : Nat → ClassId) (y0 : MethodName) (bc : ByteArray) (n : Nat) (rm : Room) (ci : Nat) (fs : List Value) (nb : Nat) (sh : wSh) (z : wZ) (mc ms : Nat) : Prop := kM2 l D aC y0 bc n rm ci fs nb sh (fun z' => z' = z) mc ms
theorem l_ret (G : wG p s m args meth c cc own nL D aC ad A []) {nb b : Nat} {sh : wSh} {z : wZ} (a' : Nat → Nat) (hr : meth.sig.returnType = none) (hw : ws = wd aC a' sh z) (hb : a' nb = b) (hc : cells ≤ mc ∧ slots ≤ ms) (hdg : decode cc pc = .ok (.return_, 1)) : JL p l e R s m args below meth c nL D A (MQ below (kQ D aC nb b sh z A) args s mc ms A) cells slots ws pc L [] := by
  intro H locs ls hP hD hS hl
  subst hw
  exact W.widen hc.1 hc.2 (W.vret G.1 G.2.1 hr (fun t ht hW => ⟨⟨(a', z), rfl, ⟨hb, wDi_of hD, wA_of hD, rfl⟩, by rw [ht]; exact hP, va_K.moved hW.alike G.K⟩, hS.F ht⟩) hS.2.2 hdg G.locks)
theorem l_jw (G : wG p s m args meth c cc own nL D aC (fun _ => 0) A []) {sh : wSh} {z : wZ} (ad : Nat → Nat) (hw : ws = wd aC ad sh z) (k : wG p s m args meth c cc own nL D aC ad A sh → JW p l e R s m args below meth c nL D aC ad A sh Q cells slots z pc L st) : JL p l e R s m args below meth c nL D A Q cells slots ws pc L st := by
  intro H locs ls hP hD hS hl
  subst hw
  have G2 : wG p s m args meth c cc own nL D aC ad A sh := ⟨G.1, G.2.1, G.2.2.1, G.2.2.2.1, G.2.2.2.2.1, G.2.2.2.2.2.1, wDi_of hD, wA_of hD, G.2.2.2.2.2.2.2.2.1, G.2.2.2.2.2.2.2.2.2⟩
  exact k G2 H locs ls hP hS hl
theorem j_kret {sh : wSh} {z zf : wZ} {nb b : Nat} (G : wG p s m args meth c cc own nL D aC ad A sh) (hr : meth.sig.returnType = none) (hb : ad nb = b) (hz : wd aC ad sh z = wd aC ad sh zf) (hc : cells ≤ mc ∧ slots ≤ ms) (hdg : decode cc pc = .ok (.return_, 1)) : JW p l e R s m args below meth c nL D aC ad A sh (MQ below (kQ D aC nb b sh zf A) args s mc ms A) cells slots z pc L [] := by
  intro H locs ls hP hS hl
  exact W.widen hc.1 hc.2 (W.vret G.1 G.2.1 hr (fun t ht hW => ⟨⟨(ad, zf), rfl, ⟨hb, G.2.2.2.2.2.2.1, G.2.2.2.2.2.2.2.1, rfl⟩, by rw [ht]; rw [hz] at hP; exact hP, va_K.moved hW.alike G.K⟩, hS.F ht⟩) hS.2.2 hdg G.locks)
theorem j_kret2 {sh : wSh} {z : wZ} {PZ : wZ → Prop} {nb b : Nat} (G : wG p s m args meth c cc own nL D aC ad A sh) (hr : meth.sig.returnType = none) (hb : ad nb = b) (hz : PZ z) (hc : cells ≤ mc ∧ slots ≤ ms) (hdg : decode cc pc = .ok (.return_, 1)) : JW p l e R s m args below meth c nL D aC ad A sh (MQ below (kQ2 D aC nb b sh PZ A) args s mc ms A) cells slots z pc L [] := by
  intro H locs ls hP hS hl
  exact W.widen hc.1 hc.2 (W.vret G.1 G.2.1 hr (fun t ht hW => ⟨⟨(ad, z), rfl, ⟨hb, G.2.2.2.2.2.2.1, G.2.2.2.2.2.2.2.1, hz⟩, by rw [ht]; exact hP, va_K.moved hW.alike G.K⟩, hS.F ht⟩) hS.2.2 hdg G.locks)
def zZ : wZ := fun _ _ => 0
theorem zZ_R : Rng zZ := fun k a => ⟨by show wlo k ≤ 0; unfold wlo; split <;> omega, by show 0 ≤ whi k; unfold whi; split <;> omega⟩
end BORNK
