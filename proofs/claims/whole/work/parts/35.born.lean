/-! WORLDS THAT GROW: what constructors do, over a list of cells -/
section BORN
def JL (p : Program) (l : Launch) (e : Env) (R : Room) (s : State) (m : MethodId) (args : Array Value) (below : List Frame) (meth : Method) (c : Code) (nL : Nat) (D : va_G) (A : Nat → Prop) (Q : State → Prop) (cells slots : Nat) (ws : va_W) (pc : Nat) (L : List (Option Value)) (st : List Value) : Prop :=
  ∀ (H : Heap) (locs : List Loc) (ls : Array Slot), va_P D vwCl ws H → va_D A ws → va_S A s.heap H locs → lvh ls nL L → W p l e R s m args below meth c H locs cells slots Q (F0 m pc ls st)
variable {p : Program} {l : Launch} {e : Env} {R : Room} {s : State} {m : MethodId} {args : Array Value} {below : List Frame} {meth : Method} {c : Code} {cc : ByteArray} {own : String} {nL : Nat} {D : va_G} {aC : Nat → ClassId} {ad : Nat → Nat} {A : Nat → Prop} {Q : State → Prop} {cells slots : Nat} {ws : va_W} {pc : Nat} {L : List (Option Value)} {st : List Value} {mc ms : Nat}
/-- a growing world that has come to be a shape's -/
theorem l_to {sh : wSh} {z : wZ} (hw : ws = wd aC ad sh z) (k : JW p l e R s m args below meth c nL D aC ad A sh Q cells slots z pc L st) : JL p l e R s m args below meth c nL D A Q cells slots ws pc L st :=
  fun H locs ls hP _ hS hl => k H locs ls (hw ▸ hP) hS hl
theorem l_aload_n (G : wG p s m args meth c cc own nL D aC ad A []) {i : Fin 4} {x : Nat} (hdg : decode cc pc = .ok (.aload_n i, 1)) (hL : L[(i : Nat)]? = some (some (.ref x))) (k : JL p l e R s m args below meth c nL D A Q cells slots ws (pc + 1) L (.ref x :: st)) : JL p l e R s m args below meth c nL D A Q cells slots ws pc L st :=
  fun H locs ls hP hD hS hl => lv_aload_n G.1 G.2.1 hdg rfl (hl.2.2.2 i _ hL).1 (k H locs ls hP hD hS hl)
theorem l_iconst (G : wG p s m args meth c cc own nL D aC ad A []) {n : Int} (hdg : decode cc pc = .ok (.iconst n, 1)) (k : JL p l e R s m args below meth c nL D A Q cells slots ws (pc + 1) L (vi n :: st)) : JL p l e R s m args below meth c nL D A Q cells slots ws pc L st :=
  fun H locs ls hP hD hS hl => lv_iconst G.1 G.2.1 hdg rfl (k H locs ls hP hD hS hl)
theorem l_bipush (G : wG p s m args meth c cc own nL D aC ad A []) {n : Int} (hdg : decode cc pc = .ok (.bipush n, 2)) (hn : (Int8.ofInt n).toInt32 = Int32.ofInt n) (k : JL p l e R s m args below meth c nL D A Q cells slots ws (pc + 2) L (vi n :: st)) : JL p l e R s m args below meth c nL D A Q cells slots ws pc L st :=
  fun H locs ls hP hD hS hl => lv_bipush G.1 G.2.1 hdg hn (k H locs ls hP hD hS hl)
theorem l_sipush (G : wG p s m args meth c cc own nL D aC ad A []) {n : Int} (hdg : decode cc pc = .ok (.sipush n, 3)) (hn : (Int16.ofInt n).toInt32 = Int32.ofInt n) (k : JL p l e R s m args below meth c nL D A Q cells slots ws (pc + 3) L (vi n :: st)) : JL p l e R s m args below meth c nL D A Q cells slots ws pc L st :=
  fun H locs ls hP hD hS hl => lv_sipush G.1 G.2.1 hdg hn (k H locs ls hP hD hS hl)
theorem l_dup (G : wG p s m args meth c cc own nL D aC ad A []) {v : Value} (hv : v.category = 1) (hdg : decode cc pc = .ok (.dup, 1)) (k : JL p l e R s m args below meth c nL D A Q cells slots ws (pc + 1) L (v :: v :: st)) : JL p l e R s m args below meth c nL D A Q cells slots ws pc L (v :: st) :=
  fun H locs ls hP hD hS hl => lv_dup G.1 G.2.1 hdg hv (k H locs ls hP hD hS hl)
theorem l_newarr (G : wG p s m args meth c cc own nL D aC ad A []) {at0 : ArrayType} {ty : FieldType} {t0 N : Nat} {n : Int} (hty : newarray.typeOf at0 = ty) (hw : Cond.arrayClass ty ∈ wALL) (ht : (wty aC)[t0]? = some (aC t0, ty)) (hRA : ∀ a b, va_RA s a ty → va_RA s b ty → a = b) (hdv : defaultValue ty = .int 0) (hcb : componentBytes ty ≤ 4)
    (hn : n = (N : Int)) (hN : N ≤ 1000) (hcells : cells + 1 ≤ R.cells) (hslots : slots + N ≤ R.slots) (hdg : decode cc pc = .ok (.newarray at0, 2))
    (kk : ∀ q : Nat, JL p l e R s m args below meth c nL D A Q (cells + 1) (slots + N) (ws ++ [(q, .inl (aC t0, (N, .inl (fun _ => (0 : Int32)))))]) (pc + 2) L (.ref q :: st)) : JL p l e R s m args below meth c nL D A Q cells slots ws pc L (vi n :: st) := by
  intro H locs ls hP hD hS hl
  have hx : (Int32.ofInt n).toInt = (N : Int) := by rw [hn]; exact Int32.toInt_ofInt_of_le (by omega) (by omega)
  refine va_newa (D := D) (cl := vwCl) (tys := wty aC) (a0 := (N, .inl (fun _ => (0 : Int32)))) G.1 G.2.1 (ty := ty) (by rw [hty]; exact G.ts _ hw) hty G.K hP hD hS G.2.2.2.2.2.2.2.2.1 (fun cA => ?_) (fun h => ?_) (N' := N) ?_ ?_ hcells hslots hdg ?_
  · rw [hdv]; rfl
  · rw [Int32.lt_iff_toInt_lt, hx] at h
    have h0 : (0 : Int32).toInt = 0 := by decide
    omega
  · show (Int32.ofInt n).toInt.toNat = N
    rw [hx]; rfl
  · exact Nat.le_trans (Nat.mul_le_mul hN hcb) (by decide)
  · intro q cA H1 hK1 hP1 hD1 hS1
    have e5 : (wty aC ++ [(cA, ty)])[5]? = some (cA, ty) := rfl
    have he : cA = aC t0 := hRA _ _ (hK1.2 5 _ e5).2 (G.K.2 t0 _ ht).2
    subst he
    exact kk q H1 locs ls hP1 hD1 hS1 hl
theorem l_new (G : wG p s m args meth c cc own nL D aC ad A []) {C : String} {T : u_T} {N ci index : Nat} {fs : List Value} (hc : vwCl[ci]? = some (C, T, N)) (hin : ∀ w ∈ u_ws C T N, w ∈ wALL) {ty : Nat → FieldType} (hty : ∀ k, k < N → parseFieldDescriptor (T k).2.2.1 = some (ty k)) (hcl : Cond.classLink own index C ∈ wALL) (hit : Cond.instantiable C N ∈ wALL) (hini : Cond.initialized C ∈ wALL) (hfs : ∀ j, j < N → defaultValue (ty j) = vp_V fs j)
    (hcells : cells + 1 ≤ R.cells) (hslots : slots + N ≤ R.slots) (hdg : decode cc pc = .ok (.new index, 3))
    (kk : ∀ q : Nat, JL p l e R s m args below meth c nL D A Q (cells + 1) (slots + N) (ws ++ [(q, .inr (ci, fs))]) (pc + 3) L (.ref q :: st)) : JL p l e R s m args below meth c nL D A Q cells slots ws pc L st :=
  fun H locs ls hP hD hS hl => va_new (D := D) (cl := vwCl) (tys := wty aC) G.1 G.2.1 G.ts hin ty hty G.hown (G.ts _ hcl) (G.ts _ hit) (G.ts _ hini) G.K hP hD hS G.2.2.2.2.2.2.2.2.1 hc hfs hcells hslots hdg (fun q H1 hP1 hD1 hS1 => kk q H1 locs ls hP1 hD1 hS1 hl)
/-- a field is given its first value -/
theorem l_put (G : wG p s m args meth c cc own nL D aC ad A []) (hnm0 : meth.name = "<init>") {idx ci k N : Nat} {C : String} {T : u_T} {ty0 : Nat → FieldType} (F : wFL own idx ci k C T N) (hty : ∀ k, k < N → parseFieldDescriptor (T k).2.2.1 = some (ty0 k)) (hnm : ∀ a, a < N → ∀ b, b < N → a ≠ b → (T a).2.1 ≠ (T b).2.1) (hown : (T k).1 = own) (q0 : Nat) {a : Nat} {fs : List Value} (he : ws[q0]? = some (a, .inr (ci, fs))) {v : Value} (hn : narrow (ty0 k) v = v) (hfit : fits (ty0 k) v = true) (hl0 : k < fs.length) (hdg : decode cc pc = .ok (.putfield idx, 3))
    {ws' : va_W} (hw : ws.set q0 (a, .inr (ci, fs.set k v)) = ws') (kk : JL p l e R s m args below meth c nL D A Q cells slots ws' (pc + 3) L st) : JL p l e R s m args below meth c nL D A Q cells slots ws pc L (v :: .ref a :: st) := by
  intro H locs ls hP hD hS hl
  subst hw
  have hs : ∀ x, s.fieldFound? (T k).1 (T k).2.1 (T k).2.2.1 = some x → s.fieldFound? C (T k).2.1 (T k).2.2.1 = some x := fun _ h9 => by rw [F.2.2.2.2] at h9; exact h9
  cases hf : (T k).2.2.2 with
  | false => exact va_put (D := D) (cl := vwCl) (tys := wty aC) (ci := ci) (v := v) (ty := ty0 k) (C := C) (T := T) (N := N) G.1 G.2.1 G.ts F.2.1 ty0 hty hnm G.hown G.K hP hD hS q0 he F.1 k F.2.2.1 (G.ts _ F.2.2.2.1) hs hf (hty k F.2.2.1) hn hfit hl0 hdg
      (fun H1 locs1 hP1 hD1 hS1 => kk H1 locs1 ls hP1 hD1 hS1 hl)
  | true => exact va_putF (D := D) (cl := vwCl) (tys := wty aC) (ci := ci) (v := v) (ty := ty0 k) (C := C) (T := T) (N := N) G.1 G.2.1 G.ts F.2.1 ty0 hty hnm G.hown G.K hP hD hS q0 he F.1 k F.2.2.1 (G.ts _ F.2.2.2.1) hs hf hnm0 hown (hty k F.2.2.1) hn hfit hl0 hdg
      (fun H1 locs1 hP1 hD1 hS1 => kk H1 locs1 ls hP1 hD1 hS1 hl)
theorem l_iast (G : wG p s m args meth c cc own nL D aC ad A []) (q0 : Nat) {a n : Nat} {f : Nat → Int32} (he : ws[q0]? = some (a, .inl (aC 0, (n, .inl f)))) (hn : n < 2147483648) {i x : Int} (h0 : 0 ≤ i) (h1 : i < (n : Int)) (hdg : decode cc pc = .ok (.iastore, 1)) {ws' : va_W} (hw : ws.set q0 (a, .inl (aC 0, (n, .inl (upd f (Int32.ofInt i).toNatClampNeg (Int32.ofInt x))))) = ws')
    (kk : JL p l e R s m args below meth c nL D A Q cells slots ws' (pc + 1) L st) : JL p l e R s m args below meth c nL D A Q cells slots ws pc L (vi x :: vi i :: .ref a :: st) :=
  fun H locs ls hP hD hS hl => va_iast G.1 G.2.1 G.K hP hD hS q0 0 he rfl (wi_in h0 h1 hn) hdg (fun H1 locs1 hP1 hD1 hS1 => kk H1 locs1 ls (hw ▸ hP1) (hw ▸ hD1) hS1 hl)
theorem l_obj (G : wG p s m args meth c cc own nL D aC ad A []) {idx a : Nat} (hlink : Cond.methodLink own idx Lib.objectInit ∈ wALL) (hdg : decode cc pc = .ok (.invokespecial idx, 3)) (hinst : Cond.instanceMethod Lib.objectInit ∈ wALL) (hcode : Cond.code Lib.objectInit ⟨#[0xb1]⟩ 1 none ∈ wALL) (hR : 1 ≤ R.frames ∧ (st.map fun v => v.category).sum + 12 ≤ R.locals)
    (kk : JL p l e R s m args below meth c nL D A Q cells slots ws (pc + 3) L st) : JL p l e R s m args below meth c nL D A Q cells slots ws pc L (.ref a :: st) :=
  fun H locs ls hP hD hS hl => W.objInit G.1 G.2.1 G.hown (G.ts _ hlink) (G.ts _ hinst) (G.ts _ hcode) (g := F0 m pc ls (.ref a :: st)) rfl (by show ls.size = _; rw [G.2.2.1, hl.1]) rfl hdg hR.1 (by show 2 * 0 + _ + 12 ≤ _; omega) (kk H locs ls hP hD hS hl)
end BORN
