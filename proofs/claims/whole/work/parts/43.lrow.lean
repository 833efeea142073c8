/-! THE LAW'S LAYER: rows over raw worlds and lists of locals -/
section LAWR
def wNo (s : State) : Prop := ∀ E, E ∈ xEs → ∀ F, F ∈ xEs → E ≠ F → va_Nc E F s
theorem wNo.moved {u U : State} (h : u.vm.Alike U.vm) (q : wNo u) : wNo U := fun E h1 F h2 h3 => va_Nc.moved h (q E h1 F h2 h3)
def oL (aC : Nat → ClassId) (f : Nat → Int64) : va_E := .inl (aC 3, (1, .inr (.inl f)))
def oD (aC : Nat → ClassId) (f : Nat → UInt64) : va_E := .inl (aC 4, (1, .inr (.inr (.inr (.inl f)))))
theorem fr_Pl {D : va_G} {a b : va_W} {H : Heap} (h : va_P D vwCl (a ++ b) H) : va_P D vwCl a H := fun k q hk => h k q (by rw [List.getElem?_append_left (List.getElem?_eq_some_iff.mp hk).1]; exact hk)
theorem fr_Pr {D : va_G} {a b : va_W} {H : Heap} (h : va_P D vwCl (a ++ b) H) : va_P D vwCl b H := fun k q hk => h (a.length + k) q (by rw [List.getElem?_append_right (by omega)]; simpa using hk)
theorem fr_Dl {A : Nat → Prop} {a b : va_W} (h : va_D A (a ++ b)) : va_D A a := ⟨fun i j p q hi hj he => h.1 i j p q (by rw [List.getElem?_append_left (List.getElem?_eq_some_iff.mp hi).1]; exact hi) (by rw [List.getElem?_append_left (List.getElem?_eq_some_iff.mp hj).1]; exact hj) he, fun k q hk => h.2 k q (by rw [List.getElem?_append_left (List.getElem?_eq_some_iff.mp hk).1]; exact hk)⟩
theorem fr_Dr {A : Nat → Prop} {a b : va_W} (h : va_D A (a ++ b)) : va_D A b := ⟨fun i j p q hi hj he => by
  have := h.1 (a.length + i) (a.length + j) p q (by rw [List.getElem?_append_right (by omega)]; simpa using hi) (by rw [List.getElem?_append_right (by omega)]; simpa using hj) he
  omega, fun k q hk => h.2 (a.length + k) q (by rw [List.getElem?_append_right (by omega)]; simpa using hk)⟩
theorem fr_Dx {A : Nat → Prop} {a b : va_W} (h : va_D A (a ++ b)) {i j : Nat} {p q : Nat × va_E} (hi : a[i]? = some p) (hj : b[j]? = some q) : p.1 ≠ q.1 := fun he => by
  have h1 := (List.getElem?_eq_some_iff.mp hi).1
  have := h.1 i (a.length + j) p q (by rw [List.getElem?_append_left h1]; exact hi) (by rw [List.getElem?_append_right (by omega)]; simpa using hj) he
  omega
/-- behind a call: the callee's world anew, what stands beside it unchanged -/
theorem fr_go {A A1 : Nat → Prop} {D : va_G} {H H1 : Heap} {w0 wx w2 wx' : va_W} (hP : va_P D vwCl (w0 ++ (wx ++ w2)) H) (hD : va_D A (w0 ++ (wx ++ w2))) (hA1 : ∀ q, A1 q → (∃ (k : Nat) (e : va_E), wx[k]? = some (q, e)) ∨ H.size ≤ q) (hAA : ∀ q, A1 q → A q) (hk : ∀ q : Nat, q < H.size → ¬ A1 q → H1[q]? = H[q]?) (hP1 : va_P D vwCl wx' H1) (hD1 : va_D A1 wx') :
    va_P D vwCl (w0 ++ (wx' ++ w2)) H1 ∧ va_D A (w0 ++ (wx' ++ w2)) := by
  have n0 : ∀ (k : Nat) (x : Nat × va_E), w0[k]? = some x → x.1 < H.size ∧ ¬ A1 x.1 := fun k x hx => by
    have hl := (fr_Pl hP k x hx).lt
    refine ⟨hl, fun h => ?_⟩
    rcases hA1 _ h with ⟨k2, e, h⟩ | h
    · exact fr_Dx hD hx (show (wx ++ w2)[k2]? = some (x.1, e) by rw [List.getElem?_append_left (List.getElem?_eq_some_iff.mp h).1]; exact h) rfl
    · omega
  have n2 : ∀ (k : Nat) (x : Nat × va_E), w2[k]? = some x → x.1 < H.size ∧ ¬ A1 x.1 := fun k x hx => by
    have hl := (fr_Pr (fr_Pr hP) k x hx).lt
    refine ⟨hl, fun h => ?_⟩
    rcases hA1 _ h with ⟨k2, e, h⟩ | h
    · exact fr_Dx (fr_Dr hD) h hx rfl
    · omega
  refine ⟨va_P.app (va_P.kept (fr_Pl hP) (fun k x hx => hk _ (n0 k x hx).1 (n0 k x hx).2)) (va_P.app hP1 (va_P.kept (fr_Pr (fr_Pr hP)) (fun k x hx => hk _ (n2 k x hx).1 (n2 k x hx).2))), ?_⟩
  refine va_D.app (fr_Dl hD) (va_D.app (hD1.weaken (fun k q _ h => hAA q.1 h)) (fr_Dr (fr_Dr hD)) (fun i j x y hx hy he => ?_)) (fun i j x y hx hy he => ?_)
  · exact (n2 j y hy).2 (he ▸ hD1.2 i x hx)
  · rcases Nat.lt_or_ge j wx'.length with h | h
    · rw [List.getElem?_append_left h] at hy
      exact (n0 i x hx).2 (he ▸ hD1.2 j y hy)
    · rw [List.getElem?_append_right h] at hy
      exact fr_Dx hD hx (show (wx ++ w2)[wx.length + (j - wx'.length)]? = some y by rw [List.getElem?_append_right (by omega)]; simpa using hy) he
theorem fr_wA {ad : Nat → Nat} {aC : Nat → ClassId} {sh : wSh} {z : wZ} {sz : Nat} : ∀ q, wAd ad sh sz q → (∃ (k : Nat) (e : va_E), (wd aC ad sh z)[k]? = some (q, e)) ∨ sz ≤ q := fun q h => by
  rcases h with ⟨c, hc, rfl⟩ | h
  · obtain ⟨i, hi⟩ := List.getElem?_of_mem hc
    exact Or.inl ⟨i, _, wd_get hi⟩
  · exact Or.inr h
theorem fr_wAA {A : Nat → Prop} {ad : Nat → Nat} {aC : Nat → ClassId} {sh : wSh} {z : wZ} {w0 w2 : va_W} {sz : Nat} (hD : va_D A (w0 ++ (wd aC ad sh z ++ w2))) (h : ∀ q : Nat, sz ≤ q → A q) : ∀ q, wAd ad sh sz q → A q := fun q hq => by
  rcases hq with ⟨c, hc, rfl⟩ | hq
  · obtain ⟨i, hi⟩ := List.getElem?_of_mem hc
    exact (fr_Dl (fr_Dr hD)).2 i _ (wd_get hi)
  · exact h q hq
theorem fr_Di {A : Nat → Prop} {ad : Nat → Nat} {aC : Nat → ClassId} {sh : wSh} {z : wZ} {w0 w2 : va_W} (hD : va_D A (w0 ++ (wd aC ad sh z ++ w2))) : wDi ad sh := wDi_of (fr_Dl (fr_Dr hD))
/-- the fixed facts of a walk -/
def lG (p : Program) (s : State) (m : MethodId) (args : Array Value) (meth : Method) (c : Code) (cc : ByteArray) (own : String) (nL : Nat) (D : va_G) (aC : Nat → ClassId) (A : Nat → Prop) : Prop :=
  p.tables.exec = Jvm.exec ∧ c.code = cc ∧ c.maxLocals = nL ∧ s.vm.findClass own = some m.cls ∧ (∀ w ∈ wALL, w.before args s = true) ∧ va_K D vwCl (wty aC) s ∧ (∀ q : Nat, s.heap.size ≤ q → A q) ∧ meth.locks = false
def JR (p : Program) (l : Launch) (e : Env) (R : Room) (s : State) (m : MethodId) (args : Array Value) (below : List Frame) (meth : Method) (c : Code) (nL : Nat) (D : va_G) (A : Nat → Prop) (Q : State → Prop) (cells slots : Nat) (ws : va_W) (pc : Nat) (Lv : List (Nat × Value)) (st : List Value) : Prop :=
  ∀ (H : Heap) (locs : List Loc) (ls : Array Slot), va_P D vwCl ws H → va_D A ws → va_S A s.heap H locs → lv_has ls nL Lv → W p l e R s m args below meth c H locs cells slots Q (F0 m pc ls st)
/-- E is thrown over the frame -/
def JX (p : Program) (l : Launch) (e : Env) (R : Room) (s : State) (m : MethodId) (args : Array Value) (below : List Frame) (meth : Method) (c : Code) (nL : Nat) (D : va_G) (A : Nat → Prop) (Q : State → Prop) (cells slots : Nat) (ws : va_W) (pc : Nat) (Lv : List (Nat × Value)) (st : List Value) (E : String) : Prop :=
  ∀ (H : Heap) (locs : List Loc) (ls : Array Slot) (ce : Cell) (q9 : Addr), va_P D vwCl ws H → va_D A ws → va_S A s.heap H locs → lv_has ls nL Lv → H[q9]? = some ce → ce.vm = .none → s.vm.findClass E = some ce.cls → vx_W p l e R s m args below meth c H locs cells slots Q (F0 m pc ls st) q9
variable {p : Program} {l : Launch} {e : Env} {R : Room} {s : State} {m : MethodId} {args : Array Value} {below : List Frame} {meth : Method} {c : Code} {cc : ByteArray} {own : String} {nL : Nat} {D : va_G} {aC : Nat → ClassId} {ad : Nat → Nat} {A : Nat → Prop} {Q : State → Prop} {cells slots : Nat} {ws w0 w2 : va_W} {pc : Nat} {Lv : List (Nat × Value)} {st : List Value} {sh : wSh} {z y : wZ}
theorem r_iload (G : lG p s m args meth c cc own nL D aC A) {i : Nat} {x : Int32} (k0 : Nat) (hdg : decode cc pc = .ok (.iload i, 2)) (hL : Lv[k0]? = some (i, .int x)) (k : JR p l e R s m args below meth c nL D A Q cells slots ws (pc + 2) Lv (.int x :: st)) : JR p l e R s m args below meth c nL D A Q cells slots ws pc Lv st :=
  fun H locs ls hP hD hS hl => lv_iload G.1 G.2.1 hdg (lv_at hl k0 hL) (k H locs ls hP hD hS hl)
theorem r_fload (G : lG p s m args meth c cc own nL D aC A) {i : Nat} {x : UInt32} (k0 : Nat) (hdg : decode cc pc = .ok (.fload i, 2)) (hL : Lv[k0]? = some (i, .float x)) (k : JR p l e R s m args below meth c nL D A Q cells slots ws (pc + 2) Lv (.float x :: st)) : JR p l e R s m args below meth c nL D A Q cells slots ws pc Lv st :=
  fun H locs ls hP hD hS hl => lv_fload G.1 G.2.1 hdg (lv_at hl k0 hL) (k H locs ls hP hD hS hl)
theorem r_dload (G : lG p s m args meth c cc own nL D aC A) {i : Nat} {x : UInt64} (k0 : Nat) (hdg : decode cc pc = .ok (.dload i, 2)) (hL : Lv[k0]? = some (i, .double x)) (k : JR p l e R s m args below meth c nL D A Q cells slots ws (pc + 2) Lv (.double x :: st)) : JR p l e R s m args below meth c nL D A Q cells slots ws pc Lv st :=
  fun H locs ls hP hD hS hl => lv_dload G.1 G.2.1 hdg (lv_at hl k0 hL) (k H locs ls hP hD hS hl)
theorem r_iload_n (G : lG p s m args meth c cc own nL D aC A) {i : Fin 4} {x : Int32} (k0 : Nat) (hdg : decode cc pc = .ok (.iload_n i, 1)) (hL : Lv[k0]? = some ((i : Nat), .int x)) (k : JR p l e R s m args below meth c nL D A Q cells slots ws (pc + 1) Lv (.int x :: st)) : JR p l e R s m args below meth c nL D A Q cells slots ws pc Lv st :=
  fun H locs ls hP hD hS hl => lv_iload_n G.1 G.2.1 hdg rfl (lv_at hl k0 hL) (k H locs ls hP hD hS hl)
theorem r_aload (G : lG p s m args meth c cc own nL D aC A) {i : Nat} {x : Nat} (k0 : Nat) (hdg : decode cc pc = .ok (.aload i, 2)) (hL : Lv[k0]? = some (i, .ref x)) (k : JR p l e R s m args below meth c nL D A Q cells slots ws (pc + 2) Lv (.ref x :: st)) : JR p l e R s m args below meth c nL D A Q cells slots ws pc Lv st :=
  fun H locs ls hP hD hS hl => lv_aload G.1 G.2.1 hdg (lv_at hl k0 hL) (k H locs ls hP hD hS hl)
theorem r_aload_n (G : lG p s m args meth c cc own nL D aC A) {i : Fin 4} {x : Nat} (k0 : Nat) (hdg : decode cc pc = .ok (.aload_n i, 1)) (hL : Lv[k0]? = some ((i : Nat), .ref x)) (k : JR p l e R s m args below meth c nL D A Q cells slots ws (pc + 1) Lv (.ref x :: st)) : JR p l e R s m args below meth c nL D A Q cells slots ws pc Lv st :=
  fun H locs ls hP hD hS hl => lv_aload_n G.1 G.2.1 hdg rfl (lv_at hl k0 hL) (k H locs ls hP hD hS hl)
theorem r_iconst (G : lG p s m args meth c cc own nL D aC A) {n : Int} (hdg : decode cc pc = .ok (.iconst n, 1)) (k : JR p l e R s m args below meth c nL D A Q cells slots ws (pc + 1) Lv (vi n :: st)) : JR p l e R s m args below meth c nL D A Q cells slots ws pc Lv st :=
  fun H locs ls hP hD hS hl => lv_iconst G.1 G.2.1 hdg rfl (k H locs ls hP hD hS hl)
theorem r_bipush (G : lG p s m args meth c cc own nL D aC A) {n : Int} (hdg : decode cc pc = .ok (.bipush n, 2)) (hn : (Int8.ofInt n).toInt32 = Int32.ofInt n) (k : JR p l e R s m args below meth c nL D A Q cells slots ws (pc + 2) Lv (vi n :: st)) : JR p l e R s m args below meth c nL D A Q cells slots ws pc Lv st :=
  fun H locs ls hP hD hS hl => lv_bipush G.1 G.2.1 hdg hn (k H locs ls hP hD hS hl)
theorem r_dup (G : lG p s m args meth c cc own nL D aC A) {v : Value} (hv : v.category = 1) (hdg : decode cc pc = .ok (.dup, 1)) (k : JR p l e R s m args below meth c nL D A Q cells slots ws (pc + 1) Lv (v :: v :: st)) : JR p l e R s m args below meth c nL D A Q cells slots ws pc Lv (v :: st) :=
  fun H locs ls hP hD hS hl => lv_dup G.1 G.2.1 hdg hv (k H locs ls hP hD hS hl)
theorem r_iadd (G : lG p s m args meth c cc own nL D aC A) {x y : Int32} (hdg : decode cc pc = .ok (.iadd, 1)) (k : JR p l e R s m args below meth c nL D A Q cells slots ws (pc + 1) Lv (.int (x + y) :: st)) : JR p l e R s m args below meth c nL D A Q cells slots ws pc Lv (.int y :: .int x :: st) :=
  fun H locs ls hP hD hS hl => lv_iadd G.1 G.2.1 hdg (k H locs ls hP hD hS hl)
theorem r_isub (G : lG p s m args meth c cc own nL D aC A) {x y : Int32} (hdg : decode cc pc = .ok (.isub, 1)) (k : JR p l e R s m args below meth c nL D A Q cells slots ws (pc + 1) Lv (.int (x - y) :: st)) : JR p l e R s m args below meth c nL D A Q cells slots ws pc Lv (.int y :: .int x :: st) :=
  fun H locs ls hP hD hS hl => lv_isub G.1 G.2.1 hdg (k H locs ls hP hD hS hl)
theorem r_iand (G : lG p s m args meth c cc own nL D aC A) {x y : Int32} (hdg : decode cc pc = .ok (.iand, 1)) (k : JR p l e R s m args below meth c nL D A Q cells slots ws (pc + 1) Lv (.int (x &&& y) :: st)) : JR p l e R s m args below meth c nL D A Q cells slots ws pc Lv (.int y :: .int x :: st) :=
  fun H locs ls hP hD hS hl => lv_iand G.1 G.2.1 hdg (k H locs ls hP hD hS hl)
theorem r_i2l (G : lG p s m args meth c cc own nL D aC A) {x : Int32} (hdg : decode cc pc = .ok (.i2l, 1)) (k : JR p l e R s m args below meth c nL D A Q cells slots ws (pc + 1) Lv (.long x.toInt64 :: st)) : JR p l e R s m args below meth c nL D A Q cells slots ws pc Lv (.int x :: st) :=
  fun H locs ls hP hD hS hl => lv_i2l G.1 G.2.1 hdg rfl (k H locs ls hP hD hS hl)
theorem r_i2c (G : lG p s m args meth c cc own nL D aC A) {x : Int32} (hdg : decode cc pc = .ok (.i2c, 1)) (k : JR p l e R s m args below meth c nL D A Q cells slots ws (pc + 1) Lv (.int ((x.toUInt32 % 65536).toInt32) :: st)) : JR p l e R s m args below meth c nL D A Q cells slots ws pc Lv (.int x :: st) :=
  fun H locs ls hP hD hS hl => lv_i2c G.1 G.2.1 hdg rfl (k H locs ls hP hD hS hl)
theorem r_lconst (G : lG p s m args meth c cc own nL D aC A) {n : Fin 2} {v : Int64} (hv : Int64.ofNat (n : Nat) = v) (hdg : decode cc pc = .ok (.lconst n, 1)) (k : JR p l e R s m args below meth c nL D A Q cells slots ws (pc + 1) Lv (.long v :: st)) : JR p l e R s m args below meth c nL D A Q cells slots ws pc Lv st :=
  fun H locs ls hP hD hS hl => lv_lconst G.1 G.2.1 hdg hv (k H locs ls hP hD hS hl)
theorem r_f2d (G : lG p s m args meth c cc own nL D aC A) {x : UInt32} (hne : vf_n64 (FP.f2d x)) (hdg : decode cc pc = .ok (.f2d, 1)) (k : JR p l e R s m args below meth c nL D A Q cells slots ws (pc + 1) Lv (.double (FP.f2d x) :: st)) : JR p l e R s m args below meth c nL D A Q cells slots ws pc Lv (.float x :: st) :=
  fun H locs ls hP hD hS hl => lv_f2d G.1 G.2.1 hdg hne (k H locs ls hP hD hS hl)
theorem r_goto (G : lG p s m args meth c cc own nL D aC A) {off : Int} {tgt : Nat} (hdg : decode cc pc = .ok (.goto off, 3)) (ht : (pc : Int) + off = (tgt : Int)) (k : JR p l e R s m args below meth c nL D A Q cells slots ws tgt Lv st) : JR p l e R s m args below meth c nL D A Q cells slots ws pc Lv st :=
  fun H locs ls hP hD hS hl => lv_goto G.1 G.2.1 hdg ht (k H locs ls hP hD hS hl)
theorem r_istore (G : lG p s m args meth c cc own nL D aC A) {i : Nat} {x : Int32} {Lv' : List (Nat × Value)} (hdg : decode cc pc = .ok (.istore i, 2)) (hi : (i : Nat) < nL) (hL : ((i : Nat), .int x) :: Lv.filter (fun q => !(q.1 == (i : Nat)) && !(q.1 + 1 == (i : Nat) && q.2.category == 2)) = Lv') (k : JR p l e R s m args below meth c nL D A Q cells slots ws (pc + 2) Lv' st) : JR p l e R s m args below meth c nL D A Q cells slots ws pc Lv (.int x :: st) :=
  fun H locs ls hP hD hS hl => lv_istore G.1 G.2.1 hdg hl hi hL (fun ls' hl' => k H locs ls' hP hD hS hl')
theorem r_fstore (G : lG p s m args meth c cc own nL D aC A) {i : Nat} {x : UInt32} {Lv' : List (Nat × Value)} (hdg : decode cc pc = .ok (.fstore i, 2)) (hi : (i : Nat) < nL) (hL : ((i : Nat), .float x) :: Lv.filter (fun q => !(q.1 == (i : Nat)) && !(q.1 + 1 == (i : Nat) && q.2.category == 2)) = Lv') (k : JR p l e R s m args below meth c nL D A Q cells slots ws (pc + 2) Lv' st) : JR p l e R s m args below meth c nL D A Q cells slots ws pc Lv (.float x :: st) :=
  fun H locs ls hP hD hS hl => lv_fstore G.1 G.2.1 hdg hl hi hL (fun ls' hl' => k H locs ls' hP hD hS hl')
theorem r_dstore (G : lG p s m args meth c cc own nL D aC A) {i : Nat} {x : UInt64} {Lv' : List (Nat × Value)} (hdg : decode cc pc = .ok (.dstore i, 2)) (hi : (i : Nat) + 1 < nL) (hL : ((i : Nat), .double x) :: Lv.filter (fun q => !(q.1 == (i : Nat)) && (!(q.1 == (i : Nat) + 1) && !(q.1 + 1 == (i : Nat) && q.2.category == 2))) = Lv') (k : JR p l e R s m args below meth c nL D A Q cells slots ws (pc + 2) Lv' st) : JR p l e R s m args below meth c nL D A Q cells slots ws pc Lv (.double x :: st) :=
  fun H locs ls hP hD hS hl => lv_dstore G.1 G.2.1 hdg hl hi hL (fun ls' hl' => k H locs ls' hP hD hS hl')
theorem r_astore (G : lG p s m args meth c cc own nL D aC A) {i : Nat} {x : Nat} {Lv' : List (Nat × Value)} (hdg : decode cc pc = .ok (.astore i, 2)) (hi : (i : Nat) < nL) (hL : ((i : Nat), .ref x) :: Lv.filter (fun q => !(q.1 == (i : Nat)) && !(q.1 + 1 == (i : Nat) && q.2.category == 2)) = Lv') (k : JR p l e R s m args below meth c nL D A Q cells slots ws (pc + 2) Lv' st) : JR p l e R s m args below meth c nL D A Q cells slots ws pc Lv (.ref x :: st) :=
  fun H locs ls hP hD hS hl => lv_astore G.1 G.2.1 hdg hl hi hL (fun ls' hl' => k H locs ls' hP hD hS hl')
theorem r_astore_n (G : lG p s m args meth c cc own nL D aC A) {i : Fin 4} {x : Nat} {Lv' : List (Nat × Value)} (hdg : decode cc pc = .ok (.astore_n i, 1)) (hi : (i : Nat) < nL) (hL : ((i : Nat), .ref x) :: Lv.filter (fun q => !(q.1 == (i : Nat)) && !(q.1 + 1 == (i : Nat) && q.2.category == 2)) = Lv') (k : JR p l e R s m args below meth c nL D A Q cells slots ws (pc + 1) Lv' st) : JR p l e R s m args below meth c nL D A Q cells slots ws pc Lv (.ref x :: st) :=
  fun H locs ls hP hD hS hl => lv_astore_n G.1 G.2.1 hdg rfl hl hi hL (fun ls' hl' => k H locs ls' hP hD hS hl')
theorem r_iinc (G : lG p s m args meth c cc own nL D aC A) {i : Nat} {n : Int} {x v : Int32} (k0 : Nat) {Lv' : List (Nat × Value)} (hdg : decode cc pc = .ok (.iinc i n, 3)) (hk : Lv[k0]? = some (i, .int x)) (hv : x + Int32.ofInt n = v) (hi : i < nL) (hL : (i, .int v) :: Lv.filter (fun q => !(q.1 == i) && !(q.1 + 1 == i && q.2.category == 2)) = Lv') (k : JR p l e R s m args below meth c nL D A Q cells slots ws (pc + 3) Lv' st) : JR p l e R s m args below meth c nL D A Q cells slots ws pc Lv st :=
  fun H locs ls hP hD hS hl => lv_iinc G.1 G.2.1 hdg hl hk hv hi hL (fun ls' hl' => k H locs ls' hP hD hS hl')
theorem r_sub {Lv' : List (Nat × Value)} (ks : List Nat) (hl : lv_pick Lv ks = Lv') (k : JR p l e R s m args below meth c nL D A Q cells slots ws pc Lv' st) : JR p l e R s m args below meth c nL D A Q cells slots ws pc Lv st :=
  fun H locs ls hP hD hS h => k H locs ls hP hD hS (lv_sub h ks hl)
theorem r_widen (c' s' : Nat) (hc : cells ≤ c') (hs : slots ≤ s') (k : JR p l e R s m args below meth c nL D A Q c' s' ws pc Lv st) : JR p l e R s m args below meth c nL D A Q cells slots ws pc Lv st :=
  fun H locs ls hP hD hS hl => W.widen hc hs (k H locs ls hP hD hS hl)
theorem r_if_eq (G : lG p s m args meth c cc own nL D aC A) {x : Int32} {off : Int} {tgt : Nat} (hdg : decode cc pc = .ok (.ifCond .eq off, 3)) (ht : (pc : Int) + off = (tgt : Int)) (kt : x = 0 → JR p l e R s m args below meth c nL D A Q cells slots ws tgt Lv st) (kf : ¬ x = 0 → JR p l e R s m args below meth c nL D A Q cells slots ws (pc + 3) Lv st) : JR p l e R s m args below meth c nL D A Q cells slots ws pc Lv (.int x :: st) :=
  fun H locs ls hP hD hS hl => lv_if_eq G.1 G.2.1 hdg ht (fun h => kt h H locs ls hP hD hS hl) (fun h => kf h H locs ls hP hD hS hl)
theorem r_if_ne (G : lG p s m args meth c cc own nL D aC A) {x : Int32} {off : Int} {tgt : Nat} (hdg : decode cc pc = .ok (.ifCond .ne off, 3)) (ht : (pc : Int) + off = (tgt : Int)) (kt : ¬ x = 0 → JR p l e R s m args below meth c nL D A Q cells slots ws tgt Lv st) (kf : x = 0 → JR p l e R s m args below meth c nL D A Q cells slots ws (pc + 3) Lv st) : JR p l e R s m args below meth c nL D A Q cells slots ws pc Lv (.int x :: st) :=
  fun H locs ls hP hD hS hl => lv_if_ne G.1 G.2.1 hdg ht (fun h => kt h H locs ls hP hD hS hl) (fun h => kf h H locs ls hP hD hS hl)
theorem r_icmp_gt (G : lG p s m args meth c cc own nL D aC A) {x y : Int32} {off : Int} {tgt : Nat} (hdg : decode cc pc = .ok (.if_icmp .gt off, 3)) (ht : (pc : Int) + off = (tgt : Int)) (kt : y < x → JR p l e R s m args below meth c nL D A Q cells slots ws tgt Lv st) (kf : ¬ y < x → JR p l e R s m args below meth c nL D A Q cells slots ws (pc + 3) Lv st) : JR p l e R s m args below meth c nL D A Q cells slots ws pc Lv (.int y :: .int x :: st) :=
  fun H locs ls hP hD hS hl => lv_icmp_gt G.1 G.2.1 hdg ht (fun h => kt h H locs ls hP hD hS hl) (fun h => kf h H locs ls hP hD hS hl)
theorem r_icmp_eq (G : lG p s m args meth c cc own nL D aC A) {x y : Int32} {off : Int} {tgt : Nat} (hdg : decode cc pc = .ok (.if_icmp .eq off, 3)) (ht : (pc : Int) + off = (tgt : Int)) (kt : x = y → JR p l e R s m args below meth c nL D A Q cells slots ws tgt Lv st) (kf : ¬ x = y → JR p l e R s m args below meth c nL D A Q cells slots ws (pc + 3) Lv st) : JR p l e R s m args below meth c nL D A Q cells slots ws pc Lv (.int y :: .int x :: st) :=
  fun H locs ls hP hD hS hl => lv_icmp_eq G.1 G.2.1 hdg ht (fun h => kt h H locs ls hP hD hS hl) (fun h => kf h H locs ls hP hD hS hl)
theorem r_icmp_same (G : lG p s m args meth c cc own nL D aC A) {x : Int32} {off : Int} {tgt : Nat} (hdg : decode cc pc = .ok (.if_icmp .eq off, 3)) (ht : (pc : Int) + off = (tgt : Int)) (kt : JR p l e R s m args below meth c nL D A Q cells slots ws tgt Lv st) : JR p l e R s m args below meth c nL D A Q cells slots ws pc Lv (.int x :: .int x :: st) := r_icmp_eq G hdg ht (fun _ => kt) (fun h => absurd rfl h)
theorem r_ifeq_0 (G : lG p s m args meth c cc own nL D aC A) {off : Int} {tgt : Nat} (hdg : decode cc pc = .ok (.ifCond .eq off, 3)) (ht : (pc : Int) + off = (tgt : Int)) (kt : JR p l e R s m args below meth c nL D A Q cells slots ws tgt Lv st) : JR p l e R s m args below meth c nL D A Q cells slots ws pc Lv (.int 0 :: st) := r_if_eq G hdg ht (fun _ => kt) (fun h => absurd rfl h)
theorem r_ifne_i (G : lG p s m args meth c cc own nL D aC A) {x : Int} {off : Int} {tgt : Nat} (hdg : decode cc pc = .ok (.ifCond .ne off, 3)) (ht : (pc : Int) + off = (tgt : Int)) (hx : -2147483648 ≤ x ∧ x ≤ 2147483647) (kt : x ≠ 0 → JR p l e R s m args below meth c nL D A Q cells slots ws tgt Lv st) (kf : x = 0 → JR p l e R s m args below meth c nL D A Q cells slots ws (pc + 3) Lv st) : JR p l e R s m args below meth c nL D A Q cells slots ws pc Lv (vi x :: st) :=
  r_if_ne G hdg ht (fun h => kt (fun e => h (by rw [e]; rfl))) (fun h => kf ((wi_eq hx ⟨by decide, by decide⟩).mp h))
theorem r_lcmp_same (G : lG p s m args meth c cc own nL D aC A) {x : Int64} (hdg : decode cc pc = .ok (.lcmp, 1)) (k : JR p l e R s m args below meth c nL D A Q cells slots ws (pc + 1) Lv (.int 0 :: st)) : JR p l e R s m args below meth c nL D A Q cells slots ws pc Lv (.long x :: .long x :: st) :=
  fun H locs ls hP hD hS hl => W.lcmp G.1 G.2.1 hdg (by rw [show lg_cmp x x = 0 by unfold lg_cmp; rw [if_neg (by intro h; exact Int.lt_irrefl _ (Int64.lt_iff_toInt_lt.mp h)), if_pos rfl]]; exact k H locs ls hP hD hS hl)
theorem r_dcmp (G : lG p s m args meth c cc own nL D aC A) {x y : UInt64} {op : CmpOp} {v : Int32} (hv : Op.cmpValue (FP.dcmp x y) op = v) (hdg : decode cc pc = .ok (.dcmp op, 1)) (k : JR p l e R s m args below meth c nL D A Q cells slots ws (pc + 1) Lv (.int v :: st)) : JR p l e R s m args below meth c nL D A Q cells slots ws pc Lv (.double y :: .double x :: st) :=
  fun H locs ls hP hD hS hl => lv_dcmp G.1 G.2.1 hdg (by rw [hv]; exact k H locs ls hP hD hS hl)
def bz (x : Int) : Int := if x = 0 then 0 else 1
theorem bz_01 (x : Int) : bz x = 0 ∨ bz x = 1 := by unfold bz; split <;> omega
theorem r_bool (G : lG p s m args meth c cc own nL D aC A) {x : Int} (hx : -2147483648 ≤ x ∧ x ≤ 2147483647) (d0 : decode cc pc = .ok (.ifCond .eq 7, 3)) (d1 : decode cc (pc + 3) = .ok (.iconst 1, 1)) (d2 : decode cc (pc + 4) = .ok (.goto 4, 3)) (d3 : decode cc (pc + 7) = .ok (.iconst 0, 1)) (k : JR p l e R s m args below meth c nL D A Q cells slots ws (pc + 8) Lv (vi (bz x) :: st)) : JR p l e R s m args below meth c nL D A Q cells slots ws pc Lv (vi x :: st) := by
  have key : ∀ v : Int, bz x = v → JR p l e R s m args below meth c nL D A Q cells slots ws (pc + 8) Lv (vi v :: st) := fun v hv => hv ▸ k
  refine r_if_eq G (tgt := pc + 7) d0 (by omega) (fun h => ?_) (fun h => ?_)
  · refine r_iconst G d3 ?_
    exact key 0 (by unfold bz; rw [if_pos ((wi_eq (b := 0) hx ⟨by decide, by decide⟩).mp h)])
  · refine r_iconst G d1 (r_goto G (tgt := pc + 8) d2 (by omega) ?_)
    exact key 1 (by unfold bz; rw [if_neg (fun q => h (by rw [q]; rfl))])
def gZ (x : Int32) : Int64 := if x = 0 then 0 else 1
theorem r_lbool (G : lG p s m args meth c cc own nL D aC A) {x : Int32} (d0 : decode cc pc = .ok (.ifCond .eq 7, 3)) (d1 : decode cc (pc + 3) = .ok (.lconst 1, 1)) (d2 : decode cc (pc + 4) = .ok (.goto 4, 3)) (d3 : decode cc (pc + 7) = .ok (.lconst 0, 1)) (k : JR p l e R s m args below meth c nL D A Q cells slots ws (pc + 8) Lv (.long (gZ x) :: st)) : JR p l e R s m args below meth c nL D A Q cells slots ws pc Lv (.int x :: st) := by
  have key : ∀ v : Int64, gZ x = v → JR p l e R s m args below meth c nL D A Q cells slots ws (pc + 8) Lv (.long v :: st) := fun v hv => hv ▸ k
  refine r_if_eq G (tgt := pc + 7) d0 (by omega) (fun h => ?_) (fun h => ?_)
  · refine r_lconst G (v := 0) rfl d3 ?_
    exact key 0 (by unfold gZ; rw [if_pos h])
  · refine r_lconst G (v := 1) rfl d1 (r_goto G (tgt := pc + 8) d2 (by omega) ?_)
    exact key 1 (by unfold gZ; rw [if_neg h])
theorem r_lald (G : lG p s m args meth c cc own nL D aC A) (q0 : Nat) {a : Nat} {f : Nat → Int64} (he : ws[q0]? = some (a, oL aC f)) (hdg : decode cc pc = .ok (.laload, 1)) (k : JR p l e R s m args below meth c nL D A Q cells slots ws (pc + 1) Lv (.long (f 0) :: st)) : JR p l e R s m args below meth c nL D A Q cells slots ws pc Lv (vi 0 :: .ref a :: st) :=
  fun H locs ls hP hD hS hl => va_lald G.1 G.2.1 G.2.2.2.2.2.1 hP q0 3 he rfl (by unfold vp_in; decide) hdg (k H locs ls hP hD hS hl)
theorem r_dald (G : lG p s m args meth c cc own nL D aC A) (q0 : Nat) {a : Nat} {f : Nat → UInt64} (he : ws[q0]? = some (a, oD aC f)) (hdg : decode cc pc = .ok (.daload, 1)) (k : JR p l e R s m args below meth c nL D A Q cells slots ws (pc + 1) Lv (.double (f 0) :: st)) : JR p l e R s m args below meth c nL D A Q cells slots ws pc Lv (vi 0 :: .ref a :: st) :=
  fun H locs ls hP hD hS hl => va_dald G.1 G.2.1 G.2.2.2.2.2.1 hP q0 4 he rfl (by unfold vp_in; decide) hdg (k H locs ls hP hD hS hl)
theorem r_last (G : lG p s m args meth c cc own nL D aC A) (q0 : Nat) {a : Nat} {f : Nat → Int64} {v : Int64} {ws' : (Nat → Int64) → va_W} (he : ws[q0]? = some (a, oL aC f)) (hw : ∀ g : Nat → Int64, g 0 = v → ws.set q0 (a, oL aC g) = ws' g) (hdg : decode cc pc = .ok (.lastore, 1)) (k : ∀ g : Nat → Int64, g 0 = v → JR p l e R s m args below meth c nL D A Q cells slots (ws' g) (pc + 1) Lv st) : JR p l e R s m args below meth c nL D A Q cells slots ws pc Lv (.long v :: vi 0 :: .ref a :: st) := by
  intro H locs ls hP hD hS hl
  refine va_last G.1 G.2.1 G.2.2.2.2.2.1 hP hD hS q0 3 he rfl (by unfold vp_in; decide) hdg (fun H1 locs1 hP1 hD1 hS1 => ?_)
  have e0 : (vp_updL f (Int32.ofInt 0).toNatClampNeg v) 0 = v := by unfold vp_updL; rw [if_pos (by decide)]
  have hP1 : va_P D vwCl (ws.set q0 (a, oL aC (vp_updL f (Int32.ofInt 0).toNatClampNeg v))) H1 := hP1
  have hD1 : va_D A (ws.set q0 (a, oL aC (vp_updL f (Int32.ofInt 0).toNatClampNeg v))) := hD1
  rw [hw _ e0] at hP1 hD1
  exact k _ e0 H1 locs1 ls hP1 hD1 hS1 hl
theorem r_dast (G : lG p s m args meth c cc own nL D aC A) (q0 : Nat) {a : Nat} {f : Nat → UInt64} {v : UInt64} {ws' : (Nat → UInt64) → va_W} (he : ws[q0]? = some (a, oD aC f)) (hw : ∀ g : Nat → UInt64, g 0 = v → ws.set q0 (a, oD aC g) = ws' g) (hdg : decode cc pc = .ok (.dastore, 1)) (k : ∀ g : Nat → UInt64, g 0 = v → JR p l e R s m args below meth c nL D A Q cells slots (ws' g) (pc + 1) Lv st) : JR p l e R s m args below meth c nL D A Q cells slots ws pc Lv (.double v :: vi 0 :: .ref a :: st) := by
  intro H locs ls hP hD hS hl
  refine va_dast G.1 G.2.1 G.2.2.2.2.2.1 hP hD hS q0 4 he rfl (by unfold vp_in; decide) hdg (fun H1 locs1 hP1 hD1 hS1 => ?_)
  have e0 : (vf_upd f (Int32.ofInt 0).toNatClampNeg v) 0 = v := by unfold vf_upd; rw [if_pos (by decide)]
  have hP1 : va_P D vwCl (ws.set q0 (a, oD aC (vf_upd f (Int32.ofInt 0).toNatClampNeg v))) H1 := hP1
  have hD1 : va_D A (ws.set q0 (a, oD aC (vf_upd f (Int32.ofInt 0).toNatClampNeg v))) := hD1
  rw [hw _ e0] at hP1 hD1
  exact k _ e0 H1 locs1 ls hP1 hD1 hS1 hl
theorem r_calli (G : lG p s m args meth c cc own nL D aC A) {y0 : MethodName} {b : ByteArray} {n : Nat} {ret : FieldType} {rm : Room} {idx nb ci N q0 : Nat} {C : String} {T : u_T} {fs : List wF} {As : List Value} {st0 : List Value} (K : wCV own idx C y0 b n (some ret) As.length) {post : Int → wZ → wZ → Prop} (hM : wDi ad sh → cMi l D aC ad sh y0 b n ret rm (.ref (ad nb) :: As) z y post) (hst : st0 = As.reverse ++ .ref (ad nb) :: st) (he : sh[q0]? = some (nb, .inl (ci, fs))) (hc : vwCl[ci]? = some (C, T, N)) (hr : wRm rm R n) (hcs : cells ≤ R.cells ∧ slots ≤ R.slots) (hcat : (st.map fun v => v.category).sum ≤ 8) (hdg : decode cc pc = .ok (.invokevirtual idx, 3)) (k : ∀ (r : Int) (z' y' : wZ), post r z' y' → JR p l e R s m args below meth c nL D A Q cells slots (w0 ++ (wd aC ad sh (zc z' y') ++ w2)) (pc + 3) Lv (vi r :: st)) : JR p l e R s m args below meth c nL D A Q cells slots (w0 ++ (wd aC ad sh (zc z y) ++ w2)) pc Lv st0 :=
  fun H locs ls hP hD hS hl => by
    subst hst
    have hAA : ∀ q, wAd ad sh H.size q → A q := fr_wAA hD (fun q h => G.2.2.2.2.2.2.1 q (Nat.le_trans hS.1 h))
    have hP9 : va_P D vwCl (wd aC ad sh (zc z y)) H := fr_Pl (fr_Pr hP)
    exact va_calli (va_runV (As := As) (rest := st) ⟨G.1, G.2.1, G.2.2.1, G.2.2.2.1, G.2.2.2.2.1⟩ ((hM (fr_Di hD)) H.size) (cwV As.length G.2.2.2.2.1 K.good rfl hr.1 hr.2.1 K.2 ⟨hr.2.2.1, hr.2.2.2⟩)
      ⟨wPc_blind, va_recv G.2.2.2.2.2.1 hP9 (ci := ci) (q0 := q0) hc (wd_get he), fun U hU hW => ⟨rfl, by rw [hU], by rw [hU]; exact hP9, va_K.moved hW.alike G.2.2.2.2.2.1⟩⟩ rfl rfl (hl.1) rfl (lv_room hcat) hdg hcs) hS (fun q _ h => hAA q h) hAA
      (fun r u t H1 locs1 ht hvm hw hB hz1 hk1 hS1 => by
        obtain ⟨i, rfl, z', y', rfl, hp⟩ := hw
        obtain ⟨hP2, hD2⟩ := fr_go hP hD fr_wA hAA hk1 (ht ▸ hB.1) (wd_D (fr_Di hD) (fun q hq => Or.inl ⟨q, hq, rfl⟩) _)
        exact k _ z' y' hp H1 locs1 ls hP2 hD2 hS1 hl)
theorem r_callf (G : lG p s m args meth c cc own nL D aC A) {y0 : MethodName} {b : ByteArray} {n : Nat} {ret : FieldType} {rm : Room} {idx nb ci N q0 : Nat} {C : String} {T : u_T} {fs : List wF} {As : List Value} {st0 : List Value} (K : wCV own idx C y0 b n (some ret) As.length) {post : UInt32 → wZ → wZ → Prop} (hM : wDi ad sh → cMG l D aC ad sh y0 b n ret rm (.ref (ad nb) :: As) z y (cQf D aC ad sh post)) (hst : st0 = As.reverse ++ .ref (ad nb) :: st) (he : sh[q0]? = some (nb, .inl (ci, fs))) (hc : vwCl[ci]? = some (C, T, N)) (hr : wRm rm R n) (hcs : cells ≤ R.cells ∧ slots ≤ R.slots) (hcat : (st.map fun v => v.category).sum ≤ 8) (hdg : decode cc pc = .ok (.invokevirtual idx, 3)) (k : ∀ (r : UInt32) (z' y' : wZ), post r z' y' → JR p l e R s m args below meth c nL D A Q cells slots (w0 ++ (wd aC ad sh (zc z' y') ++ w2)) (pc + 3) Lv (.float r :: st)) : JR p l e R s m args below meth c nL D A Q cells slots (w0 ++ (wd aC ad sh (zc z y) ++ w2)) pc Lv st0 :=
  fun H locs ls hP hD hS hl => by
    subst hst
    have hAA : ∀ q, wAd ad sh H.size q → A q := fr_wAA hD (fun q h => G.2.2.2.2.2.2.1 q (Nat.le_trans hS.1 h))
    have hP9 : va_P D vwCl (wd aC ad sh (zc z y)) H := fr_Pl (fr_Pr hP)
    exact va_callf (va_runV (As := As) (rest := st) ⟨G.1, G.2.1, G.2.2.1, G.2.2.2.1, G.2.2.2.2.1⟩ ((hM (fr_Di hD)) H.size) (cwV As.length G.2.2.2.2.1 K.good rfl hr.1 hr.2.1 K.2 ⟨hr.2.2.1, hr.2.2.2⟩)
      ⟨wPc_blind, va_recv G.2.2.2.2.2.1 hP9 (ci := ci) (q0 := q0) hc (wd_get he), fun U hU hW => ⟨rfl, by rw [hU], by rw [hU]; exact hP9, va_K.moved hW.alike G.2.2.2.2.2.1⟩⟩ rfl rfl (hl.1) rfl (lv_room hcat) hdg hcs) hS (fun q _ h => hAA q h) hAA
      (fun r u t H1 locs1 ht hvm hw hB hz1 hk1 hS1 => by
        obtain ⟨z', y', rfl, hp⟩ := hw
        obtain ⟨hP2, hD2⟩ := fr_go hP hD fr_wA hAA hk1 (ht ▸ hB.1) (wd_D (fr_Di hD) (fun q hq => Or.inl ⟨q, hq, rfl⟩) _)
        exact k _ z' y' hp H1 locs1 ls hP2 hD2 hS1 hl)
theorem r_calld (G : lG p s m args meth c cc own nL D aC A) {y0 : MethodName} {b : ByteArray} {n : Nat} {ret : FieldType} {rm : Room} {idx nb ci N q0 : Nat} {C : String} {T : u_T} {fs : List wF} {As : List Value} {st0 : List Value} (K : wCV own idx C y0 b n (some ret) As.length) {post : UInt64 → wZ → wZ → Prop} (hM : wDi ad sh → cMG l D aC ad sh y0 b n ret rm (.ref (ad nb) :: As) z y (cQd D aC ad sh post)) (hst : st0 = As.reverse ++ .ref (ad nb) :: st) (he : sh[q0]? = some (nb, .inl (ci, fs))) (hc : vwCl[ci]? = some (C, T, N)) (hr : wRm rm R n) (hcs : cells ≤ R.cells ∧ slots ≤ R.slots) (hcat : (st.map fun v => v.category).sum ≤ 8) (hdg : decode cc pc = .ok (.invokevirtual idx, 3)) (k : ∀ (r : UInt64) (z' y' : wZ), post r z' y' → JR p l e R s m args below meth c nL D A Q cells slots (w0 ++ (wd aC ad sh (zc z' y') ++ w2)) (pc + 3) Lv (.double r :: st)) : JR p l e R s m args below meth c nL D A Q cells slots (w0 ++ (wd aC ad sh (zc z y) ++ w2)) pc Lv st0 :=
  fun H locs ls hP hD hS hl => by
    subst hst
    have hAA : ∀ q, wAd ad sh H.size q → A q := fr_wAA hD (fun q h => G.2.2.2.2.2.2.1 q (Nat.le_trans hS.1 h))
    have hP9 : va_P D vwCl (wd aC ad sh (zc z y)) H := fr_Pl (fr_Pr hP)
    exact va_calld (va_runV (As := As) (rest := st) ⟨G.1, G.2.1, G.2.2.1, G.2.2.2.1, G.2.2.2.2.1⟩ ((hM (fr_Di hD)) H.size) (cwV As.length G.2.2.2.2.1 K.good rfl hr.1 hr.2.1 K.2 ⟨hr.2.2.1, hr.2.2.2⟩)
      ⟨wPc_blind, va_recv G.2.2.2.2.2.1 hP9 (ci := ci) (q0 := q0) hc (wd_get he), fun U hU hW => ⟨rfl, by rw [hU], by rw [hU]; exact hP9, va_K.moved hW.alike G.2.2.2.2.2.1⟩⟩ rfl rfl (hl.1) rfl (lv_room hcat) hdg hcs) hS (fun q _ h => hAA q h) hAA
      (fun r u t H1 locs1 ht hvm hw hB hz1 hk1 hS1 => by
        obtain ⟨z', y', rfl, hp⟩ := hw
        obtain ⟨hP2, hD2⟩ := fr_go hP hD fr_wA hAA hk1 (ht ▸ hB.1) (wd_D (fr_Di hD) (fun q hq => Or.inl ⟨q, hq, rfl⟩) _)
        exact k _ z' y' hp H1 locs1 ls hP2 hD2 hS1 hl)
theorem r_xcalli (G : lG p s m args meth c cc own nL D aC A) (hT : wTh A s s.heap) {y0 : MethodName} {b : ByteArray} {n : Nat} {ret : FieldType} {rm : Room} {idx nb ci N q0 : Nat} {C : String} {T : u_T} {fs : List wF} {As : List Value} {st0 : List Value} {m1 s1 : Nat} (K : wCV own idx C y0 b n (some ret) As.length) {post : Int → wZ → wZ → Prop} {thr : String → Prop} (hM : wDi ad sh → xMi l D aC ad sh y0 b n ret rm (.ref (ad nb) :: As) z y post thr m1 s1) (hst : st0 = As.reverse ++ .ref (ad nb) :: st) (he : sh[q0]? = some (nb, .inl (ci, fs))) (hc : vwCl[ci]? = some (C, T, N)) (hr : xRm rm R n m1 s1) (hcs : cells + m1 ≤ R.cells ∧ slots + s1 ≤ R.slots) (hcat : (st.map fun v => v.category).sum ≤ 8) (hdg : decode cc pc = .ok (.invokevirtual idx, 3))
    (kx : ∀ E, thr E → JX p l e R s m args below meth c nL D A Q (cells + m1) (slots + s1) (w0 ++ (wd aC ad sh (zc z y) ++ w2)) pc Lv st E) (k : ∀ (r : Int) (z' y' : wZ), post r z' y' → JR p l e R s m args below meth c nL D A Q (cells + m1) (slots + s1) (w0 ++ (wd aC ad sh (zc z' y') ++ w2)) (pc + 3) Lv (vi r :: st)) : JR p l e R s m args below meth c nL D A Q cells slots (w0 ++ (wd aC ad sh (zc z y) ++ w2)) pc Lv st0 :=
  fun H locs ls hP hD hS hl => by
    subst hst
    have hAA : ∀ q, wAd ad sh H.size q → A q := fr_wAA hD (fun q h => G.2.2.2.2.2.2.1 q (Nat.le_trans hS.1 h))
    have hP9 : va_P D vwCl (wd aC ad sh (zc z y)) H := fr_Pl (fr_Pr hP)
    exact vx_calli (vx_runV (As := As) (rest := st) ⟨G.1, G.2.1, G.2.2.1, G.2.2.2.1, G.2.2.2.2.1⟩ ((hM (fr_Di hD)) H.size) (cwV As.length G.2.2.2.2.1 K.good rfl hr.1 hr.2.1 K.2 ⟨hr.2.2.1, hr.2.2.2⟩)
      ⟨xPc_blind, va_recv G.2.2.2.2.2.1 hP9 (ci := ci) (q0 := q0) hc (wd_get he), fun U hU hW => ⟨rfl, by rw [hU], ⟨by rw [hU]; exact hP9, va_K.moved hW.alike G.2.2.2.2.2.1⟩, by rw [hU]; exact hT.go hW hS.2.1 hAA⟩⟩ rfl rfl (hl.1) rfl (lv_room hcat) hdg hcs) hS (fun q _ h => hAA q h) hAA (fun q _ h => hAA q h)
      (fun E ce q9 u t H1 locs1 ht hvm hpx hB hz1 hk1 hS1 hce hcv hcl => by
        obtain ⟨hP2, hD2⟩ := fr_go hP hD fr_wA hAA hk1 (ht ▸ hB.2.1) (wd_D (fr_Di hD) (fun q hq => Or.inl ⟨q, hq, rfl⟩) _)
        exact kx E hB.1 H1 locs1 ls ce q9 hP2 hD2 hS1 hl hce hcv hcl)
      (fun r u t H1 locs1 ht hvm hw hB hz1 hk1 hS1 => by
        obtain ⟨i, rfl, z', y', rfl, hp⟩ := hw
        obtain ⟨hP2, hD2⟩ := fr_go hP hD fr_wA hAA hk1 (ht ▸ hB.1) (wd_D (fr_Di hD) (fun q hq => Or.inl ⟨q, hq, rfl⟩) _)
        exact k _ z' y' hp H1 locs1 ls hP2 hD2 hS1 hl)
theorem r_xcallf (G : lG p s m args meth c cc own nL D aC A) (hT : wTh A s s.heap) {y0 : MethodName} {b : ByteArray} {n : Nat} {ret : FieldType} {rm : Room} {idx nb ci N q0 : Nat} {C : String} {T : u_T} {fs : List wF} {As : List Value} {st0 : List Value} {m1 s1 : Nat} (K : wCV own idx C y0 b n (some ret) As.length) {post : UInt32 → wZ → wZ → Prop} {thr : String → Prop} (hM : wDi ad sh → xMG l D aC ad sh y0 b n ret rm (.ref (ad nb) :: As) z y (cQf D aC ad sh post) thr m1 s1) (hst : st0 = As.reverse ++ .ref (ad nb) :: st) (he : sh[q0]? = some (nb, .inl (ci, fs))) (hc : vwCl[ci]? = some (C, T, N)) (hr : xRm rm R n m1 s1) (hcs : cells + m1 ≤ R.cells ∧ slots + s1 ≤ R.slots) (hcat : (st.map fun v => v.category).sum ≤ 8) (hdg : decode cc pc = .ok (.invokevirtual idx, 3))
    (kx : ∀ E, thr E → JX p l e R s m args below meth c nL D A Q (cells + m1) (slots + s1) (w0 ++ (wd aC ad sh (zc z y) ++ w2)) pc Lv st E) (k : ∀ (r : UInt32) (z' y' : wZ), post r z' y' → JR p l e R s m args below meth c nL D A Q (cells + m1) (slots + s1) (w0 ++ (wd aC ad sh (zc z' y') ++ w2)) (pc + 3) Lv (.float r :: st)) : JR p l e R s m args below meth c nL D A Q cells slots (w0 ++ (wd aC ad sh (zc z y) ++ w2)) pc Lv st0 :=
  fun H locs ls hP hD hS hl => by
    subst hst
    have hAA : ∀ q, wAd ad sh H.size q → A q := fr_wAA hD (fun q h => G.2.2.2.2.2.2.1 q (Nat.le_trans hS.1 h))
    have hP9 : va_P D vwCl (wd aC ad sh (zc z y)) H := fr_Pl (fr_Pr hP)
    exact vx_callf (vx_runV (As := As) (rest := st) ⟨G.1, G.2.1, G.2.2.1, G.2.2.2.1, G.2.2.2.2.1⟩ ((hM (fr_Di hD)) H.size) (cwV As.length G.2.2.2.2.1 K.good rfl hr.1 hr.2.1 K.2 ⟨hr.2.2.1, hr.2.2.2⟩)
      ⟨xPc_blind, va_recv G.2.2.2.2.2.1 hP9 (ci := ci) (q0 := q0) hc (wd_get he), fun U hU hW => ⟨rfl, by rw [hU], ⟨by rw [hU]; exact hP9, va_K.moved hW.alike G.2.2.2.2.2.1⟩, by rw [hU]; exact hT.go hW hS.2.1 hAA⟩⟩ rfl rfl (hl.1) rfl (lv_room hcat) hdg hcs) hS (fun q _ h => hAA q h) hAA (fun q _ h => hAA q h)
      (fun E ce q9 u t H1 locs1 ht hvm hpx hB hz1 hk1 hS1 hce hcv hcl => by
        obtain ⟨hP2, hD2⟩ := fr_go hP hD fr_wA hAA hk1 (ht ▸ hB.2.1) (wd_D (fr_Di hD) (fun q hq => Or.inl ⟨q, hq, rfl⟩) _)
        exact kx E hB.1 H1 locs1 ls ce q9 hP2 hD2 hS1 hl hce hcv hcl)
      (fun r u t H1 locs1 ht hvm hw hB hz1 hk1 hS1 => by
        obtain ⟨z', y', rfl, hp⟩ := hw
        obtain ⟨hP2, hD2⟩ := fr_go hP hD fr_wA hAA hk1 (ht ▸ hB.1) (wd_D (fr_Di hD) (fun q hq => Or.inl ⟨q, hq, rfl⟩) _)
        exact k _ z' y' hp H1 locs1 ls hP2 hD2 hS1 hl)
theorem r_xcalld (G : lG p s m args meth c cc own nL D aC A) (hT : wTh A s s.heap) {y0 : MethodName} {b : ByteArray} {n : Nat} {ret : FieldType} {rm : Room} {idx nb ci N q0 : Nat} {C : String} {T : u_T} {fs : List wF} {As : List Value} {st0 : List Value} {m1 s1 : Nat} (K : wCV own idx C y0 b n (some ret) As.length) {post : UInt64 → wZ → wZ → Prop} {thr : String → Prop} (hM : wDi ad sh → xMG l D aC ad sh y0 b n ret rm (.ref (ad nb) :: As) z y (cQd D aC ad sh post) thr m1 s1) (hst : st0 = As.reverse ++ .ref (ad nb) :: st) (he : sh[q0]? = some (nb, .inl (ci, fs))) (hc : vwCl[ci]? = some (C, T, N)) (hr : xRm rm R n m1 s1) (hcs : cells + m1 ≤ R.cells ∧ slots + s1 ≤ R.slots) (hcat : (st.map fun v => v.category).sum ≤ 8) (hdg : decode cc pc = .ok (.invokevirtual idx, 3))
    (kx : ∀ E, thr E → JX p l e R s m args below meth c nL D A Q (cells + m1) (slots + s1) (w0 ++ (wd aC ad sh (zc z y) ++ w2)) pc Lv st E) (k : ∀ (r : UInt64) (z' y' : wZ), post r z' y' → JR p l e R s m args below meth c nL D A Q (cells + m1) (slots + s1) (w0 ++ (wd aC ad sh (zc z' y') ++ w2)) (pc + 3) Lv (.double r :: st)) : JR p l e R s m args below meth c nL D A Q cells slots (w0 ++ (wd aC ad sh (zc z y) ++ w2)) pc Lv st0 :=
  fun H locs ls hP hD hS hl => by
    subst hst
    have hAA : ∀ q, wAd ad sh H.size q → A q := fr_wAA hD (fun q h => G.2.2.2.2.2.2.1 q (Nat.le_trans hS.1 h))
    have hP9 : va_P D vwCl (wd aC ad sh (zc z y)) H := fr_Pl (fr_Pr hP)
    exact vx_calld (vx_runV (As := As) (rest := st) ⟨G.1, G.2.1, G.2.2.1, G.2.2.2.1, G.2.2.2.2.1⟩ ((hM (fr_Di hD)) H.size) (cwV As.length G.2.2.2.2.1 K.good rfl hr.1 hr.2.1 K.2 ⟨hr.2.2.1, hr.2.2.2⟩)
      ⟨xPc_blind, va_recv G.2.2.2.2.2.1 hP9 (ci := ci) (q0 := q0) hc (wd_get he), fun U hU hW => ⟨rfl, by rw [hU], ⟨by rw [hU]; exact hP9, va_K.moved hW.alike G.2.2.2.2.2.1⟩, by rw [hU]; exact hT.go hW hS.2.1 hAA⟩⟩ rfl rfl (hl.1) rfl (lv_room hcat) hdg hcs) hS (fun q _ h => hAA q h) hAA (fun q _ h => hAA q h)
      (fun E ce q9 u t H1 locs1 ht hvm hpx hB hz1 hk1 hS1 hce hcv hcl => by
        obtain ⟨hP2, hD2⟩ := fr_go hP hD fr_wA hAA hk1 (ht ▸ hB.2.1) (wd_D (fr_Di hD) (fun q hq => Or.inl ⟨q, hq, rfl⟩) _)
        exact kx E hB.1 H1 locs1 ls ce q9 hP2 hD2 hS1 hl hce hcv hcl)
      (fun r u t H1 locs1 ht hvm hw hB hz1 hk1 hS1 => by
        obtain ⟨z', y', rfl, hp⟩ := hw
        obtain ⟨hP2, hD2⟩ := fr_go hP hD fr_wA hAA hk1 (ht ▸ hB.1) (wd_D (fr_Di hD) (fun q hq => Or.inl ⟨q, hq, rfl⟩) _)
        exact k _ z' y' hp H1 locs1 ls hP2 hD2 hS1 hl)
theorem r_catch (G : lG p s m args meth c cc own nL D aC A) (hT : wTh A s s.heap) {name E : String} (hE : E ∈ xEs) (pre : List ExceptionTableEntry) (x : ExceptionTableEntry) (suf : List ExceptionTableEntry) (hsplit : c.exceptionTable.toList = pre ++ x :: suf) (hpass : ∀ z ∈ pre, covers z pc = false ∨ (z.catchType ≠ 0 ∧ ∃ nm : String, Cond.classLink own z.catchType nm ∈ wALL ∧ va_Nc E nm s)) (hx : covers x pc = true) (h0 : x.catchType ≠ 0) (hlink : Cond.classLink own x.catchType name ∈ wALL) (hn : name = E) (k : ∀ q : Nat, JR p l e R s m args below meth c nL D A Q cells slots ws x.handlerPc Lv ([.ref q])) : JX p l e R s m args below meth c nL D A Q cells slots ws pc Lv st E :=
  fun H locs ls ce q9 hP hD hS hl hce hcv hcl => vx_catch G.2.2.2.1 pre x suf hsplit (fun z hz => (hpass z hz).imp id (fun h => ⟨h.1, h.2.choose, G.2.2.2.2.1 _ h.2.choose_spec.1, h.2.choose_spec.2⟩)) hx h0 (G.2.2.2.2.1 _ hlink) (by subst hn; exact va_Nw.use rfl (hT.2.2.1 name hE _ List.mem_cons_self)) hce hcv hcl (k q9 H locs ls hP hD hS hl)
end LAWR
section LAWM
/-- a wrapper's contract: a static method of the law, over a world of its own -/
def lPc (D : va_G) (aC : Nat → ClassId) (av : List Value) (ws : va_W) (sz : Nat) : Array Value → State → Prop := va_Pc av (fun U => U.heap.size = sz ∧ va_P D vwCl ws U.heap ∧ va_D (va_A ws sz) ws ∧ va_K D vwCl (wty aC) U ∧ wTh (va_A ws sz) U U.heap ∧ wNo U)
def lQ (D : va_G) (aC : Nat → ClassId) (post : Int → va_W → Prop) (A : Nat → Prop) : Array Value → State → Outcome → State → Prop := va_Qi (fun r u => ∃ i, r = Int32.ofInt i ∧ post i u) (fun u t => va_P D vwCl u t.heap ∧ va_D A u ∧ va_K D vwCl (wty aC) t) A
def lM (l : Launch) (D : va_G) (aC : Nat → ClassId) (y0 : MethodName) (b : ByteArray) (n : Nat) (hh : List (Nat × Nat × Nat × Nat)) (rm : Room) (av : List Value) (ws : va_W) (post : Int → va_W → Prop) (mc ms : Nat) : Prop :=
  ∀ sz, Met l y0 (.codeWith y0 b n (some .int) hh :: wALL) rm (lPc D aC av ws sz) (lQ D aC post (va_A ws sz)) mc ms (va_A ws sz)
variable {p : Program} {l : Launch} {e : Env} {R : Room} {s : State} {m : MethodId} {args : Array Value} {below : List Frame} {meth : Method} {c : Code} {cc : ByteArray} {own : String} {nL : Nat} {D : va_G} {aC : Nat → ClassId} {ad : Nat → Nat} {A : Nat → Prop} {Q : State → Prop} {cells slots : Nat} {ws w0 w2 : va_W} {pc : Nat} {Lv : List (Nat × Value)} {st : List Value}
theorem lPc_blind {av : List Value} {sz : Nat} : FrameBlind (lPc D aC av ws sz) := fun a U g mk q => by
  obtain ⟨q0, q1, q2, q3, q4, q5, q6⟩ := q
  refine ⟨q0, q1, q2, q3, va_K.moved (u := U) (U := U.calling g mk a) (Vm.Alike.refl U.vm) q4, ?_, wNo.moved (u := U) (U := U.calling g mk a) (Vm.Alike.refl U.vm) q6⟩
  obtain ⟨t1, t2, t3, t4⟩ := q5
  exact ⟨vx_Zq.moved (u := U) (U := U.calling g mk a) (Vm.Alike.refl U.vm) t1, vx_Zq.moved (u := U) (U := U.calling g mk a) (Vm.Alike.refl U.vm) t2, fun E hE w hw => va_tabs (by
    simp only [xdW, List.mem_cons, List.not_mem_nil, or_false] at hw
    rcases hw with rfl | rfl | rfl | rfl <;> rfl) (rfl : U.vm = (U.calling g mk a).vm) (t3 E hE w hw), fun q hq => by
    obtain ⟨x, hx⟩ := t4 q hq
    exact ⟨x, vk_R.same (u := U) (U := U.calling g mk a) rfl hx⟩⟩
theorem lM_of {y0 : MethodName} {n mc ms : Nat} {bc : ByteArray} {hh : List (Nat × Nat × Nat × Nat)} {rm : Room} {av : List Value} {post : Int → va_W → Prop} (Lv : List (Nat × Value)) (hy : plainName y0.cls = true) (hn : (lg_sl av).length ≤ n) (hLv : lv_args 0 av = Lv)
    (body : ∀ (p : Program) (e : Env) (s : State) (m : MethodId) (args : Array Value) (below : List Frame) (meth : Method) (c : Code) (A : Nat → Prop), lG p s m args meth c bc y0.cls n D aC A → c.exceptionTable.toList = tableOf hh → meth.sig.returnType = some .int → wTh A s s.heap → wNo s → JR p l e rm s m args below meth c n D A (MQ below (lQ D aC post A) args s mc ms A) 0 0 ws 0 Lv []) : lM l D aC y0 bc n hh rm av ws post mc ms := by
  intro sz
  refine va_MetW (cc := bc) (maxL := n) (ret := some .int) (hh := hh) hy rfl ?_
  intro p e s m args below meth c s₁ B hml hv
  have hts := atoms_spec (ws := Cond.codeWith y0 bc n (some .int) hh :: wALL) B.pre
  have hex := vx_table (x := y0) B (hts _ List.mem_cons_self)
  obtain ⟨rfl, rfl, hP, hD, hK, hT, hN⟩ := hv
  have G : lG p s m av.toArray meth c bc y0.cls n D aC (va_A ws s.heap.size) := ⟨B.exec, B.bytes, hml, findClass_of_methodNamed B.named, fun w h => hts w (List.mem_cons_of_mem _ h), hK, fun q h => Or.inr h, B.notSynchronized⟩
  have k := body p e s m _ below meth c _ G hex B.returns hT hN s.heap [] _ hP hD va_S.rf (hLv ▸ lv_entry av hn)
  rw [lg_entry_eq]
  exact k
theorem r_iret (G : lG p s m args meth c cc own nL D aC A) (hr : meth.sig.returnType = some .int) {post : Int → va_W → Prop} {i : Int} {mc ms : Nat} (hc : cells ≤ mc ∧ slots ≤ ms) (hdg : decode cc pc = .ok (.ireturn, 1)) (hp : post i ws) : JR p l e R s m args below meth c nL D A (MQ below (lQ D aC post A) args s mc ms A) cells slots ws pc Lv [vi i] :=
  fun H locs ls hP hD hS hl => W.widen hc.1 hc.2 (W.iret (v := Int32.ofInt i) G.1 G.2.1 hr (fun t ht hW => ⟨⟨_, ws, rfl, ⟨i, rfl, hp⟩, by rw [ht]; exact hP, hD, va_K.moved hW.alike G.2.2.2.2.2.1⟩, hS.F ht⟩) hS.2.2 hdg G.2.2.2.2.2.2.2)
def wCW (own : String) (idx : Nat) (y : MethodName) (b : ByteArray) (n : Nat) (hh : List (Nat × Nat × Nat × Nat)) (k : Nat) : Prop := (Cond.methodLink own idx y ∈ wALL ∧ Cond.static y ∈ wALL ∧ Cond.initialized y.cls ∈ wALL ∧ Cond.codeWith y b n (some .int) hh ∈ wALL) ∧ y.cls ≠ "java/lang/invoke/MethodHandle" ∧ y.cls ≠ "java/lang/invoke/VarHandle" ∧ (parseMethodDescriptor y.desc).map (fun d => d.parameters.length) = some k
theorem wCW.good {idx k n : Nat} {y : MethodName} {b : ByteArray} {hh : List (Nat × Nat × Nat × Nat)} (h : wCW own idx y b n hh k) : GoodIn wALL (va_wsS own idx y (Cond.codeWith y b n (some .int) hh :: wALL)) := by
  intro w hw
  simp only [va_wsS, List.cons_append, List.nil_append, List.mem_cons] at hw
  rcases hw with rfl | rfl | rfl | rfl | hw
  · exact w_good h.1.1
  · exact w_good h.1.2.1
  · exact w_good h.1.2.2.1
  · exact w_good h.1.2.2.2
  · exact w_good hw
/-- the law calls a wrapper -/
theorem r_calls (G : lG p s m args meth c cc own nL D aC A) (hT : wTh A s s.heap) (hN : wNo s) {y0 : MethodName} {b : ByteArray} {n m1 s1 : Nat} {hh : List (Nat × Nat × Nat × Nat)} {rm : Room} {idx : Nat} {As : List Value} {st0 : List Value} {wx : va_W} {post : Int → va_W → Prop} (K : wCW own idx y0 b n hh As.length) (hM : va_D A wx → lM l D aC y0 b n hh rm As wx post m1 s1) (hst : st0 = As.reverse ++ st) (hr : xRm rm R n m1 s1) (hcs : cells + m1 ≤ R.cells ∧ slots + s1 ≤ R.slots) (hcat : (st.map fun v => v.category).sum ≤ 8) (hdg : decode cc pc = .ok (.invokestatic idx, 3))
    (k : ∀ (i : Int) (wx' : va_W), post i wx' → JR p l e R s m args below meth c nL D A Q (cells + m1) (slots + s1) (w0 ++ (wx' ++ w2)) (pc + 3) Lv (vi i :: st)) : JR p l e R s m args below meth c nL D A Q cells slots (w0 ++ (wx ++ w2)) pc Lv st0 :=
  fun H locs ls hP hD hS hl => by
    subst hst
    have hAA : ∀ q, va_A wx H.size q → A q := fun q hq => by
      rcases hq with ⟨i, x, hi⟩ | hq
      · exact (fr_Dl (fr_Dr hD)).2 i _ hi
      · exact G.2.2.2.2.2.2.1 q (Nat.le_trans hS.1 hq)
    have hP9 : va_P D vwCl wx H := fr_Pl (fr_Pr hP)
    have hD9 : va_D A wx := fr_Dl (fr_Dr hD)
    exact va_calli (vx_runSW (As := As) (rest := st) ⟨G.1, G.2.1, G.2.2.1, G.2.2.2.1, G.2.2.2.2.1⟩ ((hM hD9) H.size) (vx_cwSW As.length G.2.2.2.2.1 K.good rfl hr.1 hr.2.1 K.2 ⟨hr.2.2.1, hr.2.2.2⟩)
      ⟨lPc_blind, fun U hU hW => ⟨rfl, by rw [hU], by rw [hU]; exact hP9, hD9.self, va_K.moved hW.alike G.2.2.2.2.2.1, by rw [hU]; exact hT.go hW hS.2.1 hAA, hN.moved hW.alike⟩⟩ rfl rfl (hl.1) rfl (lv_room hcat) hdg hcs) hS (fun q _ h => hAA q h) hAA
      (fun r u t H1 locs1 ht hvm hw hB hz1 hk1 hS1 => by
        obtain ⟨i, rfl, hp⟩ := hw
        obtain ⟨hP2, hD2⟩ := fr_go hP hD (fun q hq => hq) hAA hk1 (ht ▸ hB.1) hB.2.1
        exact k i u hp H1 locs1 ls hP2 hD2 hS1 hl)
end LAWM
def vb (v : Int) : Nat := if v = 0 then 16 else 15
theorem vb_0 : vb 0 = 16 := rfl
theorem vb_1 : vb 1 = 15 := rfl
theorem f2d_nn {x : UInt32} (h : FP.Core.fIsNaN x = false) : FP.Core.dIsNaN (FP.f2d x) = false := (FP.f2d_nan x).trans h
theorem dcmp_s {x : UInt64} (op : CmpOp) (h : FP.Core.dIsNaN x = false) : Op.cmpValue (FP.dcmp x x) op = 0 := by
  have h1 : FP.Core.val64 x ≠ .nan := fun q => by rw [(FP.Core.dIsNaN_iff x).mpr q] at h; cases h
  rw [show FP.dcmp x x = some .eq from FP.Core.dcmp_self h1]
  rfl
theorem ksF_n {z : wZ} (hR : Rng z) (hk : kcKS z = 0) : FP.Core.fIsNaN (ksF z) = false := by
  have h1 : 0 ≤ z 1 0 ∧ z 1 0 ≤ 24 := hR 1 0
  unfold kcKS at hk
  split at hk
  · exact fq_n (by omega)
  · omega
theorem mdF_n {z : wZ} (hR : Rng z) (hk : kcMD z = 0) : FP.Core.dIsNaN (mdF z) = false := by
  have h1 : 0 ≤ z 2 0 ∧ z 2 0 ≤ 30 := hR 2 0
  unfold kcMD at hk
  split at hk
  · exact dq_n (by omega)
  · omega
