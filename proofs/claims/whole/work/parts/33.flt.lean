/-! the two quotients: they are numbers -/
section FLTQ
theorem i32_0 {x : Int} (h : 0 < x ∧ x ≤ 2147483647) : (Int32.ofInt x) ≠ 0 := by
  intro e
  have h1 := congrArg Int32.toInt e
  rw [Int32.toInt_ofInt_of_le (by omega) (by omega)] at h1
  have h0 : (0 : Int32).toInt = 0 := by decide
  omega
theorem fq_n {a b : Int} (hb : 0 < b ∧ b ≤ 2147483647) : FP.Core.fIsNaN (FP.fdiv (FP.i2f (Int32.ofInt a)) (FP.i2f (Int32.ofInt b))) = false := by
  refine FP.Core.fdiv_out (FP.Core.FFin.notNaN (FP.Core.i2f_fin _)) (FP.Core.i2f_fin _) (fun hz => ?_)
  exact FP.Core.i2f_ne_zero (i32_0 hb) ((FP.Core.zero_bits232 _).mp hz)
theorem dq_n {a b : Int} (hb : 0 < b ∧ b ≤ 2147483647) : FP.Core.dIsNaN (FP.ddiv (FP.i2d (Int32.ofInt a)) (FP.i2d (Int32.ofInt b))) = false := by
  refine FP.Core.ddiv_out (FP.Core.DFin.notNaN (FP.Core.i2d_fin _)) (FP.Core.i2d_fin _) (fun hz => ?_)
  exact FP.Core.i2d_ne_zero (i32_0 hb) ((FP.Core.zero_bits2 _).mp hz)
theorem n32_of {r : UInt32} (h : FP.Core.fIsNaN r = false) : vf_n32 r := by
  have h1 : ¬ (2139095040 < r.toNat % 2 ^ 31) := fun q => by rw [(FP.Core.isNaN_bits32 r).mpr q] at h; cases h
  unfold vf_n32
  rw [UInt32.le_iff_toNat_le, UInt32.toNat_and, show (0x7fffffff : UInt32).toNat = 2 ^ 31 - 1 from rfl, Nat.and_two_pow_sub_one_eq_mod]
  show _ ≤ 2139095040
  omega
theorem n64_of {r : UInt64} (h : FP.Core.dIsNaN r = false) : vf_n64 r := by
  have h1 : ¬ (9218868437227405312 < r.toNat % 2 ^ 63) := fun q => by rw [(FP.Core.isNaN_bits r).mpr q] at h; cases h
  unfold vf_n64
  rw [UInt64.le_iff_toNat_le, UInt64.toNat_and, show (0x7fffffffffffffff : UInt64).toNat = 2 ^ 63 - 1 from rfl, Nat.and_two_pow_sub_one_eq_mod]
  show _ ≤ 9218868437227405312
  omega
end FLTQ
section FLTR
variable {p : Program} {l : Launch} {e : Env} {R : Room} {s : State} {m : MethodId} {args : Array Value} {below : List Frame} {meth : Method} {c : Code} {cc : ByteArray} {own : String} {nL : Nat} {D : va_G} {aC : Nat → ClassId} {ad : Nat → Nat} {A : Nat → Prop} {sh : wSh} {Q : State → Prop} {cells slots : Nat} {z y : wZ} {pc : Nat} {L : List (Option Value)} {st : List Value} {mc ms : Nat}
theorem i_i2f (G : wG p s m args meth c cc own nL D aC ad A sh) {x : Int} (hdg : decode cc pc = .ok (.i2f, 1)) (k : JW p l e R s m args below meth c nL D aC ad A sh Q cells slots z (pc + 1) L (.float (FP.i2f (Int32.ofInt x)) :: st)) : JW p l e R s m args below meth c nL D aC ad A sh Q cells slots z pc L (vi x :: st) :=
  fun H locs ls hP hS hl => lv_i2f G.1 G.2.1 hdg (k H locs ls hP hS hl)
theorem i_i2d (G : wG p s m args meth c cc own nL D aC ad A sh) {x : Int} (hdg : decode cc pc = .ok (.i2d, 1)) (k : JW p l e R s m args below meth c nL D aC ad A sh Q cells slots z (pc + 1) L (.double (FP.i2d (Int32.ofInt x)) :: st)) : JW p l e R s m args below meth c nL D aC ad A sh Q cells slots z pc L (vi x :: st) :=
  fun H locs ls hP hS hl => lv_i2d G.1 G.2.1 hdg (k H locs ls hP hS hl)
theorem i_fdiv (G : wG p s m args meth c cc own nL D aC ad A sh) {a b : UInt32} (hne : vf_n32 (FP.fdiv a b)) (hdg : decode cc pc = .ok (.fdiv, 1)) (k : JW p l e R s m args below meth c nL D aC ad A sh Q cells slots z (pc + 1) L (.float (FP.fdiv a b) :: st)) : JW p l e R s m args below meth c nL D aC ad A sh Q cells slots z pc L (.float b :: .float a :: st) :=
  fun H locs ls hP hS hl => lv_fdiv G.1 G.2.1 hdg hne (k H locs ls hP hS hl)
theorem i_ddiv (G : wG p s m args meth c cc own nL D aC ad A sh) {a b : UInt64} (hne : vf_n64 (FP.ddiv a b)) (hdg : decode cc pc = .ok (.ddiv, 1)) (k : JW p l e R s m args below meth c nL D aC ad A sh Q cells slots z (pc + 1) L (.double (FP.ddiv a b) :: st)) : JW p l e R s m args below meth c nL D aC ad A sh Q cells slots z pc L (.double b :: .double a :: st) :=
  fun H locs ls hP hS hl => lv_ddiv G.1 G.2.1 hdg hne (k H locs ls hP hS hl)
theorem i_fconst (G : wG p s m args meth c cc own nL D aC ad A sh) (hdg : decode cc pc = .ok (.fconst 0, 1)) (k : JW p l e R s m args below meth c nL D aC ad A sh Q cells slots z (pc + 1) L (.float FP.fconst0 :: st)) : JW p l e R s m args below meth c nL D aC ad A sh Q cells slots z pc L st :=
  fun H locs ls hP hS hl => lv_fconst0 G.1 G.2.1 hdg (k H locs ls hP hS hl)
theorem i_dconst (G : wG p s m args meth c cc own nL D aC ad A sh) (hdg : decode cc pc = .ok (.dconst 0, 1)) (k : JW p l e R s m args below meth c nL D aC ad A sh Q cells slots z (pc + 1) L (.double FP.dconst0 :: st)) : JW p l e R s m args below meth c nL D aC ad A sh Q cells slots z pc L st :=
  fun H locs ls hP hS hl => lv_dconst0 G.1 G.2.1 hdg (k H locs ls hP hS hl)
def cQf (D : va_G) (aC : Nat → ClassId) (ad : Nat → Nat) (sh : wSh) (post : UInt32 → wZ → wZ → Prop) (A : Nat → Prop) : Array Value → State → Outcome → State → Prop := va_Qf (fun r u => ∃ z' y', u = zc z' y' ∧ post r z' y') (wB D aC ad sh) A
def cQd (D : va_G) (aC : Nat → ClassId) (ad : Nat → Nat) (sh : wSh) (post : UInt64 → wZ → wZ → Prop) (A : Nat → Prop) : Array Value → State → Outcome → State → Prop := va_Qd (fun r u => ∃ z' y', u = zc z' y' ∧ post r z' y') (wB D aC ad sh) A
theorem j_retf (G : wG p s m args meth c cc own nL D aC ad A sh) {post : UInt32 → wZ → wZ → Prop} {v : UInt32} (hr : meth.sig.returnType = some .float) (hdg : decode cc pc = .ok (.freturn, 1)) (hp : post v z y) : JW p l e R s m args below meth c nL D aC ad A sh (MQ below (cQf D aC ad sh post A) args s cells slots A) cells slots (zc z y) pc L [.float v] :=
  fun H locs ls hP hS hl => W.fret (v := v) G.1 G.2.1 hr (fun t ht hW => ⟨⟨_, zc z y, rfl, ⟨z, y, rfl, hp⟩, by rw [ht]; exact hP, va_K.moved hW.alike G.K⟩, hS.F ht⟩) hS.2.2 hdg G.locks
theorem j_retd (G : wG p s m args meth c cc own nL D aC ad A sh) {post : UInt64 → wZ → wZ → Prop} {v : UInt64} (hr : meth.sig.returnType = some .double) (hdg : decode cc pc = .ok (.dreturn, 1)) (hp : post v z y) : JW p l e R s m args below meth c nL D aC ad A sh (MQ below (cQd D aC ad sh post A) args s cells slots A) cells slots (zc z y) pc L [.double v] :=
  fun H locs ls hP hS hl => W.dret (v := v) G.1 G.2.1 hr (fun t ht hW => ⟨⟨_, zc z y, rfl, ⟨z, y, rfl, hp⟩, by rw [ht]; exact hP, va_K.moved hW.alike G.K⟩, hS.F ht⟩) hS.2.2 hdg G.locks
theorem x_retf (G : wG p s m args meth c cc own nL D aC ad A sh) {post : UInt32 → wZ → wZ → Prop} {XC : String → State → State → Prop} {v : UInt32} (hr : meth.sig.returnType = some .float) (hc : cells ≤ mc ∧ slots ≤ ms) (hdg : decode cc pc = .ok (.freturn, 1)) (hp : post v z y) : JW p l e R s m args below meth c nL D aC ad A sh (vx_MQ below (cQf D aC ad sh post A) XC args s mc ms A) cells slots (zc z y) pc L [.float v] :=
  fun H locs ls hP hS hl => vx_ret (W.widen hc.1 hc.2 (j_retf G hr hdg hp H locs ls hP hS hl))
theorem x_retd (G : wG p s m args meth c cc own nL D aC ad A sh) {post : UInt64 → wZ → wZ → Prop} {XC : String → State → State → Prop} {v : UInt64} (hr : meth.sig.returnType = some .double) (hc : cells ≤ mc ∧ slots ≤ ms) (hdg : decode cc pc = .ok (.dreturn, 1)) (hp : post v z y) : JW p l e R s m args below meth c nL D aC ad A sh (vx_MQ below (cQd D aC ad sh post A) XC args s mc ms A) cells slots (zc z y) pc L [.double v] :=
  fun H locs ls hP hS hl => vx_ret (W.widen hc.1 hc.2 (j_retd G hr hdg hp H locs ls hP hS hl))
/-- a method whose answer is told by QC; it throws nothing -/
def cMG (l : Launch) (D : va_G) (aC : Nat → ClassId) (ad : Nat → Nat) (sh : wSh) (y0 : MethodName) (b : ByteArray) (n : Nat) (ret : FieldType) (rm : Room) (av : List Value) (z y : wZ) (QC : (Nat → Prop) → Array Value → State → Outcome → State → Prop) : Prop :=
  ∀ sz, Met l y0 (.code y0 b n (some ret) :: wALL) rm (wPc D aC ad sh av (zc z y) sz) (QC (wAd ad sh sz)) 0 0 (wAd ad sh sz)
def xMG (l : Launch) (D : va_G) (aC : Nat → ClassId) (ad : Nat → Nat) (sh : wSh) (y0 : MethodName) (b : ByteArray) (n : Nat) (ret : FieldType) (rm : Room) (av : List Value) (z y : wZ) (QC : (Nat → Prop) → Array Value → State → Outcome → State → Prop) (thr : String → Prop) (mc ms : Nat) : Prop :=
  ∀ sz, vx_Met l y0 (.code y0 b n (some ret) :: wALL) rm (xPc D aC ad sh av (zc z y) sz) (QC (wAd ad sh sz)) (xX D aC ad sh (zc z y) thr (wAd ad sh sz)) mc ms (wAd ad sh sz)
theorem x_G {y0 : MethodName} {n : Nat} {b : ByteArray} {ret : FieldType} {rm : Room} {av : List Value} {QC : (Nat → Prop) → Array Value → State → Outcome → State → Prop} {thr : String → Prop} (L0 : List (Option Value)) (hy : plainName y0.cls = true) (hcat : av.all (fun v => v.category == 1) = true) (hn : av.length ≤ n) (hL0 : av.map some ++ List.replicate (n - av.length) none = L0) (hd : wDi ad sh)
    (body : ∀ (p : Program) (e : Env) (s : State) (m : MethodId) (args : Array Value) (below : List Frame) (meth : Method) (c : Code) (A : Nat → Prop), wG p s m args meth c b y0.cls n D aC ad A sh → meth.sig.returnType = some ret → wTh A s s.heap → JW p l e rm s m args below meth c n D aC ad A sh (vx_MQ below (QC A) (xX D aC ad sh (zc z y) thr A) args s mc ms A) 0 0 (zc z y) 0 L0 []) : xMG l D aC ad sh y0 b n ret rm av z y QC thr mc ms := by
  intro sz
  refine vx_ofW (cc := b) (maxL := n) (ret := some ret) hy rfl ?_
  intro p e s m args below meth c s₁ B hml hex hv
  obtain ⟨rfl, rfl, ⟨hP, hK⟩, hT⟩ := hv
  have hts := atoms_spec (ws := Cond.code y0 b n (some ret) :: wALL) B.pre
  have G : wG p s m av.toArray meth c b y0.cls n D aC ad (wAd ad sh s.heap.size) sh := ⟨B.exec, B.bytes, hml, findClass_of_methodNamed B.named, fun w h => hts w (List.mem_cons_of_mem _ h), hK, hd, fun q hq => Or.inl ⟨q, hq, rfl⟩, fun q h => Or.inr h, B.notSynchronized, hex⟩
  have k := body p e s m _ below meth c _ G B.returns hT s.heap [] _ hP va_S.rf (hL0 ▸ lvh_entry (cat_all hcat) hn)
  rw [lg_entry_eq]
  exact k
theorem c_G {y0 : MethodName} {n : Nat} {b : ByteArray} {ret : FieldType} {rm : Room} {av : List Value} {QC : (Nat → Prop) → Array Value → State → Outcome → State → Prop} (L0 : List (Option Value)) (hy : plainName y0.cls = true) (hcat : av.all (fun v => v.category == 1) = true) (hn : av.length ≤ n) (hL0 : av.map some ++ List.replicate (n - av.length) none = L0) (hd : wDi ad sh)
    (body : ∀ (p : Program) (e : Env) (s : State) (m : MethodId) (args : Array Value) (below : List Frame) (meth : Method) (c : Code) (A : Nat → Prop), wG p s m args meth c b y0.cls n D aC ad A sh → meth.sig.returnType = some ret → JW p l e rm s m args below meth c n D aC ad A sh (MQ below (QC A) args s 0 0 A) 0 0 (zc z y) 0 L0 []) : cMG l D aC ad sh y0 b n ret rm av z y QC := by
  intro sz
  refine Met.ofW (cc := b) (maxL := n) (ret := some ret) hy rfl ?_
  intro p e s m args below meth c s₁ B hml hv
  have hex := w_table (S := headSpec (Cond.code y0 b n (some ret) :: wALL) rm) B
  obtain ⟨rfl, rfl, hP, hK⟩ := hv
  have hts := atoms_spec (ws := Cond.code y0 b n (some ret) :: wALL) B.pre
  have G : wG p s m av.toArray meth c b y0.cls n D aC ad (wAd ad sh s.heap.size) sh := ⟨B.exec, B.bytes, hml, findClass_of_methodNamed B.named, fun w h => hts w (List.mem_cons_of_mem _ h), hK, hd, fun q hq => Or.inl ⟨q, hq, rfl⟩, fun q h => Or.inr h, B.notSynchronized, hex⟩
  have k := body p e s m _ below meth c _ G B.returns s.heap [] _ hP va_S.rf (hL0 ▸ lvh_entry (cat_all hcat) hn)
  rw [lg_entry_eq]
  exact k
end FLTR
def ksL (z : wZ) : Nat → Int → Int → Int
  | 0, _, acc => acc
  | n + 1, t, acc => ksL z n (t + 1) (if z 15 t = z 16 t then acc + 1 else acc)
noncomputable def mdL (z : wZ) : Nat → Int → Int → Int
  | 0, _, acc => acc
  | n + 1, b, acc => mdL z n (b + 1) (acc + dng z b)
def ksF (z : wZ) : UInt32 := FP.fdiv (FP.i2f (Int32.ofInt (ksL z (z 1 0).toNat 0 0))) (FP.i2f (Int32.ofInt (z 1 0)))
noncomputable def mdF (z : wZ) : UInt64 := FP.ddiv (FP.i2d (Int32.ofInt (mdL z (z 2 0).toNat 0 0))) (FP.i2d (Int32.ofInt (z 2 0)))
