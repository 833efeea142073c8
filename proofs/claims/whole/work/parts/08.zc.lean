/-! THE STATE IN TWO: z, what both sides share (places below 64), y, each side's own (the others) -/
section WZC
def zc (z y : wZ) : wZ := fun k => if k < 64 then z k else y k
theorem zc_z {z y : wZ} {k : Nat} (h : k < 64) : zc z y k = z k := by simp [zc, h]
theorem zc_y {z y : wZ} {k : Nat} (h : ¬ k < 64) : zc z y k = y k := by simp [zc, h]
theorem zp_zc {z y : wZ} {k : Nat} {a x : Int} (h : k < 64) : zp (zc z y) k a x = zc (zp z k a x) y := by
  funext k' a'
  by_cases h1 : k' < 64
  · simp [zp, zc, h1]
  · have h2 : ¬ k' = k := by omega
    simp [zp, zc, h1, h2]
theorem zp_yc {z y : wZ} {k : Nat} {a x : Int} (h : ¬ k < 64) : zp (zc z y) k a x = zc z (zp y k a x) := by
  funext k' a'
  by_cases h1 : k' < 64
  · have h2 : ¬ k' = k := by omega
    simp [zp, zc, h1, h2]
  · simp [zp, zc, h1]
def wlo (k : Nat) : Int := match k with
  | 26 => -1
  | _ => 0
def whi (k : Nat) : Int := match k with
  | 0 => 16
  | 1 => 24
  | 2 => 30
  | 3 => 40
  | 4 => 4
  | 5 => 10
  | 6 => 60000
  | 7 => 50
  | 8 => 480
  | 10 => 1
  | 11 => 15
  | 12 => 15
  | 13 => 300
  | 14 => 300
  | 15 => 1
  | 16 => 1
  | 17 => 15
  | 18 => 15
  | 19 => 23
  | 20 => 300
  | 21 => 1
  | 22 => 100
  | 23 => 65535
  | 24 => 29
  | 25 => 1000
  | 26 => 3
  | 27 => 15
  | 28 => 3
  | 29 => 60000
  | 30 => 1
  | 31 => 50
  | 32 => 2
  | 64 => 1000000
  | 65 => 1000000
  | 66 => 1000000
  | 70 => 1000000
  | 71 => 5
  | 72 => 2
  | _ => 0
def Rng (z : wZ) : Prop := ∀ (k : Nat) (a : Int), wlo k ≤ z k a ∧ z k a ≤ whi k
theorem Rng_zp {z : wZ} (h : Rng z) {k : Nat} {a x : Int} (hx : wlo k ≤ x ∧ x ≤ whi k) : Rng (zp z k a x) := by
  intro k' a'
  by_cases e : k' = k ∧ a' = a
  · obtain ⟨rfl, rfl⟩ := e
    rw [zp_same]; exact hx
  · rw [zp_ne z e]; exact h k' a'
variable {p : Program} {l : Launch} {e : Env} {R : Room} {s : State} {m : MethodId} {args : Array Value} {below : List Frame} {meth : Method} {c : Code} {cc : ByteArray} {own : String} {nL : Nat} {D : va_G} {aC : Nat → ClassId} {ad : Nat → Nat} {A : Nat → Prop} {sh : wSh} {Q : State → Prop} {cells slots : Nat} {z y : wZ} {pc : Nat} {L : List (Option Value)} {st : List Value}
theorem j_getz (G : wG p s m args meth c cc own nL D aC ad A sh) {idx ci k N n : Nat} {C : String} {T : u_T} (F : wFL own idx ci k C T N) (q0 : Nat) {fs : List wF} (he : sh[q0]? = some (n, .inl (ci, fs))) {kz : Nat} {az : Int} (hf : fs[k]? = some (.inr (kz, az))) (hk : kz < 64) (hdg : decode cc pc = .ok (.getfield idx, 3)) (kk : JW p l e R s m args below meth c nL D aC ad A sh Q cells slots (zc z y) (pc + 3) L (vi (z kz az) :: st)) : JW p l e R s m args below meth c nL D aC ad A sh Q cells slots (zc z y) pc L (.ref (ad n) :: st) :=
  i_geti G F q0 he hf hdg (by rw [zc_z hk]; exact kk)
theorem j_gety (G : wG p s m args meth c cc own nL D aC ad A sh) {idx ci k N n : Nat} {C : String} {T : u_T} (F : wFL own idx ci k C T N) (q0 : Nat) {fs : List wF} (he : sh[q0]? = some (n, .inl (ci, fs))) {kz : Nat} {az : Int} (hf : fs[k]? = some (.inr (kz, az))) (hk : ¬ kz < 64) (hdg : decode cc pc = .ok (.getfield idx, 3)) (kk : JW p l e R s m args below meth c nL D aC ad A sh Q cells slots (zc z y) (pc + 3) L (vi (y kz az) :: st)) : JW p l e R s m args below meth c nL D aC ad A sh Q cells slots (zc z y) pc L (.ref (ad n) :: st) :=
  i_geti G F q0 he hf hdg (by rw [zc_y hk]; exact kk)
theorem j_putz (G : wG p s m args meth c cc own nL D aC ad A sh) {idx ci k N n : Nat} {C : String} {T : u_T} {ty0 : Nat → FieldType} (F : wFP own idx ci k C T N ty0) (q0 : Nat) {fs : List wF} (he : sh[q0]? = some (n, .inl (ci, fs))) {kz : Nat} {az x : Int} (hf : fs[k]? = some (.inr (kz, az))) (hk : kz < 64) (ho : wOnly sh q0 kz = true) (hoF : wOnlyF fs k kz = true) (hR : Rng z) (hx : wlo kz ≤ x ∧ x ≤ whi kz) (hdg : decode cc pc = .ok (.putfield idx, 3)) (kk : ∀ z' : wZ, z' = zp z kz az x → Rng z' → JW p l e R s m args below meth c nL D aC ad A sh Q cells slots (zc z' y) (pc + 3) L st) : JW p l e R s m args below meth c nL D aC ad A sh Q cells slots (zc z y) pc L (vi x :: .ref (ad n) :: st) :=
  i_puti G F q0 he hf ho hoF hdg (by rw [zp_zc hk]; exact kk _ rfl (Rng_zp hR hx))
theorem j_puty (G : wG p s m args meth c cc own nL D aC ad A sh) {idx ci k N n : Nat} {C : String} {T : u_T} {ty0 : Nat → FieldType} (F : wFP own idx ci k C T N ty0) (q0 : Nat) {fs : List wF} (he : sh[q0]? = some (n, .inl (ci, fs))) {kz : Nat} {az x : Int} (hf : fs[k]? = some (.inr (kz, az))) (hk : ¬ kz < 64) (ho : wOnly sh q0 kz = true) (hoF : wOnlyF fs k kz = true) (hR : Rng y) (hx : wlo kz ≤ x ∧ x ≤ whi kz) (hdg : decode cc pc = .ok (.putfield idx, 3)) (kk : ∀ y' : wZ, y' = zp y kz az x → Rng y' → JW p l e R s m args below meth c nL D aC ad A sh Q cells slots (zc z y') (pc + 3) L st) : JW p l e R s m args below meth c nL D aC ad A sh Q cells slots (zc z y) pc L (vi x :: .ref (ad n) :: st) :=
  i_puti G F q0 he hf ho hoF hdg (by rw [zp_yc hk]; exact kk _ rfl (Rng_zp hR hx))
theorem j_iald_z (G : wG p s m args meth c cc own nL D aC ad A sh) (q0 : Nat) {n len k : Nat} (he : sh[q0]? = some (n, .inr (0, len, k))) (hn : len < 2147483648) (hk : k < 64) {a : Int} (h0 : 0 ≤ a) (h1 : a < (len : Int)) (hdg : decode cc pc = .ok (.iaload, 1)) (kk : JW p l e R s m args below meth c nL D aC ad A sh Q cells slots (zc z y) (pc + 1) L (vi (z k a) :: st)) : JW p l e R s m args below meth c nL D aC ad A sh Q cells slots (zc z y) pc L (vi a :: .ref (ad n) :: st) :=
  i_iald G q0 he hn h0 h1 hdg (by rw [zc_z hk]; exact kk)
theorem j_iald_y (G : wG p s m args meth c cc own nL D aC ad A sh) (q0 : Nat) {n len k : Nat} (he : sh[q0]? = some (n, .inr (0, len, k))) (hn : len < 2147483648) (hk : ¬ k < 64) {a : Int} (h0 : 0 ≤ a) (h1 : a < (len : Int)) (hdg : decode cc pc = .ok (.iaload, 1)) (kk : JW p l e R s m args below meth c nL D aC ad A sh Q cells slots (zc z y) (pc + 1) L (vi (y k a) :: st)) : JW p l e R s m args below meth c nL D aC ad A sh Q cells slots (zc z y) pc L (vi a :: .ref (ad n) :: st) :=
  i_iald G q0 he hn h0 h1 hdg (by rw [zc_y hk]; exact kk)
theorem j_zald_z (G : wG p s m args meth c cc own nL D aC ad A sh) (q0 : Nat) {n len k : Nat} (he : sh[q0]? = some (n, .inr (1, len, k))) (hn : len < 2147483648) (hk : k < 64) {a : Int} (h0 : 0 ≤ a) (h1 : a < (len : Int)) (hdg : decode cc pc = .ok (.baload, 1)) (kk : JW p l e R s m args below meth c nL D aC ad A sh Q cells slots (zc z y) (pc + 1) L (vi (z k a) :: st)) : JW p l e R s m args below meth c nL D aC ad A sh Q cells slots (zc z y) pc L (vi a :: .ref (ad n) :: st) :=
  i_zald G q0 he hn h0 h1 hdg (by rw [zc_z hk]; exact kk)
theorem j_zald_y (G : wG p s m args meth c cc own nL D aC ad A sh) (q0 : Nat) {n len k : Nat} (he : sh[q0]? = some (n, .inr (1, len, k))) (hn : len < 2147483648) (hk : ¬ k < 64) {a : Int} (h0 : 0 ≤ a) (h1 : a < (len : Int)) (hdg : decode cc pc = .ok (.baload, 1)) (kk : JW p l e R s m args below meth c nL D aC ad A sh Q cells slots (zc z y) (pc + 1) L (vi (y k a) :: st)) : JW p l e R s m args below meth c nL D aC ad A sh Q cells slots (zc z y) pc L (vi a :: .ref (ad n) :: st) :=
  i_zald G q0 he hn h0 h1 hdg (by rw [zc_y hk]; exact kk)
theorem j_cald_z (G : wG p s m args meth c cc own nL D aC ad A sh) (q0 : Nat) {n len k : Nat} (he : sh[q0]? = some (n, .inr (2, len, k))) (hn : len < 2147483648) (hk : k < 64) {a : Int} (h0 : 0 ≤ a) (h1 : a < (len : Int)) (hdg : decode cc pc = .ok (.caload, 1)) (kk : JW p l e R s m args below meth c nL D aC ad A sh Q cells slots (zc z y) (pc + 1) L (vi (z k a) :: st)) : JW p l e R s m args below meth c nL D aC ad A sh Q cells slots (zc z y) pc L (vi a :: .ref (ad n) :: st) :=
  i_cald G q0 he hn h0 h1 hdg (by rw [zc_z hk]; exact kk)
theorem j_cald_y (G : wG p s m args meth c cc own nL D aC ad A sh) (q0 : Nat) {n len k : Nat} (he : sh[q0]? = some (n, .inr (2, len, k))) (hn : len < 2147483648) (hk : ¬ k < 64) {a : Int} (h0 : 0 ≤ a) (h1 : a < (len : Int)) (hdg : decode cc pc = .ok (.caload, 1)) (kk : JW p l e R s m args below meth c nL D aC ad A sh Q cells slots (zc z y) (pc + 1) L (vi (y k a) :: st)) : JW p l e R s m args below meth c nL D aC ad A sh Q cells slots (zc z y) pc L (vi a :: .ref (ad n) :: st) :=
  i_cald G q0 he hn h0 h1 hdg (by rw [zc_y hk]; exact kk)
theorem j_iast_z (G : wG p s m args meth c cc own nL D aC ad A sh) (q0 : Nat) {n len k : Nat} (he : sh[q0]? = some (n, .inr (0, len, k))) (hn : len < 2147483648) (hk : k < 64) {a x : Int} (h0 : 0 ≤ a) (h1 : a < (len : Int)) (ho : wOnly sh q0 k = true) (hR : Rng z) (hx : wlo k ≤ x ∧ x ≤ whi k) (hdg : decode cc pc = .ok (.iastore, 1)) (kk : ∀ w9 : wZ, w9 = zp z k a x → Rng w9 → JW p l e R s m args below meth c nL D aC ad A sh Q cells slots (zc w9 y) (pc + 1) L st) : JW p l e R s m args below meth c nL D aC ad A sh Q cells slots (zc z y) pc L (vi x :: vi a :: .ref (ad n) :: st) :=
  i_iast G q0 he hn h0 h1 ho hdg (by rw [zp_zc hk]; exact kk _ rfl (Rng_zp hR hx))
theorem j_iast_y (G : wG p s m args meth c cc own nL D aC ad A sh) (q0 : Nat) {n len k : Nat} (he : sh[q0]? = some (n, .inr (0, len, k))) (hn : len < 2147483648) (hk : ¬ k < 64) {a x : Int} (h0 : 0 ≤ a) (h1 : a < (len : Int)) (ho : wOnly sh q0 k = true) (hR : Rng y) (hx : wlo k ≤ x ∧ x ≤ whi k) (hdg : decode cc pc = .ok (.iastore, 1)) (kk : ∀ w9 : wZ, w9 = zp y k a x → Rng w9 → JW p l e R s m args below meth c nL D aC ad A sh Q cells slots (zc z w9) (pc + 1) L st) : JW p l e R s m args below meth c nL D aC ad A sh Q cells slots (zc z y) pc L (vi x :: vi a :: .ref (ad n) :: st) :=
  i_iast G q0 he hn h0 h1 ho hdg (by rw [zp_yc hk]; exact kk _ rfl (Rng_zp hR hx))
theorem j_zast_z (G : wG p s m args meth c cc own nL D aC ad A sh) (q0 : Nat) {n len k : Nat} (he : sh[q0]? = some (n, .inr (1, len, k))) (hn : len < 2147483648) (hk : k < 64) {a x : Int} (h0 : 0 ≤ a) (h1 : a < (len : Int)) (hxx : x = 0 ∨ x = 1) (ho : wOnly sh q0 k = true) (hR : Rng z) (hx : wlo k ≤ x ∧ x ≤ whi k) (hdg : decode cc pc = .ok (.bastore, 1)) (kk : ∀ w9 : wZ, w9 = zp z k a x → Rng w9 → JW p l e R s m args below meth c nL D aC ad A sh Q cells slots (zc w9 y) (pc + 1) L st) : JW p l e R s m args below meth c nL D aC ad A sh Q cells slots (zc z y) pc L (vi x :: vi a :: .ref (ad n) :: st) :=
  i_zast G q0 he hn h0 h1 hxx ho hdg (by rw [zp_zc hk]; exact kk _ rfl (Rng_zp hR hx))
theorem j_zast_y (G : wG p s m args meth c cc own nL D aC ad A sh) (q0 : Nat) {n len k : Nat} (he : sh[q0]? = some (n, .inr (1, len, k))) (hn : len < 2147483648) (hk : ¬ k < 64) {a x : Int} (h0 : 0 ≤ a) (h1 : a < (len : Int)) (hxx : x = 0 ∨ x = 1) (ho : wOnly sh q0 k = true) (hR : Rng y) (hx : wlo k ≤ x ∧ x ≤ whi k) (hdg : decode cc pc = .ok (.bastore, 1)) (kk : ∀ w9 : wZ, w9 = zp y k a x → Rng w9 → JW p l e R s m args below meth c nL D aC ad A sh Q cells slots (zc z w9) (pc + 1) L st) : JW p l e R s m args below meth c nL D aC ad A sh Q cells slots (zc z y) pc L (vi x :: vi a :: .ref (ad n) :: st) :=
  i_zast G q0 he hn h0 h1 hxx ho hdg (by rw [zp_yc hk]; exact kk _ rfl (Rng_zp hR hx))
theorem j_cast_z (G : wG p s m args meth c cc own nL D aC ad A sh) (q0 : Nat) {n len k : Nat} (he : sh[q0]? = some (n, .inr (2, len, k))) (hn : len < 2147483648) (hk : k < 64) {a x : Int} (h0 : 0 ≤ a) (h1 : a < (len : Int)) (hxx : 0 ≤ x ∧ x < 65536) (ho : wOnly sh q0 k = true) (hR : Rng z) (hx : wlo k ≤ x ∧ x ≤ whi k) (hdg : decode cc pc = .ok (.castore, 1)) (kk : ∀ w9 : wZ, w9 = zp z k a x → Rng w9 → JW p l e R s m args below meth c nL D aC ad A sh Q cells slots (zc w9 y) (pc + 1) L st) : JW p l e R s m args below meth c nL D aC ad A sh Q cells slots (zc z y) pc L (vi x :: vi a :: .ref (ad n) :: st) :=
  i_cast G q0 he hn h0 h1 hxx ho hdg (by rw [zp_zc hk]; exact kk _ rfl (Rng_zp hR hx))
theorem j_cast_y (G : wG p s m args meth c cc own nL D aC ad A sh) (q0 : Nat) {n len k : Nat} (he : sh[q0]? = some (n, .inr (2, len, k))) (hn : len < 2147483648) (hk : ¬ k < 64) {a x : Int} (h0 : 0 ≤ a) (h1 : a < (len : Int)) (hxx : 0 ≤ x ∧ x < 65536) (ho : wOnly sh q0 k = true) (hR : Rng y) (hx : wlo k ≤ x ∧ x ≤ whi k) (hdg : decode cc pc = .ok (.castore, 1)) (kk : ∀ w9 : wZ, w9 = zp y k a x → Rng w9 → JW p l e R s m args below meth c nL D aC ad A sh Q cells slots (zc z w9) (pc + 1) L st) : JW p l e R s m args below meth c nL D aC ad A sh Q cells slots (zc z y) pc L (vi x :: vi a :: .ref (ad n) :: st) :=
  i_cast G q0 he hn h0 h1 hxx ho hdg (by rw [zp_yc hk]; exact kk _ rfl (Rng_zp hR hx))
/-- a method's contract: from (z, y), the answer and the new pair -/
def cMi (l : Launch) (D : va_G) (aC : Nat → ClassId) (ad : Nat → Nat) (sh : wSh) (y0 : MethodName) (b : ByteArray) (n : Nat) (ret : FieldType) (rm : Room) (av : List Value) (z y : wZ) (post : Int → wZ → wZ → Prop) : Prop := wMi l D aC ad sh y0 b n ret rm av (zc z y) (fun r u => ∃ z' y', u = zc z' y' ∧ post r z' y')
def cMv (l : Launch) (D : va_G) (aC : Nat → ClassId) (ad : Nat → Nat) (sh : wSh) (y0 : MethodName) (b : ByteArray) (n : Nat) (rm : Room) (av : List Value) (z y : wZ) (post : wZ → wZ → Prop) : Prop := wMv l D aC ad sh y0 b n rm av (zc z y) (fun u => ∃ z' y', u = zc z' y' ∧ post z' y')
abbrev cQi (D : va_G) (aC : Nat → ClassId) (ad : Nat → Nat) (sh : wSh) (post : Int → wZ → wZ → Prop) (A : Nat → Prop) : Array Value → State → Outcome → State → Prop := wQi D aC ad sh (fun r u => ∃ z' y', u = zc z' y' ∧ post r z' y') A
abbrev cQv (D : va_G) (aC : Nat → ClassId) (ad : Nat → Nat) (sh : wSh) (post : wZ → wZ → Prop) (A : Nat → Prop) : Array Value → State → Outcome → State → Prop := wQv D aC ad sh (fun u => ∃ z' y', u = zc z' y' ∧ post z' y') A
def rmL (n : Nat) : Room := { frames := n, cells := 0, slots := 0, locals := 40 + 40 * n }
theorem rm_ok {a b n : Nat} (h : a + 1 ≤ b) (hn : n ≤ 20) : wRm (rmL a) (rmL b) n := ⟨rfl, rfl, h, by show 8 + (n + 11) + (40 + 40 * a) ≤ 40 + 40 * b; omega⟩
theorem j_reti (G : wG p s m args meth c cc own nL D aC ad A sh) {post : Int → wZ → wZ → Prop} {x : Int} (hr : meth.sig.returnType = some .int) (hdg : decode cc pc = .ok (.ireturn, 1)) (hp : post x z y) : JW p l e R s m args below meth c nL D aC ad A sh (MQ below (cQi D aC ad sh post A) args s cells slots A) cells slots (zc z y) pc L [vi x] := i_reti G hr hdg ⟨z, y, rfl, hp⟩
theorem j_retz (G : wG p s m args meth c cc own nL D aC ad A sh) {post : Int → wZ → wZ → Prop} {x : Int} (hr : meth.sig.returnType = some .boolean) (hx : x = 0 ∨ x = 1) (hdg : decode cc pc = .ok (.ireturn, 1)) (hp : post x z y) : JW p l e R s m args below meth c nL D aC ad A sh (MQ below (cQi D aC ad sh post A) args s cells slots A) cells slots (zc z y) pc L [vi x] := i_retz G hr hx hdg ⟨z, y, rfl, hp⟩
theorem j_retc (G : wG p s m args meth c cc own nL D aC ad A sh) {post : Int → wZ → wZ → Prop} {x : Int} (hr : meth.sig.returnType = some .char) (hx : 0 ≤ x ∧ x < 65536) (hdg : decode cc pc = .ok (.ireturn, 1)) (hp : post x z y) : JW p l e R s m args below meth c nL D aC ad A sh (MQ below (cQi D aC ad sh post A) args s cells slots A) cells slots (zc z y) pc L [vi x] := i_retc G hr hx hdg ⟨z, y, rfl, hp⟩
theorem j_retv (G : wG p s m args meth c cc own nL D aC ad A sh) {post : wZ → wZ → Prop} (hr : meth.sig.returnType = none) (hdg : decode cc pc = .ok (.return_, 1)) (hp : post z y) : JW p l e R s m args below meth c nL D aC ad A sh (MQ below (cQv D aC ad sh post A) args s cells slots A) cells slots (zc z y) pc L [] := i_retv G hr hdg ⟨z, y, rfl, hp⟩
theorem j_calli (G : wG p s m args meth c cc own nL D aC ad A sh) {y0 : MethodName} {b : ByteArray} {n : Nat} {ret : FieldType} {rm : Room} {post : Int → wZ → wZ → Prop} {idx nb ci N q0 : Nat} {C : String} {T : u_T} {fs : List wF} {As : List Value} {st0 : List Value} (K : wCV own idx C y0 b n (some ret) As.length) (hM : cMi l D aC ad sh y0 b n ret rm (.ref (ad nb) :: As) z y post) (hst : st0 = As.reverse ++ .ref (ad nb) :: st) (he : sh[q0]? = some (nb, .inl (ci, fs))) (hc : vwCl[ci]? = some (C, T, N)) (hr : wRm rm R n) (hcs : cells ≤ R.cells ∧ slots ≤ R.slots) (hcat : (st.map fun v => v.category).sum ≤ 8) (hdg : decode cc pc = .ok (.invokevirtual idx, 3))
    (kk : ∀ (r : Int) (z' y' : wZ), post r z' y' → JW p l e R s m args below meth c nL D aC ad A sh Q cells slots (zc z' y') (pc + 3) L (vi r :: st)) : JW p l e R s m args below meth c nL D aC ad A sh Q cells slots (zc z y) pc L st0 :=
  i_calli G K hM hst he hc hr hcs hcat hdg (fun r u h => by obtain ⟨z', y', rfl, h⟩ := h; exact kk r z' y' h)
theorem j_callv (G : wG p s m args meth c cc own nL D aC ad A sh) {y0 : MethodName} {b : ByteArray} {n : Nat} {rm : Room} {post : wZ → wZ → Prop} {idx nb ci N q0 : Nat} {C : String} {T : u_T} {fs : List wF} {As : List Value} {st0 : List Value} (K : wCV own idx C y0 b n none As.length) (hM : cMv l D aC ad sh y0 b n rm (.ref (ad nb) :: As) z y post) (hst : st0 = As.reverse ++ .ref (ad nb) :: st) (he : sh[q0]? = some (nb, .inl (ci, fs))) (hc : vwCl[ci]? = some (C, T, N)) (hr : wRm rm R n) (hcs : cells ≤ R.cells ∧ slots ≤ R.slots) (hcat : (st.map fun v => v.category).sum ≤ 8) (hdg : decode cc pc = .ok (.invokevirtual idx, 3))
    (kk : ∀ (z' y' : wZ), post z' y' → JW p l e R s m args below meth c nL D aC ad A sh Q cells slots (zc z' y') (pc + 3) L st) : JW p l e R s m args below meth c nL D aC ad A sh Q cells slots (zc z y) pc L st0 :=
  i_callv G K hM hst he hc hr hcs hcat hdg (fun u h => by obtain ⟨z', y', rfl, h⟩ := h; exact kk z' y' h)
theorem j_callsi (G : wG p s m args meth c cc own nL D aC ad A sh) {y0 : MethodName} {b : ByteArray} {n : Nat} {ret : FieldType} {rm : Room} {post : Int → wZ → wZ → Prop} {idx : Nat} {As : List Value} {st0 : List Value} (K : wCS own idx y0 b n (some ret) As.length) (hM : cMi l D aC ad sh y0 b n ret rm As z y post) (hst : st0 = As.reverse ++ st) (hr : wRm rm R n) (hcs : cells ≤ R.cells ∧ slots ≤ R.slots) (hcat : (st.map fun v => v.category).sum ≤ 8) (hdg : decode cc pc = .ok (.invokestatic idx, 3))
    (kk : ∀ (r : Int) (z' y' : wZ), post r z' y' → JW p l e R s m args below meth c nL D aC ad A sh Q cells slots (zc z' y') (pc + 3) L (vi r :: st)) : JW p l e R s m args below meth c nL D aC ad A sh Q cells slots (zc z y) pc L st0 :=
  i_callsi G K hM hst hr hcs hcat hdg (fun r u h => by obtain ⟨z', y', rfl, h⟩ := h; exact kk r z' y' h)
end WZC
