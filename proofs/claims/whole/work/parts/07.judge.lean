/-! THE JUDGEMENT JW and its instructions -/
section WJ
/-- the fixed facts of a walk -/
def wG (p : Program) (s : State) (m : MethodId) (args : Array Value) (meth : Method) (c : Code) (cc : ByteArray) (own : String) (nL : Nat) (D : va_G) (aC : Nat → ClassId) (ad : Nat → Nat) (A : Nat → Prop) (sh : wSh) : Prop :=
  p.tables.exec = Jvm.exec ∧ c.code = cc ∧ c.maxLocals = nL ∧ s.vm.findClass own = some m.cls ∧ (∀ w ∈ wALL, w.before args s = true) ∧ va_K D vwCl (wty aC) s ∧ wDi ad sh ∧ (∀ q, q ∈ sh → A (ad q.1)) ∧ (∀ q : Nat, s.heap.size ≤ q → A q) ∧ meth.locks = false ∧ (∀ x ∈ c.exceptionTable.toList, False)
def JW (p : Program) (l : Launch) (e : Env) (R : Room) (s : State) (m : MethodId) (args : Array Value) (below : List Frame) (meth : Method) (c : Code) (nL : Nat) (D : va_G) (aC : Nat → ClassId) (ad : Nat → Nat) (A : Nat → Prop) (sh : wSh) (Q : State → Prop) (cells slots : Nat) (z : wZ) (pc : Nat) (L : List (Option Value)) (st : List Value) : Prop :=
  ∀ (H : Heap) (locs : List Loc) (ls : Array Slot), va_P D vwCl (wd aC ad sh z) H → va_S A s.heap H locs → lvh ls nL L → W p l e R s m args below meth c H locs cells slots Q (F0 m pc ls st)
variable {p : Program} {l : Launch} {e : Env} {R : Room} {s : State} {m : MethodId} {args : Array Value} {below : List Frame} {meth : Method} {c : Code} {cc : ByteArray} {own : String} {nL : Nat} {D : va_G} {aC : Nat → ClassId} {ad : Nat → Nat} {A : Nat → Prop} {sh : wSh} {Q : State → Prop} {cells slots : Nat} {z : wZ} {pc : Nat} {L : List (Option Value)} {st : List Value}
theorem i_iload (G : wG p s m args meth c cc own nL D aC ad A sh) {i : Nat} {x : Int32} (hdg : decode cc pc = .ok (.iload i, 2)) (hL : L[i]? = some (some (.int x))) (k : JW p l e R s m args below meth c nL D aC ad A sh Q cells slots z (pc + 2) L (.int x :: st)) : JW p l e R s m args below meth c nL D aC ad A sh Q cells slots z pc L st :=
  fun H locs ls hP hS hl => lv_iload G.1 G.2.1 hdg (hl.2.2.2 i _ hL).1 (k H locs ls hP hS hl)
theorem i_iload_n (G : wG p s m args meth c cc own nL D aC ad A sh) {i : Fin 4} {x : Int32} (hdg : decode cc pc = .ok (.iload_n i, 1)) (hL : L[(i : Nat)]? = some (some (.int x))) (k : JW p l e R s m args below meth c nL D aC ad A sh Q cells slots z (pc + 1) L (.int x :: st)) : JW p l e R s m args below meth c nL D aC ad A sh Q cells slots z pc L st :=
  fun H locs ls hP hS hl => lv_iload_n G.1 G.2.1 hdg rfl (hl.2.2.2 i _ hL).1 (k H locs ls hP hS hl)
theorem i_aload (G : wG p s m args meth c cc own nL D aC ad A sh) {i : Nat} {x : Nat} (hdg : decode cc pc = .ok (.aload i, 2)) (hL : L[i]? = some (some (.ref x))) (k : JW p l e R s m args below meth c nL D aC ad A sh Q cells slots z (pc + 2) L (.ref x :: st)) : JW p l e R s m args below meth c nL D aC ad A sh Q cells slots z pc L st :=
  fun H locs ls hP hS hl => lv_aload G.1 G.2.1 hdg (hl.2.2.2 i _ hL).1 (k H locs ls hP hS hl)
theorem i_aload_n (G : wG p s m args meth c cc own nL D aC ad A sh) {i : Fin 4} {x : Nat} (hdg : decode cc pc = .ok (.aload_n i, 1)) (hL : L[(i : Nat)]? = some (some (.ref x))) (k : JW p l e R s m args below meth c nL D aC ad A sh Q cells slots z (pc + 1) L (.ref x :: st)) : JW p l e R s m args below meth c nL D aC ad A sh Q cells slots z pc L st :=
  fun H locs ls hP hS hl => lv_aload_n G.1 G.2.1 hdg rfl (hl.2.2.2 i _ hL).1 (k H locs ls hP hS hl)
theorem i_istore (G : wG p s m args meth c cc own nL D aC ad A sh) {i : Nat} {x : Int32} {L' : List (Option Value)} (hdg : decode cc pc = .ok (.istore i, 2)) (hi : i < nL) (hL : L.set i (some (.int x)) = L') (k : JW p l e R s m args below meth c nL D aC ad A sh Q cells slots z (pc + 2) L' st) : JW p l e R s m args below meth c nL D aC ad A sh Q cells slots z pc L (.int x :: st) :=
  fun H locs ls hP hS hl => lv_istore G.1 G.2.1 hdg (lvh_has hl) hi rfl (fun ls' hl' => k H locs ls' hP hS (hL ▸ lvh_set hl rfl hl'))
theorem i_istore_n (G : wG p s m args meth c cc own nL D aC ad A sh) {i : Fin 4} {x : Int32} {L' : List (Option Value)} (hdg : decode cc pc = .ok (.istore_n i, 1)) (hi : (i : Nat) < nL) (hL : L.set (i : Nat) (some (.int x)) = L') (k : JW p l e R s m args below meth c nL D aC ad A sh Q cells slots z (pc + 1) L' st) : JW p l e R s m args below meth c nL D aC ad A sh Q cells slots z pc L (.int x :: st) :=
  fun H locs ls hP hS hl => lv_istore_n G.1 G.2.1 hdg rfl (lvh_has hl) hi rfl (fun ls' hl' => k H locs ls' hP hS (hL ▸ lvh_set hl rfl hl'))
theorem i_astore (G : wG p s m args meth c cc own nL D aC ad A sh) {i : Nat} {x : Nat} {L' : List (Option Value)} (hdg : decode cc pc = .ok (.astore i, 2)) (hi : i < nL) (hL : L.set i (some (.ref x)) = L') (k : JW p l e R s m args below meth c nL D aC ad A sh Q cells slots z (pc + 2) L' st) : JW p l e R s m args below meth c nL D aC ad A sh Q cells slots z pc L (.ref x :: st) :=
  fun H locs ls hP hS hl => lv_astore G.1 G.2.1 hdg (lvh_has hl) hi rfl (fun ls' hl' => k H locs ls' hP hS (hL ▸ lvh_set hl rfl hl'))
theorem i_astore_n (G : wG p s m args meth c cc own nL D aC ad A sh) {i : Fin 4} {x : Nat} {L' : List (Option Value)} (hdg : decode cc pc = .ok (.astore_n i, 1)) (hi : (i : Nat) < nL) (hL : L.set (i : Nat) (some (.ref x)) = L') (k : JW p l e R s m args below meth c nL D aC ad A sh Q cells slots z (pc + 1) L' st) : JW p l e R s m args below meth c nL D aC ad A sh Q cells slots z pc L (.ref x :: st) :=
  fun H locs ls hP hS hl => lv_astore_n G.1 G.2.1 hdg rfl (lvh_has hl) hi rfl (fun ls' hl' => k H locs ls' hP hS (hL ▸ lvh_set hl rfl hl'))
theorem i_iinc (G : wG p s m args meth c cc own nL D aC ad A sh) {i : Nat} {n x : Int} {L' : List (Option Value)} (hdg : decode cc pc = .ok (.iinc i n, 3)) (hi : i < nL) (hx : L[i]? = some (some (vi x))) (hL : L.set i (some (vi (x + n))) = L') (k : JW p l e R s m args below meth c nL D aC ad A sh Q cells slots z (pc + 3) L' st) : JW p l e R s m args below meth c nL D aC ad A sh Q cells slots z pc L st :=
  fun H locs ls hP hS hl => by
    obtain ⟨k0, hk0⟩ := List.getElem?_of_mem (lvl_mem.mpr hx)
    exact lv_iinc (v := Int32.ofInt (x + n)) G.1 G.2.1 hdg (lvh_has hl) hk0 (Int32.ofInt_add x n).symm hi rfl (fun ls' hl' => k H locs ls' hP hS (hL ▸ lvh_set hl rfl hl'))
theorem i_iconst (G : wG p s m args meth c cc own nL D aC ad A sh) {n : Int} (hdg : decode cc pc = .ok (.iconst n, 1)) (k : JW p l e R s m args below meth c nL D aC ad A sh Q cells slots z (pc + 1) L (vi n :: st)) : JW p l e R s m args below meth c nL D aC ad A sh Q cells slots z pc L st :=
  fun H locs ls hP hS hl => lv_iconst G.1 G.2.1 hdg rfl (k H locs ls hP hS hl)
theorem i_bipush (G : wG p s m args meth c cc own nL D aC ad A sh) {n : Int} (hdg : decode cc pc = .ok (.bipush n, 2)) (hn : (Int8.ofInt n).toInt32 = Int32.ofInt n) (k : JW p l e R s m args below meth c nL D aC ad A sh Q cells slots z (pc + 2) L (vi n :: st)) : JW p l e R s m args below meth c nL D aC ad A sh Q cells slots z pc L st :=
  fun H locs ls hP hS hl => lv_bipush G.1 G.2.1 hdg hn (k H locs ls hP hS hl)
theorem i_sipush (G : wG p s m args meth c cc own nL D aC ad A sh) {n : Int} (hdg : decode cc pc = .ok (.sipush n, 3)) (hn : (Int16.ofInt n).toInt32 = Int32.ofInt n) (k : JW p l e R s m args below meth c nL D aC ad A sh Q cells slots z (pc + 3) L (vi n :: st)) : JW p l e R s m args below meth c nL D aC ad A sh Q cells slots z pc L st :=
  fun H locs ls hP hS hl => lv_sipush G.1 G.2.1 hdg hn (k H locs ls hP hS hl)
theorem i_ldc (G : wG p s m args meth c cc own nL D aC ad A sh) {index : Nat} (n : Int) (hc : Jvm.Cond.constant own index (Int32.ofInt n) ∈ wALL) (hdg : decode cc pc = .ok (.ldc index, 2)) (k : JW p l e R s m args below meth c nL D aC ad A sh Q cells slots z (pc + 2) L (vi n :: st)) : JW p l e R s m args below meth c nL D aC ad A sh Q cells slots z pc L st :=
  fun H locs ls hP hS hl => lv_ldc G.1 G.2.1 G.2.2.2.1 (G.2.2.2.2.1 _ hc) hdg (k H locs ls hP hS hl)
theorem i_iadd (G : wG p s m args meth c cc own nL D aC ad A sh) {x y : Int} (hdg : decode cc pc = .ok (.iadd, 1)) (k : JW p l e R s m args below meth c nL D aC ad A sh Q cells slots z (pc + 1) L (vi (x + y) :: st)) : JW p l e R s m args below meth c nL D aC ad A sh Q cells slots z pc L (vi y :: vi x :: st) :=
  fun H locs ls hP hS hl => lv_iadd G.1 G.2.1 hdg (by rw [← Int32.ofInt_add]; exact k H locs ls hP hS hl)
theorem i_isub (G : wG p s m args meth c cc own nL D aC ad A sh) {x y : Int} (hdg : decode cc pc = .ok (.isub, 1)) (k : JW p l e R s m args below meth c nL D aC ad A sh Q cells slots z (pc + 1) L (vi (x - y) :: st)) : JW p l e R s m args below meth c nL D aC ad A sh Q cells slots z pc L (vi y :: vi x :: st) :=
  fun H locs ls hP hS hl => lv_isub G.1 G.2.1 hdg (by rw [← Int32.ofInt_sub]; exact k H locs ls hP hS hl)
theorem i_imul (G : wG p s m args meth c cc own nL D aC ad A sh) {x y : Int} (hdg : decode cc pc = .ok (.imul, 1)) (k : JW p l e R s m args below meth c nL D aC ad A sh Q cells slots z (pc + 1) L (vi (x * y) :: st)) : JW p l e R s m args below meth c nL D aC ad A sh Q cells slots z pc L (vi y :: vi x :: st) :=
  fun H locs ls hP hS hl => lv_imul G.1 G.2.1 hdg (by rw [← Int32.ofInt_mul]; exact k H locs ls hP hS hl)
theorem wi_div {x y : Int} (hx : 0 ≤ x ∧ x ≤ 2147483647) (hy : 0 < y ∧ y ≤ 2147483647) : Int32.ofInt x / Int32.ofInt y = Int32.ofInt (x / y) := by
  have h0 : 0 ≤ x / y := Int.ediv_nonneg hx.1 (by omega)
  have h1 : x / y ≤ x := Int.ediv_le_self y hx.1
  rw [← Int32.toInt_inj, Int32.toInt_div_of_ne_left _ _ (fun h => by
    have h2 := congrArg Int32.toInt h
    rw [wi_ti (by omega)] at h2
    have h3 : Int32.minValue.toInt = -2147483648 := by decide
    omega), wi_ti (by omega), wi_ti (by omega), wi_ti (by omega), Int.tdiv_eq_ediv_of_nonneg hx.1]
theorem i_idiv (G : wG p s m args meth c cc own nL D aC ad A sh) {x y : Int} (hx : 0 ≤ x ∧ x ≤ 2147483647) (hy : 0 < y ∧ y ≤ 2147483647) (hdg : decode cc pc = .ok (.idiv, 1)) (k : JW p l e R s m args below meth c nL D aC ad A sh Q cells slots z (pc + 1) L (vi (x / y) :: st)) : JW p l e R s m args below meth c nL D aC ad A sh Q cells slots z pc L (vi y :: vi x :: st) :=
  fun H locs ls hP hS hl => lv_idiv G.1 G.2.1 hdg (by rw [← wi_0, wi_eq (by omega) (by omega)]; omega) (by rw [wi_div hx hy]; exact k H locs ls hP hS hl)
theorem i_irem (G : wG p s m args meth c cc own nL D aC ad A sh) {x y : Int} (hx : 0 ≤ x ∧ x ≤ 2147483647) (hy : 0 < y ∧ y ≤ 2147483647) (hdg : decode cc pc = .ok (.irem, 1)) (k : JW p l e R s m args below meth c nL D aC ad A sh Q cells slots z (pc + 1) L (vi (x % y) :: st)) : JW p l e R s m args below meth c nL D aC ad A sh Q cells slots z pc L (vi y :: vi x :: st) :=
  fun H locs ls hP hS hl => lv_irem G.1 G.2.1 hdg (by rw [← wi_0, wi_eq (by omega) (by omega)]; omega) (by
    rw [wi_div hx hy, ← Int32.ofInt_mul, ← Int32.ofInt_sub, show x - x / y * y = x % y by rw [Int.mul_comm, Int.emod_def]]; exact k H locs ls hP hS hl)
theorem i_iand (G : wG p s m args meth c cc own nL D aC ad A sh) {x y w : Int} (h : Int32.ofInt x &&& Int32.ofInt y = Int32.ofInt w) (hdg : decode cc pc = .ok (.iand, 1)) (k : JW p l e R s m args below meth c nL D aC ad A sh Q cells slots z (pc + 1) L (vi w :: st)) : JW p l e R s m args below meth c nL D aC ad A sh Q cells slots z pc L (vi y :: vi x :: st) :=
  fun H locs ls hP hS hl => lv_iand G.1 G.2.1 hdg (by rw [h]; exact k H locs ls hP hS hl)
theorem i_dup (G : wG p s m args meth c cc own nL D aC ad A sh) {v : Value} (hv : v.category = 1) (hdg : decode cc pc = .ok (.dup, 1)) (k : JW p l e R s m args below meth c nL D aC ad A sh Q cells slots z (pc + 1) L (v :: v :: st)) : JW p l e R s m args below meth c nL D aC ad A sh Q cells slots z pc L (v :: st) :=
  fun H locs ls hP hS hl => lv_dup G.1 G.2.1 hdg hv (k H locs ls hP hS hl)
theorem i_pop (G : wG p s m args meth c cc own nL D aC ad A sh) {v : Value} (hv : v.category = 1) (hdg : decode cc pc = .ok (.pop, 1)) (k : JW p l e R s m args below meth c nL D aC ad A sh Q cells slots z (pc + 1) L st) : JW p l e R s m args below meth c nL D aC ad A sh Q cells slots z pc L (v :: st) :=
  fun H locs ls hP hS hl => lv_pop G.1 G.2.1 hdg hv (k H locs ls hP hS hl)
theorem i_goto (G : wG p s m args meth c cc own nL D aC ad A sh) {off : Int} {tgt : Nat} (hdg : decode cc pc = .ok (.goto off, 3)) (ht : (pc : Int) + off = (tgt : Int)) (k : JW p l e R s m args below meth c nL D aC ad A sh Q cells slots z tgt L st) : JW p l e R s m args below meth c nL D aC ad A sh Q cells slots z pc L st :=
  fun H locs ls hP hS hl => lv_goto G.1 G.2.1 hdg ht (k H locs ls hP hS hl)
theorem i_icmp_lt (G : wG p s m args meth c cc own nL D aC ad A sh) {x y : Int} {off : Int} {tgt : Nat} (hdg : decode cc pc = .ok (.if_icmp .lt off, 3)) (ht : (pc : Int) + off = (tgt : Int)) (hx : -2147483648 ≤ x ∧ x ≤ 2147483647) (hy : -2147483648 ≤ y ∧ y ≤ 2147483647) (kt : x < y → JW p l e R s m args below meth c nL D aC ad A sh Q cells slots z tgt L st) (kf : ¬ x < y → JW p l e R s m args below meth c nL D aC ad A sh Q cells slots z (pc + 3) L st) : JW p l e R s m args below meth c nL D aC ad A sh Q cells slots z pc L (vi y :: vi x :: st) :=
  fun H locs ls hP hS hl => lv_icmp_lt G.1 G.2.1 hdg ht (fun h => kt ((wi_lt hx hy).mp h) H locs ls hP hS hl) (fun h => kf (fun q => h ((wi_lt hx hy).mpr q)) H locs ls hP hS hl)
theorem i_icmp_ge (G : wG p s m args meth c cc own nL D aC ad A sh) {x y : Int} {off : Int} {tgt : Nat} (hdg : decode cc pc = .ok (.if_icmp .ge off, 3)) (ht : (pc : Int) + off = (tgt : Int)) (hx : -2147483648 ≤ x ∧ x ≤ 2147483647) (hy : -2147483648 ≤ y ∧ y ≤ 2147483647) (kt : y ≤ x → JW p l e R s m args below meth c nL D aC ad A sh Q cells slots z tgt L st) (kf : ¬ y ≤ x → JW p l e R s m args below meth c nL D aC ad A sh Q cells slots z (pc + 3) L st) : JW p l e R s m args below meth c nL D aC ad A sh Q cells slots z pc L (vi y :: vi x :: st) :=
  fun H locs ls hP hS hl => lv_icmp_ge G.1 G.2.1 hdg ht (fun h => kt ((wi_le hy hx).mp h) H locs ls hP hS hl) (fun h => kf (fun q => h ((wi_le hy hx).mpr q)) H locs ls hP hS hl)
theorem i_icmp_gt (G : wG p s m args meth c cc own nL D aC ad A sh) {x y : Int} {off : Int} {tgt : Nat} (hdg : decode cc pc = .ok (.if_icmp .gt off, 3)) (ht : (pc : Int) + off = (tgt : Int)) (hx : -2147483648 ≤ x ∧ x ≤ 2147483647) (hy : -2147483648 ≤ y ∧ y ≤ 2147483647) (kt : y < x → JW p l e R s m args below meth c nL D aC ad A sh Q cells slots z tgt L st) (kf : ¬ y < x → JW p l e R s m args below meth c nL D aC ad A sh Q cells slots z (pc + 3) L st) : JW p l e R s m args below meth c nL D aC ad A sh Q cells slots z pc L (vi y :: vi x :: st) :=
  fun H locs ls hP hS hl => lv_icmp_gt G.1 G.2.1 hdg ht (fun h => kt ((wi_lt hy hx).mp h) H locs ls hP hS hl) (fun h => kf (fun q => h ((wi_lt hy hx).mpr q)) H locs ls hP hS hl)
theorem i_icmp_le (G : wG p s m args meth c cc own nL D aC ad A sh) {x y : Int} {off : Int} {tgt : Nat} (hdg : decode cc pc = .ok (.if_icmp .le off, 3)) (ht : (pc : Int) + off = (tgt : Int)) (hx : -2147483648 ≤ x ∧ x ≤ 2147483647) (hy : -2147483648 ≤ y ∧ y ≤ 2147483647) (kt : x ≤ y → JW p l e R s m args below meth c nL D aC ad A sh Q cells slots z tgt L st) (kf : ¬ x ≤ y → JW p l e R s m args below meth c nL D aC ad A sh Q cells slots z (pc + 3) L st) : JW p l e R s m args below meth c nL D aC ad A sh Q cells slots z pc L (vi y :: vi x :: st) :=
  fun H locs ls hP hS hl => lv_icmp_le G.1 G.2.1 hdg ht (fun h => kt ((wi_le hx hy).mp h) H locs ls hP hS hl) (fun h => kf (fun q => h ((wi_le hx hy).mpr q)) H locs ls hP hS hl)
theorem i_icmp_eq (G : wG p s m args meth c cc own nL D aC ad A sh) {x y : Int} {off : Int} {tgt : Nat} (hdg : decode cc pc = .ok (.if_icmp .eq off, 3)) (ht : (pc : Int) + off = (tgt : Int)) (hx : -2147483648 ≤ x ∧ x ≤ 2147483647) (hy : -2147483648 ≤ y ∧ y ≤ 2147483647) (kt : x = y → JW p l e R s m args below meth c nL D aC ad A sh Q cells slots z tgt L st) (kf : ¬ (x = y) → JW p l e R s m args below meth c nL D aC ad A sh Q cells slots z (pc + 3) L st) : JW p l e R s m args below meth c nL D aC ad A sh Q cells slots z pc L (vi y :: vi x :: st) :=
  fun H locs ls hP hS hl => lv_icmp_eq G.1 G.2.1 hdg ht (fun h => kt ((wi_eq hx hy).mp h) H locs ls hP hS hl) (fun h => kf (fun q => h ((wi_eq hx hy).mpr q)) H locs ls hP hS hl)
theorem i_icmp_ne (G : wG p s m args meth c cc own nL D aC ad A sh) {x y : Int} {off : Int} {tgt : Nat} (hdg : decode cc pc = .ok (.if_icmp .ne off, 3)) (ht : (pc : Int) + off = (tgt : Int)) (hx : -2147483648 ≤ x ∧ x ≤ 2147483647) (hy : -2147483648 ≤ y ∧ y ≤ 2147483647) (kt : ¬ x = y → JW p l e R s m args below meth c nL D aC ad A sh Q cells slots z tgt L st) (kf : x = y → JW p l e R s m args below meth c nL D aC ad A sh Q cells slots z (pc + 3) L st) : JW p l e R s m args below meth c nL D aC ad A sh Q cells slots z pc L (vi y :: vi x :: st) :=
  fun H locs ls hP hS hl => lv_icmp_ne G.1 G.2.1 hdg ht (fun h => kt (fun q => (show ¬ _ from h) ((wi_eq hx hy).mpr q)) H locs ls hP hS hl) (fun h => kf ((wi_eq hx hy).mp (by first | exact h | exact Classical.not_not.mp h)) H locs ls hP hS hl)
theorem i_if_lt (G : wG p s m args meth c cc own nL D aC ad A sh) {x : Int} {off : Int} {tgt : Nat} (hdg : decode cc pc = .ok (.ifCond .lt off, 3)) (ht : (pc : Int) + off = (tgt : Int)) (hx : -2147483648 ≤ x ∧ x ≤ 2147483647) (kt : x < 0 → JW p l e R s m args below meth c nL D aC ad A sh Q cells slots z tgt L st) (kf : ¬ x < 0 → JW p l e R s m args below meth c nL D aC ad A sh Q cells slots z (pc + 3) L st) : JW p l e R s m args below meth c nL D aC ad A sh Q cells slots z pc L (vi x :: st) := by
  have h0 : -2147483648 ≤ (0 : Int) ∧ (0 : Int) ≤ 2147483647 := by omega
  exact fun H locs ls hP hS hl => lv_if_lt G.1 G.2.1 hdg ht (fun h => kt ((wi_lt hx h0).mp h) H locs ls hP hS hl) (fun h => kf (fun q => h ((wi_lt hx h0).mpr q)) H locs ls hP hS hl)
theorem i_if_ge (G : wG p s m args meth c cc own nL D aC ad A sh) {x : Int} {off : Int} {tgt : Nat} (hdg : decode cc pc = .ok (.ifCond .ge off, 3)) (ht : (pc : Int) + off = (tgt : Int)) (hx : -2147483648 ≤ x ∧ x ≤ 2147483647) (kt : 0 ≤ x → JW p l e R s m args below meth c nL D aC ad A sh Q cells slots z tgt L st) (kf : ¬ 0 ≤ x → JW p l e R s m args below meth c nL D aC ad A sh Q cells slots z (pc + 3) L st) : JW p l e R s m args below meth c nL D aC ad A sh Q cells slots z pc L (vi x :: st) := by
  have h0 : -2147483648 ≤ (0 : Int) ∧ (0 : Int) ≤ 2147483647 := by omega
  exact fun H locs ls hP hS hl => lv_if_ge G.1 G.2.1 hdg ht (fun h => kt ((wi_le h0 hx).mp h) H locs ls hP hS hl) (fun h => kf (fun q => h ((wi_le h0 hx).mpr q)) H locs ls hP hS hl)
theorem i_if_gt (G : wG p s m args meth c cc own nL D aC ad A sh) {x : Int} {off : Int} {tgt : Nat} (hdg : decode cc pc = .ok (.ifCond .gt off, 3)) (ht : (pc : Int) + off = (tgt : Int)) (hx : -2147483648 ≤ x ∧ x ≤ 2147483647) (kt : 0 < x → JW p l e R s m args below meth c nL D aC ad A sh Q cells slots z tgt L st) (kf : ¬ 0 < x → JW p l e R s m args below meth c nL D aC ad A sh Q cells slots z (pc + 3) L st) : JW p l e R s m args below meth c nL D aC ad A sh Q cells slots z pc L (vi x :: st) := by
  have h0 : -2147483648 ≤ (0 : Int) ∧ (0 : Int) ≤ 2147483647 := by omega
  exact fun H locs ls hP hS hl => lv_if_gt G.1 G.2.1 hdg ht (fun h => kt ((wi_lt h0 hx).mp h) H locs ls hP hS hl) (fun h => kf (fun q => h ((wi_lt h0 hx).mpr q)) H locs ls hP hS hl)
theorem i_if_le (G : wG p s m args meth c cc own nL D aC ad A sh) {x : Int} {off : Int} {tgt : Nat} (hdg : decode cc pc = .ok (.ifCond .le off, 3)) (ht : (pc : Int) + off = (tgt : Int)) (hx : -2147483648 ≤ x ∧ x ≤ 2147483647) (kt : x ≤ 0 → JW p l e R s m args below meth c nL D aC ad A sh Q cells slots z tgt L st) (kf : ¬ x ≤ 0 → JW p l e R s m args below meth c nL D aC ad A sh Q cells slots z (pc + 3) L st) : JW p l e R s m args below meth c nL D aC ad A sh Q cells slots z pc L (vi x :: st) := by
  have h0 : -2147483648 ≤ (0 : Int) ∧ (0 : Int) ≤ 2147483647 := by omega
  exact fun H locs ls hP hS hl => lv_if_le G.1 G.2.1 hdg ht (fun h => kt ((wi_le hx h0).mp h) H locs ls hP hS hl) (fun h => kf (fun q => h ((wi_le hx h0).mpr q)) H locs ls hP hS hl)
theorem i_if_eq (G : wG p s m args meth c cc own nL D aC ad A sh) {x : Int} {off : Int} {tgt : Nat} (hdg : decode cc pc = .ok (.ifCond .eq off, 3)) (ht : (pc : Int) + off = (tgt : Int)) (hx : -2147483648 ≤ x ∧ x ≤ 2147483647) (kt : x = 0 → JW p l e R s m args below meth c nL D aC ad A sh Q cells slots z tgt L st) (kf : ¬ (x = 0) → JW p l e R s m args below meth c nL D aC ad A sh Q cells slots z (pc + 3) L st) : JW p l e R s m args below meth c nL D aC ad A sh Q cells slots z pc L (vi x :: st) := by
  have h0 : -2147483648 ≤ (0 : Int) ∧ (0 : Int) ≤ 2147483647 := by omega
  exact fun H locs ls hP hS hl => lv_if_eq G.1 G.2.1 hdg ht (fun h => kt ((wi_eq hx h0).mp h) H locs ls hP hS hl) (fun h => kf (fun q => h ((wi_eq hx h0).mpr q)) H locs ls hP hS hl)
theorem i_if_ne (G : wG p s m args meth c cc own nL D aC ad A sh) {x : Int} {off : Int} {tgt : Nat} (hdg : decode cc pc = .ok (.ifCond .ne off, 3)) (ht : (pc : Int) + off = (tgt : Int)) (hx : -2147483648 ≤ x ∧ x ≤ 2147483647) (kt : ¬ x = 0 → JW p l e R s m args below meth c nL D aC ad A sh Q cells slots z tgt L st) (kf : x = 0 → JW p l e R s m args below meth c nL D aC ad A sh Q cells slots z (pc + 3) L st) : JW p l e R s m args below meth c nL D aC ad A sh Q cells slots z pc L (vi x :: st) := by
  have h0 : -2147483648 ≤ (0 : Int) ∧ (0 : Int) ≤ 2147483647 := by omega
  exact fun H locs ls hP hS hl => lv_if_ne G.1 G.2.1 hdg ht (fun h => kt (fun q => (show ¬ _ from h) ((wi_eq hx h0).mpr q)) H locs ls hP hS hl) (fun h => kf ((wi_eq hx h0).mp (by first | exact h | exact Classical.not_not.mp h)) H locs ls hP hS hl)
/-- a field of an object: its link and its place -/
def wFL (own : String) (idx ci k : Nat) (C : String) (T : u_T) (N : Nat) : Prop := vwCl[ci]? = some (C, T, N) ∧ (∀ w ∈ u_ws C T N, w ∈ wALL) ∧ k < N ∧ Cond.fieldLink own idx C (T k).2.1 (T k).2.2.1 ∈ wALL ∧ (T k).1 = C
def wFP (own : String) (idx ci k : Nat) (C : String) (T : u_T) (N : Nat) (ty0 : Nat → FieldType) : Prop := wFL own idx ci k C T N ∧ (∀ k, k < N → parseFieldDescriptor (T k).2.2.1 = some (ty0 k)) ∧ (∀ a, a < N → ∀ b, b < N → a ≠ b → (T a).2.1 ≠ (T b).2.1) ∧ (T k).2.2.2 = false ∧ parseFieldDescriptor (T k).2.2.1 = some .int
theorem wG.K (G : wG p s m args meth c cc own nL D aC ad A sh) : va_K D vwCl (wty aC) s := G.2.2.2.2.2.1
theorem wG.hown (G : wG p s m args meth c cc own nL D aC ad A sh) : s.vm.findClass own = some m.cls := G.2.2.2.1
theorem wG.ts (G : wG p s m args meth c cc own nL D aC ad A sh) : ∀ w ∈ wALL, w.before args s = true := G.2.2.2.2.1
theorem wG.hD (G : wG p s m args meth c cc own nL D aC ad A sh) (z : wZ) : va_D A (wd aC ad sh z) := wd_D G.2.2.2.2.2.2.1 G.2.2.2.2.2.2.2.1 z
theorem wG.locks (G : wG p s m args meth c cc own nL D aC ad A sh) : meth.locks = false := G.2.2.2.2.2.2.2.2.2.1
theorem wG.hA (G : wG p s m args meth c cc own nL D aC ad A sh) {sz : Nat} (h : s.heap.size ≤ sz) : ∀ q, wAd ad sh sz q → A q := by
  rintro q (⟨c, hc, rfl⟩ | h2)
  · exact G.2.2.2.2.2.2.2.1 c hc
  · exact G.2.2.2.2.2.2.2.2.1 q (Nat.le_trans h h2)
theorem i_getf (G : wG p s m args meth c cc own nL D aC ad A sh) {idx ci k N n : Nat} {C : String} {T : u_T} (F : wFL own idx ci k C T N) (q0 : Nat) {fs : List wF} (he : sh[q0]? = some (n, .inl (ci, fs))) {f : wF} (hf : fs[k]? = some f) (hdg : decode cc pc = .ok (.getfield idx, 3)) (kk : JW p l e R s m args below meth c nL D aC ad A sh Q cells slots z (pc + 3) L (wfv ad z f :: st)) : JW p l e R s m args below meth c nL D aC ad A sh Q cells slots z pc L (.ref (ad n) :: st) :=
  fun H locs ls hP hS hl => va_get (D := D) (ci := ci) (v := wfv ad z f) (C := C) (T := T) (N := N) G.1 G.2.1 G.ts F.2.1 G.hown G.K hP q0 (wd_get he) F.1 k F.2.2.1 (G.ts _ F.2.2.2.1) (fun _ h9 => by rw [F.2.2.2.2] at h9; exact h9) (by simp [List.getElem?_map, hf]) hdg (kk H locs ls hP hS hl)
theorem i_getr (G : wG p s m args meth c cc own nL D aC ad A sh) {idx ci k N n : Nat} {C : String} {T : u_T} (F : wFL own idx ci k C T N) (q0 : Nat) {fs : List wF} (he : sh[q0]? = some (n, .inl (ci, fs))) {f : Nat} (hf : fs[k]? = some (.inl f)) (hdg : decode cc pc = .ok (.getfield idx, 3)) (kk : JW p l e R s m args below meth c nL D aC ad A sh Q cells slots z (pc + 3) L (.ref (ad f) :: st)) : JW p l e R s m args below meth c nL D aC ad A sh Q cells slots z pc L (.ref (ad n) :: st) := i_getf G F q0 he hf hdg kk
theorem i_geti (G : wG p s m args meth c cc own nL D aC ad A sh) {idx ci k N n : Nat} {C : String} {T : u_T} (F : wFL own idx ci k C T N) (q0 : Nat) {fs : List wF} (he : sh[q0]? = some (n, .inl (ci, fs))) {kz : Nat} {az : Int} (hf : fs[k]? = some (.inr (kz, az))) (hdg : decode cc pc = .ok (.getfield idx, 3)) (kk : JW p l e R s m args below meth c nL D aC ad A sh Q cells slots z (pc + 3) L (vi (z kz az) :: st)) : JW p l e R s m args below meth c nL D aC ad A sh Q cells slots z pc L (.ref (ad n) :: st) := i_getf G F q0 he hf hdg kk
theorem wfv_set {fs : List wF} {k kz : Nat} {az x : Int} (hf : fs[k]? = some (.inr (kz, az))) (ho : wOnlyF fs k kz = true) : (fs.map (wfv ad z)).set k (vi x) = fs.map (wfv ad (zp z kz az x)) := by
  refine List.ext_getElem? fun i => ?_
  have hl : k < (fs.map (wfv ad z)).length := by rw [List.length_map]; exact (List.getElem?_eq_some_iff.mp hf).1
  by_cases hi : i = k
  · subst hi
    rw [List.getElem?_set_self hl, List.getElem?_map, hf]
    simp [wfv, zp]
  · rw [List.getElem?_set_ne (Ne.symm hi), List.getElem?_map, List.getElem?_map]
    cases hq : fs[i]? with
    | none => rfl
    | some q =>
      have hm : (q, i) ∈ fs.zipIdx := by rw [List.mem_zipIdx_iff_getElem?]; simpa using hq
      have h1 := List.all_eq_true.mp ho _ hm
      rcases q with n | ⟨k3, b⟩
      · rfl
      · have h3 : (i == k) = false := by simpa using hi
        simp only [h3, Bool.false_or] at h1
        have h4 : k3 ≠ kz := by simpa using h1
        simp only [Option.map_some, wfv]
        rw [zp_nk _ h4]
theorem i_puti (G : wG p s m args meth c cc own nL D aC ad A sh) {idx ci k N n : Nat} {C : String} {T : u_T} {ty0 : Nat → FieldType} (F : wFP own idx ci k C T N ty0) (q0 : Nat) {fs : List wF} (he : sh[q0]? = some (n, .inl (ci, fs))) {kz : Nat} {az x : Int} (hf : fs[k]? = some (.inr (kz, az))) (ho : wOnly sh q0 kz = true) (hoF : wOnlyF fs k kz = true) (hdg : decode cc pc = .ok (.putfield idx, 3)) (kk : JW p l e R s m args below meth c nL D aC ad A sh Q cells slots (zp z kz az x) (pc + 3) L st) : JW p l e R s m args below meth c nL D aC ad A sh Q cells slots z pc L (vi x :: .ref (ad n) :: st) :=
  fun H locs ls hP hS hl => va_put (D := D) (ci := ci) (v := vi x) (ty := .int) (C := C) (T := T) (N := N) G.1 G.2.1 G.ts F.1.2.1 ty0 F.2.1 F.2.2.1 G.hown G.K hP (G.hD z) hS q0 (wd_get he) F.1.1 k F.1.2.2.1 (G.ts _ F.1.2.2.2.1) (fun _ h9 => by rw [F.1.2.2.2.2] at h9; exact h9) F.2.2.2.1 F.2.2.2.2 rfl rfl (by rw [List.length_map]; exact (List.getElem?_eq_some_iff.mp hf).1) hdg
    (fun H1 locs1 hP1 _ hS1 => kk H1 locs1 ls (by rw [← wd_set he ho (e := .inr (ci, (fs.map (wfv ad z)).set k (vi x))) (by rw [wfv_set hf hoF]; rfl)]; exact hP1) hS1 hl)
theorem i_iald (G : wG p s m args meth c cc own nL D aC ad A sh) (q0 : Nat) {n len k : Nat} (he : sh[q0]? = some (n, .inr (0, len, k))) (hn : len < 2147483648) {a : Int} (h0 : 0 ≤ a) (h1 : a < (len : Int)) (hdg : decode cc pc = .ok (.iaload, 1)) (kk : JW p l e R s m args below meth c nL D aC ad A sh Q cells slots z (pc + 1) L (vi (z k a) :: st)) : JW p l e R s m args below meth c nL D aC ad A sh Q cells slots z pc L (vi a :: .ref (ad n) :: st) :=
  fun H locs ls hP hS hl => va_iald G.1 G.2.1 G.K hP q0 0 (wd_get he) rfl (wi_in h0 h1 hn) hdg (by rw [wrow_at h0 (by omega)]; exact kk H locs ls hP hS hl)
theorem i_zald (G : wG p s m args meth c cc own nL D aC ad A sh) (q0 : Nat) {n len k : Nat} (he : sh[q0]? = some (n, .inr (1, len, k))) (hn : len < 2147483648) {a : Int} (h0 : 0 ≤ a) (h1 : a < (len : Int)) (hdg : decode cc pc = .ok (.baload, 1)) (kk : JW p l e R s m args below meth c nL D aC ad A sh Q cells slots z (pc + 1) L (vi (z k a) :: st)) : JW p l e R s m args below meth c nL D aC ad A sh Q cells slots z pc L (vi a :: .ref (ad n) :: st) :=
  fun H locs ls hP hS hl => va_zald G.1 G.2.1 G.K hP q0 1 (wd_get he) rfl (wi_in h0 h1 hn) hdg (by rw [wrow_at h0 (by omega)]; exact kk H locs ls hP hS hl)
theorem i_cald (G : wG p s m args meth c cc own nL D aC ad A sh) (q0 : Nat) {n len k : Nat} (he : sh[q0]? = some (n, .inr (2, len, k))) (hn : len < 2147483648) {a : Int} (h0 : 0 ≤ a) (h1 : a < (len : Int)) (hdg : decode cc pc = .ok (.caload, 1)) (kk : JW p l e R s m args below meth c nL D aC ad A sh Q cells slots z (pc + 1) L (vi (z k a) :: st)) : JW p l e R s m args below meth c nL D aC ad A sh Q cells slots z pc L (vi a :: .ref (ad n) :: st) :=
  fun H locs ls hP hS hl => va_cald G.1 G.2.1 G.K hP q0 2 (wd_get he) rfl (wi_in h0 h1 hn) hdg (by rw [wrow_at h0 (by omega)]; exact kk H locs ls hP hS hl)
theorem wi_nz {x : Int} (h : x = 0 ∨ x = 1) : narrow .boolean (vi x) = vi x := by rcases h with rfl | rfl <;> rfl
theorem wi_nc {x : Int} (h : 0 ≤ x ∧ x < 65536) : narrow .char (vi x) = vi x := by
  obtain ⟨n, rfl⟩ := Int.eq_ofNat_of_zero_le h.1
  have := (pk_charN (q := n) (by omega)).1
  show narrow .char (.int (Int32.ofInt (n : Int))) = .int (Int32.ofInt (n : Int))
  rw [Int32.ofInt_eq_ofNat]
  exact this
theorem wi_np {ty : FieldType} {x : Int} (h : narrow ty (vi x) = vi x) : vp_nar ty (Int32.ofInt x) = Int32.ofInt x := by
  unfold vp_nar
  rw [show narrow ty (.int (Int32.ofInt x)) = .int (Int32.ofInt x) from h]
theorem i_iast (G : wG p s m args meth c cc own nL D aC ad A sh) (q0 : Nat) {n len k : Nat} (he : sh[q0]? = some (n, .inr (0, len, k))) (hn : len < 2147483648) {a x : Int} (h0 : 0 ≤ a) (h1 : a < (len : Int)) (ho : wOnly sh q0 k = true) (hdg : decode cc pc = .ok (.iastore, 1)) (kk : JW p l e R s m args below meth c nL D aC ad A sh Q cells slots (zp z k a x) (pc + 1) L st) : JW p l e R s m args below meth c nL D aC ad A sh Q cells slots z pc L (vi x :: vi a :: .ref (ad n) :: st) :=
  fun H locs ls hP hS hl => va_iast G.1 G.2.1 G.K hP (G.hD z) hS q0 0 (wd_get he) rfl (wi_in h0 h1 hn) hdg
    (fun H1 locs1 hP1 _ hS1 => kk H1 locs1 ls (by rw [← wd_set he ho (e := .inl (aC 0, len, .inl (upd (wrow z k) (Int32.ofInt a).toNatClampNeg (Int32.ofInt x)))) (by rw [wrow_up h0 (by omega)]; rfl)]; exact hP1) hS1 hl)
theorem i_zast (G : wG p s m args meth c cc own nL D aC ad A sh) (q0 : Nat) {n len k : Nat} (he : sh[q0]? = some (n, .inr (1, len, k))) (hn : len < 2147483648) {a x : Int} (h0 : 0 ≤ a) (h1 : a < (len : Int)) (hx : x = 0 ∨ x = 1) (ho : wOnly sh q0 k = true) (hdg : decode cc pc = .ok (.bastore, 1)) (kk : JW p l e R s m args below meth c nL D aC ad A sh Q cells slots (zp z k a x) (pc + 1) L st) : JW p l e R s m args below meth c nL D aC ad A sh Q cells slots z pc L (vi x :: vi a :: .ref (ad n) :: st) :=
  fun H locs ls hP hS hl => va_zast G.1 G.2.1 G.K hP (G.hD z) hS q0 1 (wd_get he) rfl (wi_in h0 h1 hn) hdg
    (fun H1 locs1 hP1 _ hS1 => kk H1 locs1 ls (by rw [← wd_set he ho (e := .inl (aC 1, len, .inl (upd (wrow z k) (Int32.ofInt a).toNatClampNeg (Int32.ofInt x)))) (by rw [wrow_up h0 (by omega)]; rfl)]; rw [wi_np (wi_nz hx)] at hP1; exact hP1) hS1 hl)
theorem i_cast (G : wG p s m args meth c cc own nL D aC ad A sh) (q0 : Nat) {n len k : Nat} (he : sh[q0]? = some (n, .inr (2, len, k))) (hn : len < 2147483648) {a x : Int} (h0 : 0 ≤ a) (h1 : a < (len : Int)) (hx : 0 ≤ x ∧ x < 65536) (ho : wOnly sh q0 k = true) (hdg : decode cc pc = .ok (.castore, 1)) (kk : JW p l e R s m args below meth c nL D aC ad A sh Q cells slots (zp z k a x) (pc + 1) L st) : JW p l e R s m args below meth c nL D aC ad A sh Q cells slots z pc L (vi x :: vi a :: .ref (ad n) :: st) :=
  fun H locs ls hP hS hl => va_cast G.1 G.2.1 G.K hP (G.hD z) hS q0 2 (wd_get he) rfl (wi_in h0 h1 hn) hdg
    (fun H1 locs1 hP1 _ hS1 => kk H1 locs1 ls (by rw [← wd_set he ho (e := .inl (aC 2, len, .inl (upd (wrow z k) (Int32.ofInt a).toNatClampNeg (Int32.ofInt x)))) (by rw [wrow_up h0 (by omega)]; rfl)]; rw [wi_np (wi_nc hx)] at hP1; exact hP1) hS1 hl)
/-- Math.min, Math.max -/
theorem i_min (G : wG p s m args meth c cc own nL D aC ad A sh) {idx : Nat} (hl : Cond.methodLink own idx Lib.Math.min.name ∈ wALL ∧ Cond.static Lib.Math.min.name ∈ wALL ∧ Cond.initialized "java/lang/Math" ∈ wALL ∧ Cond.code Lib.Math.min.name Lib.Math.min.code 2 (some .int) ∈ wALL) (hr : 1 ≤ R.frames ∧ (st.map fun v => v.category).sum + 13 ≤ R.locals ∧ cells ≤ R.cells ∧ slots ≤ R.slots) {x y : Int} (hx : -2147483648 ≤ x ∧ x ≤ 2147483647) (hy : -2147483648 ≤ y ∧ y ≤ 2147483647) (hdg : decode cc pc = .ok (.invokestatic idx, 3)) (kk : JW p l e R s m args below meth c nL D aC ad A sh Q cells slots z (pc + 3) L (vi (if y < x then y else x) :: st)) : JW p l e R s m args below meth c nL D aC ad A sh Q cells slots z pc L (vi y :: vi x :: st) :=
  fun H locs ls hP hS hl1 => va_mmin G.1 G.2.1 (by rw [G.2.2.1, hl1.1]) G.hown (G.ts _ hl.1) (G.ts _ hl.2.1) (G.ts _ hl.2.2.1) (G.ts _ hl.2.2.2) hr.1 hr.2.1 hr.2.2.1 hr.2.2.2 hdg (by
    have h : (if Int32.ofInt y < Int32.ofInt x then Int32.ofInt y else Int32.ofInt x) = Int32.ofInt (if y < x then y else x) := by
      by_cases q : y < x
      · rw [if_pos q, if_pos ((wi_lt hy hx).mpr q)]
      · rw [if_neg q, if_neg (fun h => q ((wi_lt hy hx).mp h))]
    rw [h]; exact kk H locs ls hP hS hl1)
theorem i_max (G : wG p s m args meth c cc own nL D aC ad A sh) {idx : Nat} (hl : Cond.methodLink own idx Lib.Math.max.name ∈ wALL ∧ Cond.static Lib.Math.max.name ∈ wALL ∧ Cond.initialized "java/lang/Math" ∈ wALL ∧ Cond.code Lib.Math.max.name Lib.Math.max.code 2 (some .int) ∈ wALL) (hr : 1 ≤ R.frames ∧ (st.map fun v => v.category).sum + 13 ≤ R.locals ∧ cells ≤ R.cells ∧ slots ≤ R.slots) {x y : Int} (hx : -2147483648 ≤ x ∧ x ≤ 2147483647) (hy : -2147483648 ≤ y ∧ y ≤ 2147483647) (hdg : decode cc pc = .ok (.invokestatic idx, 3)) (kk : JW p l e R s m args below meth c nL D aC ad A sh Q cells slots z (pc + 3) L (vi (if x < y then y else x) :: st)) : JW p l e R s m args below meth c nL D aC ad A sh Q cells slots z pc L (vi y :: vi x :: st) :=
  fun H locs ls hP hS hl1 => va_mmax G.1 G.2.1 (by rw [G.2.2.1, hl1.1]) G.hown (G.ts _ hl.1) (G.ts _ hl.2.1) (G.ts _ hl.2.2.1) (G.ts _ hl.2.2.2) hr.1 hr.2.1 hr.2.2.1 hr.2.2.2 hdg (by
    have h : (if Int32.ofInt x < Int32.ofInt y then Int32.ofInt y else Int32.ofInt x) = Int32.ofInt (if x < y then y else x) := by
      by_cases q : x < y
      · rw [if_pos q, if_pos ((wi_lt hx hy).mpr q)]
      · rw [if_neg q, if_neg (fun h => q ((wi_lt hx hy).mp h))]
    rw [h]; exact kk H locs ls hP hS hl1)
/-! contracts -/
def wB (D : va_G) (aC : Nat → ClassId) (ad : Nat → Nat) (sh : wSh) (u : wZ) (t : State) : Prop := va_P D vwCl (wd aC ad sh u) t.heap ∧ va_K D vwCl (wty aC) t
def wPc (D : va_G) (aC : Nat → ClassId) (ad : Nat → Nat) (sh : wSh) (av : List Value) (z : wZ) (sz : Nat) : Array Value → State → Prop := va_Pc av (fun U => U.heap.size = sz ∧ wB D aC ad sh z U)
def wQi (D : va_G) (aC : Nat → ClassId) (ad : Nat → Nat) (sh : wSh) (post : Int → wZ → Prop) (A : Nat → Prop) : Array Value → State → Outcome → State → Prop := va_Qi (fun r u => ∃ i, r = Int32.ofInt i ∧ post i u) (wB D aC ad sh) A
def wQv (D : va_G) (aC : Nat → ClassId) (ad : Nat → Nat) (sh : wSh) (post : wZ → Prop) (A : Nat → Prop) : Array Value → State → Outcome → State → Prop := va_Qv post (wB D aC ad sh) A
def wMi (l : Launch) (D : va_G) (aC : Nat → ClassId) (ad : Nat → Nat) (sh : wSh) (y : MethodName) (b : ByteArray) (n : Nat) (ret : FieldType) (rm : Room) (av : List Value) (z : wZ) (post : Int → wZ → Prop) : Prop :=
  ∀ sz, Met l y (.code y b n (some ret) :: wALL) rm (wPc D aC ad sh av z sz) (wQi D aC ad sh post (wAd ad sh sz)) 0 0 (wAd ad sh sz)
def wMv (l : Launch) (D : va_G) (aC : Nat → ClassId) (ad : Nat → Nat) (sh : wSh) (y : MethodName) (b : ByteArray) (n : Nat) (rm : Room) (av : List Value) (z : wZ) (post : wZ → Prop) : Prop :=
  ∀ sz, Met l y (.code y b n none :: wALL) rm (wPc D aC ad sh av z sz) (wQv D aC ad sh post (wAd ad sh sz)) 0 0 (wAd ad sh sz)
theorem wB.moved {u U : State} (hh : U.heap = u.heap) (hvm : u.vm.Alike U.vm) (h : wB D aC ad sh z u) : wB D aC ad sh z U := ⟨by rw [hh]; exact h.1, va_K.moved hvm h.2⟩
theorem wPc_blind {av : List Value} {sz : Nat} : FrameBlind (wPc D aC ad sh av z sz) := fun a U g mk q => by
  obtain ⟨q0, q1, q2⟩ := q
  exact ⟨q0, q1, q2.moved (U := U.calling g mk a) rfl (Vm.Alike.refl U.vm)⟩
theorem lg_sl_1 : ∀ (vs : List Value), (∀ v, v ∈ vs → v.category = 1) → lg_sl vs = vs.map Slot.val
  | [], _ => rfl
  | v :: vs, h => by
    have h1 := lg_sl_1 vs (fun w hw => h w (List.mem_cons_of_mem _ hw))
    have h2 := h v List.mem_cons_self
    simp only [lg_sl, List.flatMap_cons, List.map_cons] at h1 ⊢
    rw [h1, if_neg (by omega)]
    rfl
theorem lvh_entry {vs : List Value} {n : Nat} (hc : ∀ v, v ∈ vs → v.category = 1) (hn : vs.length ≤ n) : lvh ((lg_sl vs ++ List.replicate (n - (lg_sl vs).length) Slot.unset).toArray) n (vs.map some ++ List.replicate (n - vs.length) none) := by
  have h0 := lg_sl_1 vs hc
  have hlen : (lg_sl vs).length = vs.length := by rw [h0, List.length_map]
  have h1 := lv_entry vs (n := n) (by rw [hlen]; exact hn)
  refine ⟨h1.1, h1.2.1, by simp; omega, fun i v hi => ?_⟩
  have hlt : i < vs.length := by
    rcases Nat.lt_or_ge i vs.length with h | h
    · exact h
    · rw [List.getElem?_append_right (by simpa using h), List.getElem?_replicate] at hi
      split at hi <;> cases hi
  rw [List.getElem?_append_left (by simpa using hlt), List.getElem?_map] at hi
  have hv : vs[i]? = some v := by
    cases hq : vs[i]? with
    | none => rw [hq] at hi; cases hi
    | some w => rw [hq] at hi; simp only [Option.map_some, Option.some.injEq] at hi; rw [hi]
  refine ⟨?_, hc v (List.mem_of_getElem? hv)⟩
  rw [List.getElem?_toArray, List.getElem?_append_left (by rw [hlen]; exact hlt), h0, List.getElem?_map, hv]
  rfl
theorem w_table {x : MethodName} {S : Spec} {ws' : List Cond} {rm : Room} {n : Nat} {b : ByteArray} {ret : Option FieldType} {s₁ : State} (B : BodyLoose p l x (headSpec (Cond.code x b n ret :: ws') rm) b n ret e s m args below meth c s₁) : ∀ x ∈ c.exceptionTable.toList, False := by
  obtain ⟨meth9, c9, h1, h2, -, -, -, -, h7, -⟩ := Cond.code_spec B.named (atoms_spec (ws := Cond.code x b n ret :: ws') B.pre _ List.mem_cons_self)
  cases Option.some.inj (h1.symm.trans B.method)
  cases Option.some.inj (h2.symm.trans (Stand.of_body B).code)
  intro x hx
  rw [Array.isEmpty_iff.mp h7] at hx
  cases hx
theorem wMi_of {y : MethodName} {n : Nat} {b : ByteArray} {ret : FieldType} {rm : Room} {av : List Value} {post : Int → wZ → Prop} (L0 : List (Option Value)) (hy : plainName y.cls = true) (hcat : ∀ v, v ∈ av → v.category = 1) (hn : av.length ≤ n) (hL0 : av.map some ++ List.replicate (n - av.length) none = L0) (hd : wDi ad sh)
    (body : ∀ (p : Program) (e : Env) (s : State) (m : MethodId) (args : Array Value) (below : List Frame) (meth : Method) (c : Code) (A : Nat → Prop), wG p s m args meth c b y.cls n D aC ad A sh → meth.sig.returnType = some ret → JW p l e rm s m args below meth c n D aC ad A sh (MQ below (wQi D aC ad sh post A) args s 0 0 A) 0 0 z 0 L0 []) : wMi l D aC ad sh y b n ret rm av z post := by
  intro sz
  refine Met.ofW (cc := b) (maxL := n) (ret := some ret) hy rfl ?_
  intro p e s m args below meth c s₁ B hml hv
  have hex := w_table (S := headSpec (Cond.code y b n (some ret) :: wALL) rm) B
  obtain ⟨rfl, rfl, hP, hK⟩ := hv
  have hts := atoms_spec (ws := Cond.code y b n (some ret) :: wALL) B.pre
  have G : wG p s m av.toArray meth c b y.cls n D aC ad (wAd ad sh s.heap.size) sh := ⟨B.exec, B.bytes, hml, findClass_of_methodNamed B.named, fun w h => hts w (List.mem_cons_of_mem _ h), hK, hd, fun q hq => Or.inl ⟨q, hq, rfl⟩, fun q h => Or.inr h, B.notSynchronized, hex⟩
  have k := body p e s m _ below meth c _ G B.returns s.heap [] _ hP va_S.rf (hL0 ▸ lvh_entry hcat hn)
  rw [lg_entry_eq]
  exact k
theorem wMv_of {y : MethodName} {n : Nat} {b : ByteArray} {rm : Room} {av : List Value} {post : wZ → Prop} (L0 : List (Option Value)) (hy : plainName y.cls = true) (hcat : ∀ v, v ∈ av → v.category = 1) (hn : av.length ≤ n) (hL0 : av.map some ++ List.replicate (n - av.length) none = L0) (hd : wDi ad sh)
    (body : ∀ (p : Program) (e : Env) (s : State) (m : MethodId) (args : Array Value) (below : List Frame) (meth : Method) (c : Code) (A : Nat → Prop), wG p s m args meth c b y.cls n D aC ad A sh → meth.sig.returnType = none → JW p l e rm s m args below meth c n D aC ad A sh (MQ below (wQv D aC ad sh post A) args s 0 0 A) 0 0 z 0 L0 []) : wMv l D aC ad sh y b n rm av z post := by
  intro sz
  refine Met.ofW (cc := b) (maxL := n) (ret := none) hy rfl ?_
  intro p e s m args below meth c s₁ B hml hv
  have hex := w_table (S := headSpec (Cond.code y b n none :: wALL) rm) B
  obtain ⟨rfl, rfl, hP, hK⟩ := hv
  have hts := atoms_spec (ws := Cond.code y b n none :: wALL) B.pre
  have G : wG p s m av.toArray meth c b y.cls n D aC ad (wAd ad sh s.heap.size) sh := ⟨B.exec, B.bytes, hml, findClass_of_methodNamed B.named, fun w h => hts w (List.mem_cons_of_mem _ h), hK, hd, fun q hq => Or.inl ⟨q, hq, rfl⟩, fun q h => Or.inr h, B.notSynchronized, hex⟩
  have k := body p e s m _ below meth c _ G B.returns s.heap [] _ hP va_S.rf (hL0 ▸ lvh_entry hcat hn)
  rw [lg_entry_eq]
  exact k
theorem i_reti (G : wG p s m args meth c cc own nL D aC ad A sh) {post : Int → wZ → Prop} {x : Int} (hr : meth.sig.returnType = some .int) (hdg : decode cc pc = .ok (.ireturn, 1)) (hp : post x z) : JW p l e R s m args below meth c nL D aC ad A sh (MQ below (wQi D aC ad sh post A) args s cells slots A) cells slots z pc L [vi x] :=
  fun H locs ls hP hS hl => W.iret (v := Int32.ofInt x) G.1 G.2.1 hr (fun t ht hW => ⟨⟨_, z, rfl, ⟨x, rfl, hp⟩, by rw [ht]; exact hP, va_K.moved hW.alike G.K⟩, hS.F ht⟩) hS.2.2 hdg G.locks
theorem i_retz (G : wG p s m args meth c cc own nL D aC ad A sh) {post : Int → wZ → Prop} {x : Int} (hr : meth.sig.returnType = some .boolean) (hx : x = 0 ∨ x = 1) (hdg : decode cc pc = .ok (.ireturn, 1)) (hp : post x z) : JW p l e R s m args below meth c nL D aC ad A sh (MQ below (wQi D aC ad sh post A) args s cells slots A) cells slots z pc L [vi x] :=
  fun H locs ls hP hS hl => W.zret (v := Int32.ofInt x) G.1 G.2.1 hr (wi_nz hx) (fun t ht hW => ⟨⟨_, z, rfl, ⟨x, rfl, hp⟩, by rw [ht]; exact hP, va_K.moved hW.alike G.K⟩, hS.F ht⟩) hS.2.2 hdg G.locks
theorem i_retc (G : wG p s m args meth c cc own nL D aC ad A sh) {post : Int → wZ → Prop} {x : Int} (hr : meth.sig.returnType = some .char) (hx : 0 ≤ x ∧ x < 65536) (hdg : decode cc pc = .ok (.ireturn, 1)) (hp : post x z) : JW p l e R s m args below meth c nL D aC ad A sh (MQ below (wQi D aC ad sh post A) args s cells slots A) cells slots z pc L [vi x] :=
  fun H locs ls hP hS hl => W.zret (v := Int32.ofInt x) G.1 G.2.1 hr (wi_nc hx) (fun t ht hW => ⟨⟨_, z, rfl, ⟨x, rfl, hp⟩, by rw [ht]; exact hP, va_K.moved hW.alike G.K⟩, hS.F ht⟩) hS.2.2 hdg G.locks
theorem i_retv (G : wG p s m args meth c cc own nL D aC ad A sh) {post : wZ → Prop} (hr : meth.sig.returnType = none) (hdg : decode cc pc = .ok (.return_, 1)) (hp : post z) : JW p l e R s m args below meth c nL D aC ad A sh (MQ below (wQv D aC ad sh post A) args s cells slots A) cells slots z pc L [] :=
  fun H locs ls hP hS hl => W.vret G.1 G.2.1 hr (fun t ht hW => ⟨⟨z, rfl, hp, by rw [ht]; exact hP, va_K.moved hW.alike G.K⟩, hS.F ht⟩) hS.2.2 hdg G.locks
/-- the words of a call -/
def wCV (own : String) (idx : Nat) (C : String) (y : MethodName) (b : ByteArray) (n : Nat) (ret : Option FieldType) (k : Nat) : Prop := (Cond.methodLink own idx y ∈ wALL ∧ Cond.instanceMethod y ∈ wALL ∧ Cond.selects C y y ∈ wALL ∧ Cond.initialized C ∈ wALL ∧ Cond.code y b n ret ∈ wALL) ∧ y.cls = C ∧ y.cls ≠ "java/lang/invoke/MethodHandle" ∧ y.cls ≠ "java/lang/invoke/VarHandle" ∧ (parseMethodDescriptor y.desc).map (fun d => d.parameters.length) = some k
def wCS (own : String) (idx : Nat) (y : MethodName) (b : ByteArray) (n : Nat) (ret : Option FieldType) (k : Nat) : Prop := (Cond.methodLink own idx y ∈ wALL ∧ Cond.static y ∈ wALL ∧ Cond.initialized own ∈ wALL ∧ Cond.code y b n ret ∈ wALL) ∧ y.cls = own ∧ y.cls ≠ "java/lang/invoke/MethodHandle" ∧ y.cls ≠ "java/lang/invoke/VarHandle" ∧ (parseMethodDescriptor y.desc).map (fun d => d.parameters.length) = some k
theorem w_good {w : Cond} (h : w ∈ wALL) : w ∈ wALL ∧ ((w.onTables && w.keeps) = true ∨ ∃ ty, w = .arrayClass ty) := ⟨h, good_of_word (wALL_good h)⟩
theorem wCV.good {idx k : Nat} {C : String} {y : MethodName} {b : ByteArray} {n : Nat} {ret : Option FieldType} (h : wCV own idx C y b n ret k) : GoodIn wALL (wsV own idx C y (Cond.code y b n ret :: wALL)) := by
  intro w hw
  simp only [wsV, List.cons_append, List.nil_append, List.mem_cons] at hw
  rcases hw with rfl | rfl | rfl | rfl | rfl | hw
  · exact w_good h.1.1
  · exact w_good h.1.2.1
  · exact w_good h.1.2.2.1
  · exact w_good h.1.2.2.2.1
  · exact w_good h.1.2.2.2.2
  · exact w_good hw
theorem wCS.good {idx k : Nat} {y : MethodName} {b : ByteArray} {n : Nat} {ret : Option FieldType} (h : wCS own idx y b n ret k) : GoodIn wALL (wsS own idx y (Cond.code y b n ret :: wALL)) := by
  intro w hw
  simp only [wsS, List.cons_append, List.nil_append, List.mem_cons] at hw
  rcases hw with rfl | rfl | rfl | rfl | hw
  · exact w_good h.1.1
  · exact w_good h.1.2.1
  · exact w_good h.1.2.2.1
  · exact w_good h.1.2.2.2
  · exact w_good hw
def wRm (rm R : Room) (n : Nat) : Prop := rm.cells = 0 ∧ rm.slots = 0 ∧ rm.frames + 1 ≤ R.frames ∧ 8 + (n + 11) + rm.locals ≤ R.locals
theorem i_calli (G : wG p s m args meth c cc own nL D aC ad A sh) {y : MethodName} {b : ByteArray} {n : Nat} {ret : FieldType} {rm : Room} {post : Int → wZ → Prop} {idx nb ci N q0 : Nat} {C : String} {T : u_T} {fs : List wF} {As : List Value} {st0 : List Value} (K : wCV own idx C y b n (some ret) As.length) (hM : wMi l D aC ad sh y b n ret rm (.ref (ad nb) :: As) z post) (hst : st0 = As.reverse ++ .ref (ad nb) :: st) (he : sh[q0]? = some (nb, .inl (ci, fs))) (hc : vwCl[ci]? = some (C, T, N)) (hr : wRm rm R n) (hcs : cells ≤ R.cells ∧ slots ≤ R.slots) (hcat : (st.map fun v => v.category).sum ≤ 8) (hdg : decode cc pc = .ok (.invokevirtual idx, 3))
    (kk : ∀ (r : Int) (z' : wZ), post r z' → JW p l e R s m args below meth c nL D aC ad A sh Q cells slots z' (pc + 3) L (vi r :: st)) : JW p l e R s m args below meth c nL D aC ad A sh Q cells slots z pc L st0 :=
  fun H locs ls hP hS hl => by
    subst hst
    have hA := G.hA hS.1
    exact va_calli (va_runV (As := As) (rest := st) ⟨G.1, G.2.1, G.2.2.1, G.hown, G.ts⟩ (hM H.size) (cwV As.length G.ts K.good rfl hr.1 hr.2.1 K.2 ⟨hr.2.2.1, hr.2.2.2⟩)
      ⟨wPc_blind, va_recv G.K hP (ci := ci) (q0 := q0) hc (wd_get he), fun U hU hW => ⟨rfl, by rw [hU], by rw [hU]; exact hP, va_K.moved hW.alike G.K⟩⟩ rfl rfl hl.1 rfl (lv_room hcat) hdg hcs) hS (fun q _ h => hA q h) hA
      (fun r u t H1 locs1 ht hvm hw hB hz1 hk1 hS1 => by
        obtain ⟨i, rfl, hi⟩ := hw
        exact kk i u hi H1 locs1 ls (ht ▸ hB.1) hS1 hl)
theorem i_callv (G : wG p s m args meth c cc own nL D aC ad A sh) {y : MethodName} {b : ByteArray} {n : Nat} {rm : Room} {post : wZ → Prop} {idx nb ci N q0 : Nat} {C : String} {T : u_T} {fs : List wF} {As : List Value} {st0 : List Value} (K : wCV own idx C y b n none As.length) (hM : wMv l D aC ad sh y b n rm (.ref (ad nb) :: As) z post) (hst : st0 = As.reverse ++ .ref (ad nb) :: st) (he : sh[q0]? = some (nb, .inl (ci, fs))) (hc : vwCl[ci]? = some (C, T, N)) (hr : wRm rm R n) (hcs : cells ≤ R.cells ∧ slots ≤ R.slots) (hcat : (st.map fun v => v.category).sum ≤ 8) (hdg : decode cc pc = .ok (.invokevirtual idx, 3))
    (kk : ∀ (z' : wZ), post z' → JW p l e R s m args below meth c nL D aC ad A sh Q cells slots z' (pc + 3) L st) : JW p l e R s m args below meth c nL D aC ad A sh Q cells slots z pc L st0 :=
  fun H locs ls hP hS hl => by
    subst hst
    have hA := G.hA hS.1
    exact va_callv (va_runV (As := As) (rest := st) ⟨G.1, G.2.1, G.2.2.1, G.hown, G.ts⟩ (hM H.size) (cwV As.length G.ts K.good rfl hr.1 hr.2.1 K.2 ⟨hr.2.2.1, hr.2.2.2⟩)
      ⟨wPc_blind, va_recv G.K hP (ci := ci) (q0 := q0) hc (wd_get he), fun U hU hW => ⟨rfl, by rw [hU], by rw [hU]; exact hP, va_K.moved hW.alike G.K⟩⟩ rfl rfl hl.1 rfl (lv_room hcat) hdg hcs) hS (fun q _ h => hA q h) hA
      (fun u t H1 locs1 ht hvm hw hB hz1 hk1 hS1 => kk u hw H1 locs1 ls (ht ▸ hB.1) hS1 hl)
theorem i_callsi (G : wG p s m args meth c cc own nL D aC ad A sh) {y : MethodName} {b : ByteArray} {n : Nat} {ret : FieldType} {rm : Room} {post : Int → wZ → Prop} {idx : Nat} {As : List Value} {st0 : List Value} (K : wCS own idx y b n (some ret) As.length) (hM : wMi l D aC ad sh y b n ret rm As z post) (hst : st0 = As.reverse ++ st) (hr : wRm rm R n) (hcs : cells ≤ R.cells ∧ slots ≤ R.slots) (hcat : (st.map fun v => v.category).sum ≤ 8) (hdg : decode cc pc = .ok (.invokestatic idx, 3))
    (kk : ∀ (r : Int) (z' : wZ), post r z' → JW p l e R s m args below meth c nL D aC ad A sh Q cells slots z' (pc + 3) L (vi r :: st)) : JW p l e R s m args below meth c nL D aC ad A sh Q cells slots z pc L st0 :=
  fun H locs ls hP hS hl => by
    subst hst
    have hA := G.hA hS.1
    exact va_calli (va_runS (As := As) (rest := st) ⟨G.1, G.2.1, G.2.2.1, G.hown, G.ts⟩ (hM H.size) (cwS As.length G.ts K.good rfl hr.1 hr.2.1 K.2 ⟨hr.2.2.1, hr.2.2.2⟩)
      ⟨wPc_blind, fun U hU hW => ⟨rfl, by rw [hU], by rw [hU]; exact hP, va_K.moved hW.alike G.K⟩⟩ rfl rfl hl.1 rfl (lv_room hcat) hdg hcs) hS (fun q _ h => hA q h) hA
      (fun r u t H1 locs1 ht hvm hw hB hz1 hk1 hS1 => by
        obtain ⟨i, rfl, hi⟩ := hw
        exact kk i u hi H1 locs1 ls (ht ▸ hB.1) hS1 hl)
end WJ
