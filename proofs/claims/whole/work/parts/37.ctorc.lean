section BORNC
variable {p : Program} {l : Launch} {e : Env} {R : Room} {s : State} {m : MethodId} {args : Array Value} {below : List Frame} {meth : Method} {c : Code} {cc : ByteArray} {own : String} {nL : Nat} {D : va_G} {aC : Nat → ClassId} {ad : Nat → Nat} {A : Nat → Prop} {Q : State → Prop} {cells slots : Nat} {ws : va_W} {pc : Nat} {L : List (Option Value)} {st : List Value} {mc ms : Nat}
/-- the newest cell is given to its constructor -/
theorem l_ctorR (G : wG p s m args meth c cc own nL D aC (fun _ => 0) A []) {q ci nb m1 s1 : Nat} {fs : List Value} {sh : wSh} {PZ : wZ → Prop} {ws0 : va_W}
    (hrun : ∀ (H : Heap) (locs : List Loc) (ls : Array Slot), va_P D vwCl [(q, .inr (ci, fs))] H → q < H.size → ls.size = nL → va_Run p l e R s m args below meth c H locs cells slots m1 s1 (F0 m pc ls (.ref q :: st)) st (kQ2 D aC nb q sh PZ (kA q H.size) [Value.ref q].toArray) (kA q H.size))
    (kk : ∀ (a' : Nat → Nat) (z' : wZ), a' nb = q → PZ z' → JL p l e R s m args below meth c nL D A Q (cells + m1) (slots + s1) (ws0 ++ wd aC a' sh z') (pc + 3) L st) : JL p l e R s m args below meth c nL D A Q cells slots (ws0 ++ [(q, .inr (ci, fs))]) pc L (.ref q :: st) := by
  intro H locs ls hP hD hS hl
  have hlast : (ws0 ++ [(q, (.inr (ci, fs) : va_E))])[ws0.length]? = some (q, .inr (ci, fs)) := by simp
  have hq : va_P D vwCl [(q, .inr (ci, fs))] H := fun k x hx => by
    have h1 := (List.getElem?_eq_some_iff.mp hx).1
    have : k = 0 := by simp at h1; exact h1
    subst this
    cases hx
    exact hP _ _ hlast
  have hlt : q < H.size := (hP _ _ hlast).lt
  have hAq : A q := hD.2 _ _ hlast
  have h0 : ∀ (k : Nat) (x : Nat × va_E), ws0[k]? = some x → (ws0 ++ [(q, (.inr (ci, fs) : va_E))])[k]? = some x := fun k x hx => by
    rw [List.getElem?_append_left (List.getElem?_eq_some_iff.mp hx).1]; exact hx
  have hne : ∀ (k : Nat) (x : Nat × va_E), ws0[k]? = some x → x.1 ≠ q := fun k x hx he => by
    have h2 := hD.1 k ws0.length x _ (h0 k x hx) hlast he
    have h3 := (List.getElem?_eq_some_iff.mp hx).1
    omega
  have hfr : ∀ x, kA q H.size x → A x := fun x hx => by
    rcases hx with rfl | hx
    · exact hAq
    · exact G.2.2.2.2.2.2.2.2.1 x (Nat.le_trans hS.1 hx)
  refine va_callv (A1 := kA q H.size) (hrun H locs ls hq hlt hl.1) hS (fun x _ hx => hfr x hx) hfr ?_
  intro u t H1 locs1 ht hal hpost hB hz hk hS1
  obtain ⟨h2, h3, h4, h5⟩ := hpost
  refine kk u.1 u.2 h2 h5 H1 locs1 ls ?_ ?_ hS1 hl
  · refine va_P.app (va_P.kept (fun k x hx => hP k x (h0 k x hx)) (fun k x hx => hk x.1 (hP k x (h0 k x hx)).lt (fun hx2 => ?_))) ?_
    · rcases hx2 with h | h
      · exact hne k x hx h
      · exact Nat.not_lt.mpr h (hP k x (h0 k x hx)).lt
    · rw [← ht]; exact hB.1
  · refine va_D.app ⟨fun i j a b hi hj he => hD.1 i j a b (h0 i a hi) (h0 j b hj) he, fun k x hx => hD.2 k x (h0 k x hx)⟩ (wd_D h3 (fun x hx => hfr _ (h4 x hx)) u.2) ?_
    intro i j a b hi hj he
    obtain ⟨cb, hcb, rfl⟩ := wd_inv hj
    have hb := h4 cb (List.mem_of_getElem? hcb)
    have hla := (hP i a (h0 i a hi)).lt
    rcases hb with h | h
    · exact hne i a hi (he.trans h)
    · have he2 : a.1 = u.1 cb.1 := he
      omega
end BORNC
section BORNI
variable {p : Program} {l : Launch} {e : Env} {R : Room} {s : State} {m : MethodId} {args : Array Value} {below : List Frame} {meth : Method} {c : Code} {cc : ByteArray} {own : String} {nL : Nat} {D : va_G} {aC : Nat → ClassId} {ad : Nat → Nat} {A : Nat → Prop} {Q : State → Prop} {cells slots : Nat} {ws : va_W} {pc : Nat} {L : List (Option Value)} {st : List Value} {mc ms : Nat}
theorem kPc_blind {b sz ci : Nat} {fs : List Value} : FrameBlind (kPc D aC b sz ci fs) := fun a U g mk q => by
  obtain ⟨q0, q1, q2, q3, q4⟩ := q
  exact ⟨q0, q1, q2, q3, va_K.moved (u := U) (U := U.calling g mk a) (Vm.Alike.refl U.vm) q4⟩
def kLk (y0 : MethodName) (bc : ByteArray) (n : Nat) : Prop := Cond.instanceMethod y0 ∈ wALL ∧ Cond.code y0 bc n none ∈ wALL ∧ Cond.initialized y0.cls ∈ wALL ∧ y0.name = "<init>" ∧ (y0.cls ≠ "java/lang/invoke/MethodHandle" ∧ y0.cls ≠ "java/lang/invoke/VarHandle") ∧ (parseMethodDescriptor y0.desc).map (fun d => d.parameters.length) = some 0
theorem kLk.good {y0 : MethodName} {bc : ByteArray} {n : Nat} (h : kLk y0 bc n) : GoodIn wALL (Cond.code y0 bc n none :: wALL) := fun w hw => by
  rcases List.mem_cons.mp hw with rfl | hw
  · exact w_good h.2.1
  · exact w_good hw
theorem l_ctorI (G : wG p s m args meth c cc own nL D aC (fun _ => 0) A []) {q ci nb m1 s1 idx n : Nat} {y0 : MethodName} {bc : ByteArray} {rm : Room} {fs : List Value} {sh : wSh} {PZ : wZ → Prop} {ws0 : va_W} (K : kLk y0 bc n) (hlink : Cond.methodLink own idx y0 ∈ wALL) (hM : kM2 l D aC y0 bc n rm ci fs nb sh PZ m1 s1)
    (hr : xRm rm R n m1 s1) (hcs : cells + m1 ≤ R.cells ∧ slots + s1 ≤ R.slots) (hcat : (st.map fun v => v.category).sum ≤ 8) (hdg : decode cc pc = .ok (.invokespecial idx, 3))
    (kk : ∀ (a' : Nat → Nat) (z' : wZ), a' nb = q → PZ z' → JL p l e R s m args below meth c nL D A Q (cells + m1) (slots + s1) (ws0 ++ wd aC a' sh z') (pc + 3) L st) : JL p l e R s m args below meth c nL D A Q cells slots (ws0 ++ [(q, .inr (ci, fs))]) pc L (.ref q :: st) :=
  l_ctorR G (fun H locs ls hq hlt hls => va_runI (Ts := wALL) (n := 0) (As := []) (nL := nL) ⟨G.1, G.2.1, G.2.2.1, G.hown, G.ts⟩ (hM q H.size)
    ⟨⟨hr.1, hr.2.1, hr.2.2.1, hr.2.2.2, pay_in G.ts K.good, List.mem_cons_self, G.ts _ K.2.1, G.ts _ K.2.2.1, K.2.2.2.2.1, fun sig h => by
      have h2 := K.2.2.2.2.2
      rw [h] at h2
      exact (Option.some.inj h2).symm, G.ts _ hlink⟩, K.2.2.2.1, G.ts _ K.1⟩
    ⟨kPc_blind, fun U hU hW => ⟨rfl, by rw [hU], hlt, by rw [hU]; exact hq, va_K.moved hW.alike G.K⟩⟩ rfl rfl hls rfl (lv_room hcat) hdg hcs) kk
theorem l_ctorN (G : wG p s m args meth c cc own nL D aC (fun _ => 0) A []) {q ci nb m1 s1 idx n : Nat} {y0 : MethodName} {bc : ByteArray} {rm : Room} {fs : List Value} {sh : wSh} {PZ : wZ → Prop} {ws0 : va_W} {host : String} (K : kLk y0 bc n) (hlink : va_Nw (.methodLinkNest own idx y0 host) s) (hM : kM2 l D aC y0 bc n rm ci fs nb sh PZ m1 s1)
    (hr : xRm rm R n m1 s1) (hcs : cells + m1 ≤ R.cells ∧ slots + s1 ≤ R.slots) (hcat : (st.map fun v => v.category).sum ≤ 8) (hdg : decode cc pc = .ok (.invokespecial idx, 3))
    (kk : ∀ (a' : Nat → Nat) (z' : wZ), a' nb = q → PZ z' → JL p l e R s m args below meth c nL D A Q (cells + m1) (slots + s1) (ws0 ++ wd aC a' sh z') (pc + 3) L st) : JL p l e R s m args below meth c nL D A Q cells slots (ws0 ++ [(q, .inr (ci, fs))]) pc L (.ref q :: st) :=
  l_ctorR G (fun H locs ls hq hlt hls => va_runIN (Ts := wALL) (n := 0) (As := []) (nL := nL) ⟨G.1, G.2.1, G.2.2.1, G.hown, G.ts⟩ (hM q H.size)
    ⟨va_cnB 0 G.ts K.good rfl hr.1 hr.2.1 hlink (G.ts _ K.2.2.1) ⟨K.2.2.2.2.1.1, K.2.2.2.2.1.2, K.2.2.2.2.2⟩ ⟨hr.2.2.1, hr.2.2.2⟩, K.2.2.2.1, G.ts _ K.1⟩
    ⟨kPc_blind, fun U hU hW => ⟨rfl, by rw [hU], hlt, by rw [hU]; exact hq, va_K.moved hW.alike G.K⟩⟩ rfl rfl hls rfl (lv_room hcat) hdg hcs) kk
end BORNI
section BORNR
variable {p : Program} {l : Launch} {e : Env} {R : Room} {s : State} {m : MethodId} {args : Array Value} {below : List Frame} {meth : Method} {c : Code} {cc : ByteArray} {own : String} {nL : Nat} {D : va_G} {aC : Nat → ClassId} {A : Nat → Prop} {cells slots : Nat} {ws : va_W} {pc : Nat} {L : List (Option Value)} {mc ms : Nat}
theorem l_ret2 (G : wG p s m args meth c cc own nL D aC (fun _ => 0) A []) {nb b : Nat} {sh : wSh} {PZ : wZ → Prop} (z : wZ) (a' : Nat → Nat) (hz : PZ z) (hr : meth.sig.returnType = none) (hw : ws = wd aC a' sh z) (hb : a' nb = b) (hc : cells ≤ mc ∧ slots ≤ ms) (hdg : decode cc pc = .ok (.return_, 1)) : JL p l e R s m args below meth c nL D A (MQ below (kQ2 D aC nb b sh PZ A) args s mc ms A) cells slots ws pc L [] := by
  intro H locs ls hP hD hS hl
  subst hw
  exact W.widen hc.1 hc.2 (W.vret G.1 G.2.1 hr (fun t ht hW => ⟨⟨(a', z), rfl, ⟨hb, wDi_of hD, wA_of hD, hz⟩, by rw [ht]; exact hP, va_K.moved hW.alike G.K⟩, hS.F ht⟩) hS.2.2 hdg G.locks)
end BORNR
