section BORNC
variable {p : Program} {l : Launch} {e : Env} {R : Room} {s : State} {m : MethodId} {args : Array Value} {below : List Frame} {meth : Method} {c : Code} {cc : ByteArray} {own : String} {nL : Nat} {D : va_G} {aC : Nat → ClassId} {ad : Nat → Nat} {A : Nat → Prop} {Q : State → Prop} {cells slots : Nat} {ws : va_W} {pc : Nat} {L : List (Option Value)} {st : List Value} {mc ms : Nat}
/-- the newest cell is given to its constructor -/
theorem l_ctorR (G : wG p s m args meth c cc own nL D aC (fun _ => 0) A []) {q ci nb m1 s1 : Nat} {fs : List Value} {sh : wSh} {PZ : wZ → Prop} {ws0 : va_W}
    (hrun : ∀ (H : Heap) (locs : List Loc) (ls : Array Slot), va_P D vwCl [(q, .inr (ci, fs))] H → q < H.size → ls.size = nL → va_Run p l e R s m args below meth c H locs cells slots m1 s1 (F0 m pc ls (.ref q :: st)) st (kQ2 D aC nb q sh PZ (kA q H.size) [Value.ref q].toArray) (kA q H.size))
    (kk : ∀ (a' : Nat → Nat) (z' : wZ), a' nb = q → PZ z' → JL p l e R s m args below meth c nL D A Q (cells + m1) (slots + s1) (ws0 ++ wd aC a' sh z') (pc + 3) L st) : JL p l e R s m args below meth c nL D A Q cells slots (ws0 ++ [(q, .inr (ci, fs))]) pc L (.ref q :: st) := by
  intro H locs ls hP hD hS hl
  have hlast : (ws0 ++ [(q, (.inr (ci, fs) : va_E))])[ws0.length]? = some (q, .inr (ci, fs)) := by simp
  have hq : va_P D vwCl [(q, .inr (ci, fs))] H := fun k x hx => by
    have h1 := (List.getElem?_eq_some_iff.mp hx).1
    have : k = 0 := by simp at h1; exact h1
    subst this
    cases hx
    exact hP _ _ hlast
  have hlt : q < H.size := (hP _ _ hlast).lt
  have hAq : A q := hD.2 _ _ hlast
  have h0 : ∀ (k : Nat) (x : Nat × va_E), ws0[k]? = some x → (ws0 ++ [(q, (.inr (ci, fs) : va_E))])[k]? = some x := fun k x hx => by
    rw [List.getElem?_append_left (List.getElem?_eq_some_iff.mp hx).1]; exact hx
  have hne : ∀ (k : Nat) (x : Nat × va_E), ws0[k]? = some x → x.1 ≠ q := fun k x hx he => by
    have h2 := hD.1 k ws0.length x _ (h0 k x hx) hlast he
    have h3 := (List.getElem?_eq_some_iff.mp hx).1
    omega
  have hfr : ∀ x, kA q H.size x → A x := fun x hx => by
    rcases hx with rfl | hx
    · exact hAq
    · exact G.2.2.2.2.2.2.2.2.1 x (Nat.le_trans hS.1 hx)
  refine va_callv (A1 := kA q H.size) (hrun H locs ls hq hlt hl.1) hS (fun x _ hx => hfr x hx) hfr ?_
  intro u t H1 locs1 ht hal hpost hB hz hk hS1
  obtain ⟨h2, h3, h4, h5⟩ := hpost
  refine kk u.1 u.2 h2 h5 H1 locs1 ls ?_ ?_ hS1 hl
  · refine va_P.app (va_P.kept (fun k x hx => hP k x (h0 k x hx)) (fun k x hx => hk x.1 (hP k x (h0 k x hx)).lt (fun hx2 => ?_))) ?_
    · rcases hx2 with h | h
      · exact hne k x hx h
      · exact Nat.not_lt.mpr h (hP k x (h0 k x hx)).lt
    · rw [← ht]; exact hB.1
  · refine va_D.app ⟨fun i j a b hi hj he => hD.1 i j a b (h0 i a hi) (h0 j b hj) he, fun k x hx => hD.2 k x (h0 k x hx)⟩ (wd_D h3 (fun x hx => hfr _ (h4 x hx)) u.2) ?_
    intro i j a b hi hj he
    obtain ⟨cb, hcb, rfl⟩ := wd_inv hj
    have hb := h4 cb (List.mem_of_getElem? hcb)
    have hla := (hP i a (h0 i a hi)).lt
    rcases hb with h | h
    · exact hne i a hi (he.trans h)
    · have he2 : a.1 = u.1 cb.1 := he
      omega
end BORNC
