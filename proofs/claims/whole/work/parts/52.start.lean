/-! THE LAW: its start -/
section LAWST
variable {p : Program} {l : Launch} {e : Env} {R : Room} {s : State} {m : MethodId} {args : Array Value} {below : List Frame} {meth : Method} {c : Code} {cc : ByteArray} {own : String} {nL : Nat} {D : va_G} {aC : Nat → ClassId} {A : Nat → Prop} {Q : State → Prop} {cells slots : Nat} {ws w0 : va_W} {pc : Nat} {Lv : List (Nat × Value)} {st : List Value}
theorem fr_perm {w w' : va_W} {H : Heap} (h : w.Perm w') (hP : va_P D vwCl w H) (hD : va_D A w) : va_P D vwCl w' H ∧ va_D A w' := by
  refine ⟨fun k q hk => ?_, ⟨fun i j x y hi hj he => ?_, fun k q hk => ?_⟩⟩
  · obtain ⟨i, hi⟩ := List.getElem?_of_mem (h.mem_iff.mpr (List.mem_of_getElem? hk))
    exact hP i q hi
  · have n1 : (w.map Prod.fst).Nodup := by
      unfold List.Nodup
      rw [List.pairwise_iff_getElem]
      intro i j hi hj hij he
      rw [List.getElem_map, List.getElem_map] at he
      have := hD.1 i j _ _ (List.getElem?_eq_getElem (by simpa using hi)) (List.getElem?_eq_getElem (by simpa using hj)) he
      omega
    have n2 := (h.map Prod.fst).nodup n1
    unfold List.Nodup at n2
    rw [List.pairwise_iff_getElem] at n2
    obtain ⟨hi1, hi2⟩ := List.getElem?_eq_some_iff.mp hi
    obtain ⟨hj1, hj2⟩ := List.getElem?_eq_some_iff.mp hj
    rcases Nat.lt_trichotomy i j with c1 | c1 | c1
    · exact absurd (by rw [List.getElem_map, List.getElem_map, hi2, hj2]; exact he) (n2 i j (by simpa using hi1) (by simpa using hj1) c1)
    · exact c1
    · exact absurd (by rw [List.getElem_map, List.getElem_map, hi2, hj2]; exact he.symm) (n2 j i (by simpa using hj1) (by simpa using hi1) c1)
  · obtain ⟨i, hi⟩ := List.getElem?_of_mem (h.mem_iff.mpr (List.mem_of_getElem? hk))
    exact hD.2 i q hi
theorem r_perm {w w' : va_W} (h : w.Perm w') (k : JR p l e R s m args below meth c nL D A Q cells slots w' pc Lv st) : JR p l e R s m args below meth c nL D A Q cells slots w pc Lv st := fun H locs ls hP hD hS hl => k H locs ls (fr_perm h hP hD).1 (fr_perm h hP hD).2 hS hl
theorem lW_perm {X Y : va_W} {o1 d1 : Nat × va_E} : ((((([] : va_W) ++ X) ++ Y) ++ [o1]) ++ [d1]).Perm ([o1] ++ (X ++ ([d1] ++ (Y ++ [])))) := by
  rw [List.nil_append, List.append_nil, List.append_assoc, List.append_assoc]
  refine List.Perm.trans (List.Perm.append_left X ?_) (List.perm_append_comm_assoc X [o1] ([d1] ++ Y))
  rw [← List.append_assoc [o1]]
  exact List.perm_append_comm
theorem r_new (G : lG p s m args meth c cc own nL D aC A) {C : String} {T : u_T} {N ci index : Nat} {fs : List Value} (hc : vwCl[ci]? = some (C, T, N)) (hin : ∀ w ∈ u_ws C T N, w ∈ wALL) {ty : Nat → FieldType} (hty : ∀ k, k < N → parseFieldDescriptor (T k).2.2.1 = some (ty k)) (hcl : Cond.classLink own index C ∈ wALL) (hit : Cond.instantiable C N ∈ wALL) (hini : Cond.initialized C ∈ wALL) (hfs : ∀ j, j < N → defaultValue (ty j) = vp_V fs j)
    (hcells : cells + 1 ≤ R.cells) (hslots : slots + N ≤ R.slots) (hdg : decode cc pc = .ok (.new index, 3))
    (kk : ∀ q : Nat, JR p l e R s m args below meth c nL D A Q (cells + 1) (slots + N) (ws ++ [(q, .inr (ci, fs))]) (pc + 3) Lv (.ref q :: st)) : JR p l e R s m args below meth c nL D A Q cells slots ws pc Lv st :=
  fun H locs ls hP hD hS hl => va_new (D := D) (cl := vwCl) (tys := wty aC) G.1 G.2.1 G.2.2.2.2.1 hin ty hty G.2.2.2.1 (G.2.2.2.2.1 _ hcl) (G.2.2.2.2.1 _ hit) (G.2.2.2.2.1 _ hini) G.2.2.2.2.2.1 hP hD hS G.2.2.2.2.2.2.1 hc hfs hcells hslots hdg (fun q H1 hP1 hD1 hS1 => kk q H1 locs ls hP1 hD1 hS1 hl)
theorem r_ctorR (G : lG p s m args meth c cc own nL D aC A) {q ci nb m1 s1 : Nat} {fs : List Value} {sh : wSh} {PZ : wZ → Prop}
    (hrun : ∀ (H : Heap) (locs : List Loc) (ls : Array Slot), va_P D vwCl [(q, .inr (ci, fs))] H → q < H.size → ls.size = nL → va_Run p l e R s m args below meth c H locs cells slots m1 s1 (F0 m pc ls (.ref q :: st)) st (kQ2 D aC nb q sh PZ (kA q H.size) [Value.ref q].toArray) (kA q H.size))
    (kk : ∀ (a' : Nat → Nat) (z' : wZ), a' nb = q → PZ z' → JR p l e R s m args below meth c nL D A Q (cells + m1) (slots + s1) (w0 ++ wd aC a' sh z') (pc + 3) Lv st) : JR p l e R s m args below meth c nL D A Q cells slots (w0 ++ [(q, .inr (ci, fs))]) pc Lv (.ref q :: st) := by
  intro H locs ls hP hD hS hl
  have hlast : (w0 ++ [(q, (.inr (ci, fs) : va_E))])[w0.length]? = some (q, .inr (ci, fs)) := by simp
  have hq : va_P D vwCl [(q, .inr (ci, fs))] H := fr_Pr hP
  have hlt : q < H.size := (hP _ _ hlast).lt
  have hAq : A q := hD.2 _ _ hlast
  have hfr : ∀ x, kA q H.size x → A x := fun x hx => by
    rcases hx with rfl | hx
    · exact hAq
    · exact G.2.2.2.2.2.2.1 x (Nat.le_trans hS.1 hx)
  refine va_callv (A1 := kA q H.size) (hrun H locs ls hq hlt hl.1) hS (fun x _ hx => hfr x hx) hfr ?_
  intro u t H1 locs1 ht hal hpost hB hz hk hS1
  obtain ⟨h2, h3, h4, h5⟩ := hpost
  have hx := fr_go (w0 := w0) (wx := [(q, .inr (ci, fs))]) (w2 := []) (wx' := wd aC u.1 sh u.2) (A1 := kA q H.size) (by rw [List.append_nil]; exact hP) (by rw [List.append_nil]; exact hD) (fun x hx => by
    rcases hx with rfl | hx
    · exact Or.inl ⟨0, _, rfl⟩
    · exact Or.inr hx) hfr hk (ht ▸ hB.1) (wd_D h3 (fun x hx => h4 x hx) u.2)
  rw [List.append_nil] at hx
  exact kk u.1 u.2 h2 h5 H1 locs1 ls hx.1 hx.2 hS1 hl
def wCWd (R : Room) (y0 : MethodName) (bc : ByteArray) (n : Nat) (rm : Room) (m1 s1 : Nat) : Prop := kLk y0 bc n ∧ xRm rm R n m1 s1
theorem r_ctorI (G : lG p s m args meth c cc own nL D aC A) {q ci nb m1 s1 idx n : Nat} {y0 : MethodName} {bc : ByteArray} {rm : Room} {fs : List Value} {sh : wSh} {PZ : wZ → Prop} (K : kLk y0 bc n) (hlink : Cond.methodLink own idx y0 ∈ wALL) (hM : kM2 l D aC y0 bc n rm ci fs nb sh PZ m1 s1)
    (hr : xRm rm R n m1 s1) (hcs : cells + m1 ≤ R.cells ∧ slots + s1 ≤ R.slots) (hcat : (st.map fun v => v.category).sum ≤ 8) (hdg : decode cc pc = .ok (.invokespecial idx, 3))
    (kk : ∀ (a' : Nat → Nat) (z' : wZ), a' nb = q → PZ z' → JR p l e R s m args below meth c nL D A Q (cells + m1) (slots + s1) (w0 ++ wd aC a' sh z') (pc + 3) Lv st) : JR p l e R s m args below meth c nL D A Q cells slots (w0 ++ [(q, .inr (ci, fs))]) pc Lv (.ref q :: st) :=
  r_ctorR G (fun H locs ls hq hlt hls => va_runI (Ts := wALL) (n := 0) (As := []) (nL := nL) ⟨G.1, G.2.1, G.2.2.1, G.2.2.2.1, G.2.2.2.2.1⟩ (hM q H.size)
    ⟨⟨hr.1, hr.2.1, hr.2.2.1, hr.2.2.2, pay_in G.2.2.2.2.1 K.good, List.mem_cons_self, G.2.2.2.2.1 _ K.2.1, G.2.2.2.2.1 _ K.2.2.1, K.2.2.2.2.1, fun sig h => by
      have h2 := K.2.2.2.2.2
      rw [h] at h2
      exact (Option.some.inj h2).symm, G.2.2.2.2.1 _ hlink⟩, K.2.2.2.1, G.2.2.2.2.1 _ K.1⟩
    ⟨kPc_blind, fun U hU hW => ⟨rfl, by rw [hU], hlt, by rw [hU]; exact hq, va_K.moved hW.alike G.2.2.2.2.2.1⟩⟩ rfl rfl hls rfl (lv_room hcat) hdg hcs) kk
theorem kNs.warm {U : State} (hW : s.WarmedH U.vm) (q : kNs s) : kNs U := ⟨va_Nw.warmM hW q.1, va_Nw.warmM hW q.2.1, va_Nw.warmM hW q.2.2.1, va_Nw.warmM hW q.2.2.2.1, va_Nw.warmM hW q.2.2.2.2⟩
theorem r_ctorC (G : lG p s m args meth c cc own nL D aC A) (hns : kNs s) {q idx : Nat} (K : kLk yX7_init cX7_init 1) (hlink : Cond.methodLink own idx yX7_init ∈ wALL)
    (hr : xRm (rmX 4 34 1786) R 1 34 1786) (hcs : cells + 34 ≤ R.cells ∧ slots + 1786 ≤ R.slots) (hcat : (st.map fun v => v.category).sum ≤ 8) (hdg : decode cc pc = .ok (.invokespecial idx, 3))
    (kk : ∀ (a' : Nat → Nat) (z' : wZ), a' 0 = q → pzN z' → JR p l e R s m args below meth c nL D A Q (cells + 34) (slots + 1786) (w0 ++ wd aC a' shC z') (pc + 3) Lv st) : JR p l e R s m args below meth c nL D A Q cells slots (w0 ++ [(q, .inr (9, [.null, .null, .null, .null, .null, .null, vi 0]))]) pc Lv (.ref q :: st) :=
  r_ctorR G (fun H locs ls hq hlt hls => va_runI (Ts := wALL) (n := 0) (As := []) (nL := nL) ⟨G.1, G.2.1, G.2.2.1, G.2.2.2.1, G.2.2.2.2.1⟩ (k_Class l q H.size)
    ⟨⟨hr.1, hr.2.1, hr.2.2.1, hr.2.2.2, pay_in G.2.2.2.2.1 K.good, List.mem_cons_self, G.2.2.2.2.1 _ K.2.1, G.2.2.2.2.1 _ K.2.2.1, K.2.2.2.2.1, fun sig h => by
      have h2 := K.2.2.2.2.2
      rw [h] at h2
      exact (Option.some.inj h2).symm, G.2.2.2.2.1 _ hlink⟩, K.2.2.2.1, G.2.2.2.2.1 _ K.1⟩
    ⟨kPcN_blind, fun U hU hW => ⟨rfl, by rw [hU], hlt, by rw [hU]; exact hq, va_K.moved hW.alike G.2.2.2.2.2.1, hns.warm hW⟩⟩ rfl rfl hls rfl (lv_room hcat) hdg hcs) kk
theorem r_newal (G : lG p s m args meth c cc own nL D aC A) (hw : Cond.arrayClass .long ∈ wALL) (hcells : cells + 1 ≤ R.cells) (hslots : slots + 1 ≤ R.slots) (hdg : decode cc pc = .ok (.newarray .long, 2)) (kk : ∀ q : Nat, JR p l e R s m args below meth c nL D A Q (cells + 1) (slots + 1) (ws ++ [(q, oL aC (fun _ => (0 : Int64)))]) (pc + 2) Lv (.ref q :: st)) : JR p l e R s m args below meth c nL D A Q cells slots ws pc Lv (vi 1 :: st) := by
  intro H locs ls hP hD hS hl
  have ht : (wty aC)[3]? = some (aC 3, .long) := rfl
  refine va_newa (D := D) (cl := vwCl) (tys := wty aC) (atype := .long) (n := Int32.ofInt 1) (a0 := (1, .inr (.inl (fun _ => (0 : Int64))))) G.1 G.2.1 (ty := .long) (G.2.2.2.2.1 _ hw) rfl G.2.2.2.2.2.1 hP hD hS G.2.2.2.2.2.2.1 (fun cA => rfl) (by decide) (N' := 1) (by decide) (by decide) hcells hslots hdg ?_
  intro q cA H1 hK1 hP1 hD1 hS1
  have e5 : (wty aC ++ [(cA, .long)])[5]? = some (cA, .long) := rfl
  have he : cA = aC 3 := Option.some.inj ((hK1.2 5 _ e5).2.symm.trans (G.2.2.2.2.2.1.2 3 _ ht).2)
  subst he
  exact kk q H1 locs ls hP1 hD1 hS1 hl
theorem r_newad (G : lG p s m args meth c cc own nL D aC A) (hw : Cond.arrayClass .double ∈ wALL) (hcells : cells + 1 ≤ R.cells) (hslots : slots + 1 ≤ R.slots) (hdg : decode cc pc = .ok (.newarray .double, 2)) (kk : ∀ q : Nat, JR p l e R s m args below meth c nL D A Q (cells + 1) (slots + 1) (ws ++ [(q, oD aC (fun _ => (0 : UInt64)))]) (pc + 2) Lv (.ref q :: st)) : JR p l e R s m args below meth c nL D A Q cells slots ws pc Lv (vi 1 :: st) := by
  intro H locs ls hP hD hS hl
  have ht : (wty aC)[4]? = some (aC 4, .double) := rfl
  refine va_newa (D := D) (cl := vwCl) (tys := wty aC) (atype := .double) (n := Int32.ofInt 1) (a0 := (1, .inr (.inr (.inr (.inl (fun _ => (0 : UInt64))))))) G.1 G.2.1 (ty := .double) (G.2.2.2.2.1 _ hw) rfl G.2.2.2.2.2.1 hP hD hS G.2.2.2.2.2.2.1 (fun cA => rfl) (by decide) (N' := 1) (by decide) (by decide) hcells hslots hdg ?_
  intro q cA H1 hK1 hP1 hD1 hS1
  have e5 : (wty aC ++ [(cA, .double)])[5]? = some (cA, .double) := rfl
  have he : cA = aC 4 := Option.some.inj ((hK1.2 5 _ e5).2.symm.trans (G.2.2.2.2.2.1.2 4 _ ht).2)
  subst he
  exact kk q H1 locs ls hP1 hD1 hS1 hl
end LAWST
theorem arr_int {s : State} {args : Array Value} (h : (Cond.arrayClass .int).before args s = true) : ∃ cA : ClassId, ArrOfT s cA .int ∧ va_RA s cA .int := by
  obtain ⟨cA, kA, comp, h1, h2, h3⟩ := Cond.arrayClass_spec h
  exact ⟨cA, fun n z => ⟨fun k h => (by cases h), kA, h2, comp, h3⟩, h1⟩
theorem arr_boolean {s : State} {args : Array Value} (h : (Cond.arrayClass .boolean).before args s = true) : ∃ cA : ClassId, ArrOfT s cA .boolean ∧ va_RA s cA .boolean := by
  obtain ⟨cA, kA, comp, h1, h2, h3⟩ := Cond.arrayClass_spec h
  exact ⟨cA, fun n z => ⟨fun k h => (by cases h), kA, h2, comp, h3⟩, h1⟩
theorem arr_char {s : State} {args : Array Value} (h : (Cond.arrayClass .char).before args s = true) : ∃ cA : ClassId, ArrOfT s cA .char ∧ va_RA s cA .char := by
  obtain ⟨cA, kA, comp, h1, h2, h3⟩ := Cond.arrayClass_spec h
  exact ⟨cA, fun n z => ⟨fun k h => (by cases h), kA, h2, comp, h3⟩, h1⟩
theorem arr_long {s : State} {args : Array Value} (h : (Cond.arrayClass .long).before args s = true) : ∃ cA : ClassId, ArrOfT s cA .long ∧ va_RA s cA .long := by
  obtain ⟨cA, kA, comp, h1, h2, h3⟩ := Cond.arrayClass_spec h
  exact ⟨cA, fun n z => ⟨fun k h => (by cases h), kA, h2, comp, h3⟩, h1⟩
theorem arr_double {s : State} {args : Array Value} (h : (Cond.arrayClass .double).before args s = true) : ∃ cA : ClassId, ArrOfT s cA .double ∧ va_RA s cA .double := by
  obtain ⟨cA, kA, comp, h1, h2, h3⟩ := Cond.arrayClass_spec h
  exact ⟨cA, fun n z => ⟨fun k h => (by cases h), kA, h2, comp, h3⟩, h1⟩
theorem zc_z0S : zc z0S zZ = z0S := by
  funext k
  by_cases h : k < 64
  · rw [zc_z h]
  · rw [zc_y h]
    funext a
    exact (z0S_0 (by omega) a).symm
theorem in_str : ∀ q ∈ xTx, Cond.stringRef RX7 q.1 q.2 ∈ lw_tbl := by decide +kernel
theorem in_exa : ∀ q ∈ xTx, Cond.exactly (.string RX7 q.1) "java/lang/String" ∈ flatC (Jvm.Cond.and given_1 narrow_1) := by decide +kernel
theorem in_not : ∀ E, E ∈ xEs → ∀ F, F ∈ xEs → E ≠ F → Cond.not (.castable E F) ∈ flatC (Jvm.Cond.and given_1 narrow_1) := by decide +kernel
theorem in_xd : ∀ E, E ∈ xEs → ∀ w, w ∈ xdW E → w ∈ lw_tbl := by
  intro E hE
  simp only [xEs, List.mem_cons, List.not_mem_nil, or_false] at hE
  rcases hE with rfl | rfl | rfl | rfl | rfl | rfl
  · exact xd_ISE
  · exact xd_IAE
  · exact xd_IOB
  · exact xd_NSE
  · exact xd_UOE
  · exact xd_AE
theorem in_ls1 : Cond.laysStatic Bundle.tN "UNASSIGNED_STACK" Bundle.steD ∈ lw_tbl := by decide +kernel
theorem in_ls2 : Cond.laysStatic Bundle.tN "SUPPRESSED_SENTINEL" Bundle.listD ∈ lw_tbl := by decide +kernel
theorem in_tN : Cond.initialized Bundle.tN ∈ lw_tbl := by decide +kernel
theorem in_rf1 : Cond.isRef (.static Bundle.tN "UNASSIGNED_STACK" Bundle.steD) ∈ flatC (Jvm.Cond.and given_1 narrow_1) := by decide +kernel
theorem in_rf2 : Cond.isRef (.static Bundle.tN "SUPPRESSED_SENTINEL" Bundle.listD) ∈ flatC (Jvm.Cond.and given_1 narrow_1) := by decide +kernel
theorem in_ns : (Cond.methodLinkNest RX7 9 yX2_init RX7 ∈ lw_tbl ∧ Cond.methodLinkNest RX7 18 yX0_init RX7 ∈ lw_tbl) ∧ (Cond.methodLinkNest RX7 32 yX4_init RX7 ∈ lw_tbl ∧ Cond.methodLinkNest RX7 39 yX3_init RX7 ∈ lw_tbl) ∧ Cond.methodLinkNest RX7 46 yX1_init RX7 ∈ lw_tbl := by decide +kernel
theorem iw_J0 : ∀ w ∈ u_ws RJ0 TJ0 2, w ∈ lw_tbl := by decide +kernel
theorem iw_Jx : ∀ w ∈ u_ws RJx00060 TJx00060 6, w ∈ lw_tbl := by decide +kernel
theorem wTh_0 {s : State} {args : Array Value} (hts : ∀ w ∈ lw_tbl, w.before args s = true) (hgv : (Jvm.Cond.and given_1 narrow_1).before args s = true) : wTh (lA s) s s.heap := by
  have hs := flat_of_before _ hgv
  refine ⟨vx_Zqof (hts _ in_ls1) (hts _ in_tN) (hs _ in_rf1) (fun a h => Nat.not_le.mpr h), vx_Zqof (hts _ in_ls2) (hts _ in_tN) (hs _ in_rf2) (fun a h => Nat.not_le.mpr h), fun E hE w hw => ?_, fun q hq => ?_⟩
  · refine va_Nw.of ?_ (hts _ (in_xd E hE w hw))
    simp only [xdW, List.mem_cons, List.not_mem_nil, or_false] at hw
    rcases hw with rfl | rfl | rfl | rfl <;> rfl
  · obtain ⟨a, c1, cA, kA, q1, q2⟩ := Cond.exactly_spec (args := args) (first := s) (o := none) (s := s) (idx := []) (t := .string RX7 q.1) (cls := "java/lang/String") (hs _ (in_exa q hq))
    exact ⟨a, vk_R.of (hts _ (in_str q hq)) q1⟩
theorem wNo_0 {s : State} {args : Array Value} (hgv : (Jvm.Cond.and given_1 narrow_1).before args s = true) : wNo s := fun E hE F hF hne => va_Nc.of (flat_of_before _ hgv _ (in_not E hE F hF hne))
theorem kNs_0 {s : State} {args : Array Value} (hts : ∀ w ∈ lw_tbl, w.before args s = true) : kNs s := ⟨va_Nw.of rfl (hts _ in_ns.1.1), va_Nw.of rfl (hts _ in_ns.1.2), va_Nw.of rfl (hts _ in_ns.2.1.1), va_Nw.of rfl (hts _ in_ns.2.1.2), va_Nw.of rfl (hts _ in_ns.2.2)⟩
theorem kn_ex {s : State} {args : Array Value} (hts : ∀ w ∈ lw_tbl, w.before args s = true) : ∃ (D : va_G) (aC : Nat → ClassId), va_K D vwCl (wty aC) s := by
  obtain ⟨c0, i0, k0⟩ := u_known (C := RJ0) (T := TJ0) (N := 2) (n := 4) hts iw_J0 (hts _ (wALL_tbl it_J0))
  obtain ⟨c1, i1, k1⟩ := u_known (C := RJx00060) (T := TJx00060) (N := 6) (n := 6) hts iw_Jx (hts _ (wALL_tbl it_Jx00060))
  obtain ⟨c2, i2, k2⟩ := u_known (C := RX0) (T := TX0) (N := 7) (n := 7) hts (fun w h => wALL_tbl (inwX0 w h)) (hts _ (wALL_tbl it_X0))
  obtain ⟨c3, i3, k3⟩ := u_known (C := RX1) (T := TX1) (N := 3) (n := 3) hts (fun w h => wALL_tbl (inwX1 w h)) (hts _ (wALL_tbl it_X1))
  obtain ⟨c4, i4, k4⟩ := u_known (C := RX2) (T := TX2) (N := 10) (n := 10) hts (fun w h => wALL_tbl (inwX2 w h)) (hts _ (wALL_tbl it_X2))
  obtain ⟨c5, i5, k5⟩ := u_known (C := RX3) (T := TX3) (N := 5) (n := 5) hts (fun w h => wALL_tbl (inwX3 w h)) (hts _ (wALL_tbl it_X3))
  obtain ⟨c6, i6, k6⟩ := u_known (C := RX4) (T := TX4) (N := 5) (n := 5) hts (fun w h => wALL_tbl (inwX4 w h)) (hts _ (wALL_tbl it_X4))
  obtain ⟨c7, i7, k7⟩ := u_known (C := RX5) (T := TX5) (N := 2) (n := 2) hts (fun w h => wALL_tbl (inwX5 w h)) (hts _ (wALL_tbl it_X5))
  obtain ⟨c8, i8, k8⟩ := u_known (C := RX6) (T := TX6) (N := 2) (n := 2) hts (fun w h => wALL_tbl (inwX6 w h)) (hts _ (wALL_tbl it_X6))
  obtain ⟨c9, i9, k9⟩ := u_known (C := RX7) (T := TX7) (N := 7) (n := 7) hts (fun w h => wALL_tbl (inwX7 w h)) (hts _ (wALL_tbl it_X7))
  obtain ⟨c10, i10, k10⟩ := u_known (C := RX8) (T := TX8) (N := 34) (n := 34) hts (fun w h => wALL_tbl (inwX8 w h)) (hts _ (wALL_tbl it_X8))
  obtain ⟨e0, f0, g0⟩ := arr_int (hts _ (wALL_tbl ac_int))
  obtain ⟨e1, f1, g1⟩ := arr_boolean (hts _ (wALL_tbl ac_boolean))
  obtain ⟨e2, f2, g2⟩ := arr_char (hts _ (wALL_tbl ac_char))
  obtain ⟨e3, f3, g3⟩ := arr_long (hts _ (wALL_tbl ac_long))
  obtain ⟨e4, f4, g4⟩ := arr_double (hts _ (wALL_tbl ac_double))
  refine ⟨(fun k => if k = 0 then c0 else if k = 1 then c1 else if k = 2 then c2 else if k = 3 then c3 else if k = 4 then c4 else if k = 5 then c5 else if k = 6 then c6 else if k = 7 then c7 else if k = 8 then c8 else if k = 9 then c9 else c10, fun k => if k = 0 then i0 else if k = 1 then i1 else if k = 2 then i2 else if k = 3 then i3 else if k = 4 then i4 else if k = 5 then i5 else if k = 6 then i6 else if k = 7 then i7 else if k = 8 then i8 else if k = 9 then i9 else i10), fun k => if k = 0 then e0 else if k = 1 then e1 else if k = 2 then e2 else if k = 3 then e3 else e4, fun k q hq => ?_, fun k q hq => ?_⟩
  · match k, hq with
    | 0, hq => cases hq; exact k0
    | 1, hq => cases hq; exact k1
    | 2, hq => cases hq; exact k2
    | 3, hq => cases hq; exact k3
    | 4, hq => cases hq; exact k4
    | 5, hq => cases hq; exact k5
    | 6, hq => cases hq; exact k6
    | 7, hq => cases hq; exact k7
    | 8, hq => cases hq; exact k8
    | 9, hq => cases hq; exact k9
    | 10, hq => cases hq; exact k10
    | k + 11, hq => simp [vwCl] at hq
  · match k, hq with
    | 0, hq => cases hq; exact ⟨f0, g0⟩
    | 1, hq => cases hq; exact ⟨f1, g1⟩
    | 2, hq => cases hq; exact ⟨f2, g2⟩
    | 3, hq => cases hq; exact ⟨f3, g3⟩
    | 4, hq => cases hq; exact ⟨f4, g4⟩
    | k + 5, hq => simp [wty] at hq
theorem law_end {p : Program} {l : Launch} {e : Env} {s : State} {m : MethodId} {below : List Frame} {meth : Method} {c : Code} {D : va_G} {aC : Nat → ClassId} {b : Nat} (G : lG p s m #[.ref b] meth c cL_law RL 9 D aC (lA s)) (hr : meth.sig.returnType = ret) {ws : va_W} {Lv : List (Nat × Value)} {cells slots : Nat} (hc : cells ≤ 3162) (hs : slots ≤ 121779) : JR p l e room_1 s m #[.ref b] below meth c 9 D (lA s) (lw_Z below #[Value.ref b] s) cells slots ws 2134 Lv [] :=
  r_iconst (n := 1) G dL_law_2134 (fun H locs ls hP hD hS hl => va_forget (fun q hq => hS.2.2 q hq) (W.widen hc hs (lw_ret (d0 := s.drawn) (Drawn.sameBut.refl s.drawn lw_cs) G.1 G.2.1 hr G.2.2.2.2.2.2.2 dL_law_2135)))
theorem kL_Class : kLk yX7_init cX7_init 1 := ⟨im_X7_init, co_X7_init, in_X7, rfl, by decide, by decide +kernel⟩
theorem kL_Model : kLk yX8_init cX8_init 1 := ⟨im_X8_init, co_X8_init, in_X8, rfl, by decide, by decide +kernel⟩
theorem shM_eq : sh_Model = shM := rfl
set_option maxHeartbeats 4000000 in
set_option maxRecDepth 100000 in
theorem whole_start {p : Program} {e : Env} {s : State} {m : MethodId} {below : List Frame} {meth : Method} {c : Code} (l : Launch) (hflags : l.flags = flags0) {b L : Nat} {xs : Nat → Int32} (hL : L ≤ 2560) (C0 : lw_At p s m meth c b L xs) : W p l e room_1 s m #[Value.ref b] below meth c s.heap [] 0 0 (lw_Z below #[Value.ref b] s) (entryFrame m ([Value.ref b] : List Value).toArray 9) := by
  obtain ⟨hx, hb, hr, hml, hown, hts, hX, hbl, hlocks, hgv⟩ := C0
  have hst : l.stackTraces = false := by unfold Launch.stackTraces; rw [hflags]; decide +kernel
  obtain ⟨D, aC, hK⟩ := kn_ex hts
  have G : lG p s m #[.ref b] meth c cL_law RL 9 D aC (lA s) := ⟨hx, hb, hml, hown, fun w h => hts w (wALL_tbl h), hK, fun q h => h, hlocks⟩
  have hTh := wTh_0 hts hgv
  have hNo := wNo_0 hgv
  have hns := kNs_0 hts
  have key : JR p l e room_1 s m #[.ref b] below meth c 9 D (lA s) (lw_Z below #[Value.ref b] s) 0 0 [] 0 [(0, .ref b)] [] := by
    refine r_new G (ci := 9) (fs := [.null, .null, .null, .null, .null, .null, vi 0]) (ty := tyX7) rfl inwX7 tyX7_ok cl_L_8 it_X7 in_X7 (by decide) (Nat.le_of_ble_eq_true rfl) (Nat.le_of_ble_eq_true rfl) dL_law_0 (fun q0 => ?_)
    refine r_dup G rfl dL_law_3 ?_
    refine r_ctorC (w0 := []) G hns kL_Class ml_L_120 ⟨rfl, rfl, Nat.le_of_ble_eq_true rfl, Nat.le_of_ble_eq_true rfl⟩ ⟨Nat.le_of_ble_eq_true rfl, Nat.le_of_ble_eq_true rfl⟩ (Nat.le_of_ble_eq_true rfl) dL_law_4 (fun a1 z1 ha1 pz1 => ?_)
    subst ha1
    obtain ⟨y1, rfl, hRy1, h64, h65⟩ := pz1
    refine r_astore_n (Lv' := [(1, .ref (a1 0)), (0, .ref b)]) G dL_law_7 (by decide) rfl ?_
    refine r_new G (ci := 10) (fs := [vi 0, vi 0, vi 0, vi 0, vi 0, vi 0, vi 0, vi 0, vi 0, .null, .null, .null, .null, .null, .null, .null, .null, .null, .null, .null, .null, .null, .null, .null, .null, .null, .null, .null, .null, .null, .null, .null, .null, vi 0]) (ty := tyX8) rfl inwX8 tyX8_ok cl_L_121 it_X8 in_X8 (by decide) (Nat.le_of_ble_eq_true rfl) (Nat.le_of_ble_eq_true rfl) dL_law_8 (fun q8 => ?_)
    refine r_dup G rfl dL_law_11 ?_
    refine r_ctorI G kL_Model ml_L_123 (k_Model l) ⟨rfl, rfl, Nat.le_of_ble_eq_true rfl, Nat.le_of_ble_eq_true rfl⟩ ⟨Nat.le_of_ble_eq_true rfl, Nat.le_of_ble_eq_true rfl⟩ (Nat.le_of_ble_eq_true rfl) dL_law_12 (fun a2 z2 ha2 pz2 => ?_)
    subst ha2
    subst pz2
    rw [shM_eq, ← zc_z0S]
    refine r_astore_n (Lv' := [(2, .ref (a2 40)), (1, .ref (a1 0)), (0, .ref b)]) G dL_law_15 (by decide) rfl ?_
    refine r_iconst G dL_law_16 ?_
    refine r_newal G ac_long (Nat.le_of_ble_eq_true rfl) (Nat.le_of_ble_eq_true rfl) dL_law_17 (fun ao => ?_)
    refine r_astore_n (Lv' := [(3, .ref ao), (2, .ref (a2 40)), (1, .ref (a1 0)), (0, .ref b)]) G dL_law_19 (by decide) rfl ?_
    refine r_iconst G dL_law_20 ?_
    refine r_newad G ac_double (Nat.le_of_ble_eq_true rfl) (Nat.le_of_ble_eq_true rfl) dL_law_21 (fun aD => ?_)
    refine r_astore (Lv' := [(4, .ref aD), (3, .ref ao), (2, .ref (a2 40)), (1, .ref (a1 0)), (0, .ref b)]) G dL_law_23 (by decide) rfl ?_
    refine r_iconst G dL_law_25 ?_
    refine r_istore (Lv' := [(5, vi 0), (4, .ref aD), (3, .ref ao), (2, .ref (a2 40)), (1, .ref (a1 0)), (0, .ref b)]) G dL_law_26 (by decide) rfl ?_
    refine r_sub (Lv' := lL b (a1 0) (a2 40) ao aD (5 * ((0 : Nat) : Int))) [5, 4, 3, 2, 1, 0] rfl ?_
    refine r_widen (100 + 5 * 0) (3000 + 30 * 0) (Nat.le_of_ble_eq_true rfl) (Nat.le_of_ble_eq_true rfl) ?_
    refine r_perm lW_perm ?_
    exact law_loop l hst G hTh hNo hX hbl hL (fun n ws h => law_end G hr (by omega) (by omega)) L 0 (by omega) (by omega) z0S y1 zZ _ _ (LI_0 hRy1 zZ_R h64 h65 (fun _ => rfl))
  rw [lg_entry_eq]
  exact key s.heap [] _ (fun k q h => by simp at h) ⟨fun i j p q h => by simp at h, fun k q h => by simp at h⟩ va_S.rf (lv_entry ([.ref b]) (n := 9) (Nat.le_of_ble_eq_true rfl))
