/-! THE LAW: its loop -/
section LAWL
variable {p : Program} {l : Launch} {e : Env} {R : Room} {s : State} {m : MethodId} {args : Array Value} {below : List Frame} {meth : Method} {c : Code} {cc : ByteArray} {own : String} {nL : Nat} {D : va_G} {aC : Nat → ClassId} {A : Nat → Prop} {Q : State → Prop} {cells slots : Nat} {ws : va_W} {pc : Nat} {Lv : List (Nat × Value)} {st : List Value}
theorem and31 (x : Int32) : ∃ j : Nat, j < 32 ∧ x &&& Int32.ofInt 31 = Int32.ofInt (j : Int) := by
  refine ⟨(x.toBitVec &&& 31#32).toNat, ?_, ?_⟩
  · rw [BitVec.toNat_and]
    exact Nat.lt_of_le_of_lt Nat.and_le_right (by decide)
  · rw [Int32.ofInt_eq_ofNat, show Int32.ofInt 31 = 31 from rfl]
    apply Int32.toBitVec.inj
    simp
theorem r_tsw (G : lG p s m args meth c cc own nL D aC A) {x : Int32} {j : Nat} (hj : j < 32) (hx : x = Int32.ofInt (j : Int)) {dflt : Int} {offs : Array Int} {len : Nat} {off : Int} {tgt : Nat} (hdg : decode cc pc = .ok (.tableswitch dflt 0 31 offs, len)) (ho : offs[j]? = some off) (ht : (pc : Int) + off = (tgt : Int)) (k : JR p l e R s m args below meth c nL D A Q cells slots ws tgt Lv st) : JR p l e R s m args below meth c nL D A Q cells slots ws pc Lv (.int x :: st) := by
  have e1 : x.toInt = (j : Int) := by rw [hx]; exact Int32.toInt_ofInt_of_le (by omega) (by omega)
  exact fun H locs ls hP hD hS hl => lv_tableIn G.1 G.2.1 hdg (by rw [e1]; omega) (by rw [e1]; omega) (by rw [e1, show ((j : Int) - 0).toNat = j by omega]; exact ho) ht (k H locs ls hP hD hS hl)
end LAWL
set_option maxHeartbeats 4000000 in
set_option maxRecDepth 100000 in
theorem law_step (l : Launch) (hst : l.stackTraces = false) {p : Program} {e : Env} {s : State} {m : MethodId} {below : List Frame} {meth : Method} {c : Code} {D : va_G} {aC : Nat → ClassId} {a1 a2 : Nat → Nat} {ao aD b L : Nat} {xs : Nat → Int32} {Q : State → Prop} (G : lG p s m #[.ref b] meth c cL_law RL 9 D aC (lA s)) (hTh : wTh (lA s) s s.heap) (hNo : wNo s) (hX : va_X b L xs s s.heap) (hbl : b < s.heap.size) (hL : L ≤ 2560) {z y y' : wZ} {n : Nat} (hI : LI n z y y') (hn : 5 * n + 5 ≤ L) {fo : Nat → Int64} {go : Nat → UInt64} (kk : ∀ (z2 y2 y3 : wZ) (fo : Nat → Int64) (go : Nat → UInt64), LI (n + 1) z2 y2 y3 → JR p l e room_1 s m #[.ref b] below meth c 9 D (lA s) Q (100 + 5 * n + 5) (3000 + 30 * n + 30) (lW aC a1 a2 ao aD fo go (zc z2 y2) (zc z2 y3)) 2128 (lL b (a1 0) (a2 40) ao aD (5 * (n : Int))) []) : JR p l e room_1 s m #[.ref b] below meth c 9 D (lA s) Q (100 + 5 * n) (3000 + 30 * n) (lW aC a1 a2 ao aD fo go (zc z y) (zc z y')) 37 (lL b (a1 0) (a2 40) ao aD (5 * (n : Int))) [] := by
  obtain ⟨j, hj, ej⟩ := and31 (xs (5 * n))
  refine r_scr0 G hX hbl (by omega) hL 0 5 rfl rfl dL_law_37 dL_law_38 dL_law_40 ?_
  refine r_bipush G dL_law_41 (by decide) ?_
  refine r_iand G dL_law_43 ?_
  have hh : j = 0 ∨ j = 1 ∨ j = 2 ∨ j = 3 ∨ j = 4 ∨ j = 5 ∨ j = 6 ∨ j = 7 ∨ j = 8 ∨ j = 9 ∨ j = 10 ∨ j = 11 ∨ j = 12 ∨ j = 13 ∨ j = 14 ∨ j = 15 ∨ j = 16 ∨ j = 17 ∨ j = 18 ∨ j = 19 ∨ j = 20 ∨ j = 21 ∨ j = 22 ∨ j = 23 ∨ j = 24 ∨ j = 25 ∨ j = 26 ∨ j = 27 ∨ j = 28 ∨ j = 29 ∨ j = 30 ∨ j = 31 := by omega
  rcases hh with rfl | rfl | rfl | rfl | rfl | rfl | rfl | rfl | rfl | rfl | rfl | rfl | rfl | rfl | rfl | rfl | rfl | rfl | rfl | rfl | rfl | rfl | rfl | rfl | rfl | rfl | rfl | rfl | rfl | rfl | rfl | rfl
  · exact r_tsw G (tgt := 188) (by decide) ej dL_law_44 rfl (by decide) (lcase_0 l hst G hTh hNo hX hbl hL hI hn kk)
  · exact r_tsw G (tgt := 260) (by decide) ej dL_law_44 rfl (by decide) (lcase_1 l hst G hTh hNo hX hbl hL hI hn kk)
  · exact r_tsw G (tgt := 352) (by decide) ej dL_law_44 rfl (by decide) (lcase_2 l hst G hTh hNo hX hbl hL hI hn kk)
  · exact r_tsw G (tgt := 415) (by decide) ej dL_law_44 rfl (by decide) (lcase_3 l hst G hTh hNo hX hbl hL hI hn kk)
  · exact r_tsw G (tgt := 506) (by decide) ej dL_law_44 rfl (by decide) (lcase_4 l hst G hTh hNo hX hbl hL hI hn kk)
  · exact r_tsw G (tgt := 602) (by decide) ej dL_law_44 rfl (by decide) (lcase_5 l hst G hTh hNo hX hbl hL hI hn kk)
  · exact r_tsw G (tgt := 670) (by decide) ej dL_law_44 rfl (by decide) (lcase_6 l hst G hTh hNo hX hbl hL hI hn kk)
  · exact r_tsw G (tgt := 726) (by decide) ej dL_law_44 rfl (by decide) (lcase_7 l hst G hTh hNo hX hbl hL hI hn kk)
  · exact r_tsw G (tgt := 794) (by decide) ej dL_law_44 rfl (by decide) (lcase_8 l hst G hTh hNo hX hbl hL hI hn kk)
  · exact r_tsw G (tgt := 850) (by decide) ej dL_law_44 rfl (by decide) (lcase_9 l hst G hTh hNo hX hbl hL hI hn kk)
  · exact r_tsw G (tgt := 906) (by decide) ej dL_law_44 rfl (by decide) (lcase_10 l hst G hTh hNo hX hbl hL hI hn kk)
  · exact r_tsw G (tgt := 969) (by decide) ej dL_law_44 rfl (by decide) (lcase_11 l hst G hTh hNo hX hbl hL hI hn kk)
  · exact r_tsw G (tgt := 1053) (by decide) ej dL_law_44 rfl (by decide) (lcase_12 l hst G hTh hNo hX hbl hL hI hn kk)
  · exact r_tsw G (tgt := 1094) (by decide) ej dL_law_44 rfl (by decide) (lcase_13 l hst G hTh hNo hX hbl hL hI hn kk)
  · exact r_tsw G (tgt := 1197) (by decide) ej dL_law_44 rfl (by decide) (lcase_14 l hst G hTh hNo hX hbl hL hI hn kk)
  · exact r_tsw G (tgt := 1253) (by decide) ej dL_law_44 rfl (by decide) (lcase_15 l hst G hTh hNo hX hbl hL hI hn kk)
  · exact r_tsw G (tgt := 1309) (by decide) ej dL_law_44 rfl (by decide) (lcase_16 l hst G hTh hNo hX hbl hL hI hn kk)
  · exact r_tsw G (tgt := 1391) (by decide) ej dL_law_44 rfl (by decide) (lcase_17 l hst G hTh hNo hX hbl hL hI hn kk)
  · exact r_tsw G (tgt := 1404) (by decide) ej dL_law_44 rfl (by decide) (lcase_18 l hst G hTh hNo hX hbl hL hI hn kk)
  · exact r_tsw G (tgt := 1460) (by decide) ej dL_law_44 rfl (by decide) (lcase_19 l hst G hTh hNo hX hbl hL hI hn kk)
  · exact r_tsw G (tgt := 1516) (by decide) ej dL_law_44 rfl (by decide) (lcase_20 l hst G hTh hNo hX hbl hL hI hn kk)
  · exact r_tsw G (tgt := 1572) (by decide) ej dL_law_44 rfl (by decide) (lcase_21 l hst G hTh hNo hX hbl hL hI hn kk)
  · exact r_tsw G (tgt := 1585) (by decide) ej dL_law_44 rfl (by decide) (lcase_22 l hst G hTh hNo hX hbl hL hI hn kk)
  · exact r_tsw G (tgt := 1653) (by decide) ej dL_law_44 rfl (by decide) (lcase_23 l hst G hTh hNo hX hbl hL hI hn kk)
  · exact r_tsw G (tgt := 1709) (by decide) ej dL_law_44 rfl (by decide) (lcase_24 l hst G hTh hNo hX hbl hL hI hn kk)
  · exact r_tsw G (tgt := 1765) (by decide) ej dL_law_44 rfl (by decide) (lcase_25 l hst G hTh hNo hX hbl hL hI hn kk)
  · exact r_tsw G (tgt := 1809) (by decide) ej dL_law_44 rfl (by decide) (lcase_26 l hst G hTh hNo hX hbl hL hI hn kk)
  · exact r_tsw G (tgt := 1853) (by decide) ej dL_law_44 rfl (by decide) (lcase_27 l hst G hTh hNo hX hbl hL hI hn kk)
  · exact r_tsw G (tgt := 1928) (by decide) ej dL_law_44 rfl (by decide) (lcase_28 l hst G hTh hNo hX hbl hL hI hn kk)
  · exact r_tsw G (tgt := 1984) (by decide) ej dL_law_44 rfl (by decide) (lcase_29 l hst G hTh hNo hX hbl hL hI hn kk)
  · exact r_tsw G (tgt := 2050) (by decide) ej dL_law_44 rfl (by decide) (lcase_30 l hst G hTh hNo hX hbl hL hI hn kk)
  · exact r_tsw G (tgt := 2115) (by decide) ej dL_law_44 rfl (by decide) (lcase_31 l hst G hTh hNo hX hbl hL hI hn kk)
theorem law_head (l : Launch) (hst : l.stackTraces = false) {p : Program} {e : Env} {s : State} {m : MethodId} {below : List Frame} {meth : Method} {c : Code} {D : va_G} {aC : Nat → ClassId} {a1 a2 : Nat → Nat} {ao aD b L : Nat} {xs : Nat → Int32} {Q : State → Prop} (G : lG p s m #[.ref b] meth c cL_law RL 9 D aC (lA s)) (hTh : wTh (lA s) s s.heap) (hNo : wNo s) (hX : va_X b L xs s s.heap) (hbl : b < s.heap.size) (hL : L ≤ 2560) {ws : va_W} {cells slots n : Nat} (h1 : L < 5 * n + 5 → JR p l e room_1 s m #[.ref b] below meth c 9 D (lA s) Q (cells) (slots) (ws) 2134 (lL b (a1 0) (a2 40) ao aD (5 * (n : Int))) []) (h2 : 5 * n + 5 ≤ L → JR p l e room_1 s m #[.ref b] below meth c 9 D (lA s) Q (cells) (slots) (ws) 37 (lL b (a1 0) (a2 40) ao aD (5 * (n : Int))) []) (hn : 5 * n ≤ L) : JR p l e room_1 s m #[.ref b] below meth c 9 D (lA s) Q (cells) (slots) (ws) 28 (lL b (a1 0) (a2 40) ao aD (5 * (n : Int))) [] := by
  refine r_iload G 5 dL_law_28 rfl (r_aload_n G 0 dL_law_30 rfl (fun H locs ls hP hD hS hl => ?_))
  refine va_slen G.1 G.2.1 hX hbl (Nat.not_le.mpr hbl) hS dL_law_31 ?_
  refine r_iconst (n := 5) G dL_law_32 (r_isub G dL_law_33 ?_) H locs ls hP hD hS hl
  have e0 : Int32.ofNat L - Int32.ofInt 5 = Int32.ofInt ((L : Int) - 5) := by rw [← Int32.ofInt_eq_ofNat, ← Int32.ofInt_sub]
  rw [e0]
  refine r_icmp_gt (tgt := 2134) G dL_law_34 (by decide) (fun h => h1 ?_) (fun h => h2 ?_)
  · have := (wi_lt (by omega) (by omega)).mp h
    omega
  · have : ¬ ((L : Int) - 5 < 5 * (n : Int)) := fun q => h ((wi_lt (by omega) (by omega)).mpr q)
    omega
theorem law_loop (l : Launch) (hst : l.stackTraces = false) {p : Program} {e : Env} {s : State} {m : MethodId} {below : List Frame} {meth : Method} {c : Code} {D : va_G} {aC : Nat → ClassId} {a1 a2 : Nat → Nat} {ao aD b L : Nat} {xs : Nat → Int32} {Q : State → Prop} (G : lG p s m #[.ref b] meth c cL_law RL 9 D aC (lA s)) (hTh : wTh (lA s) s s.heap) (hNo : wNo s) (hX : va_X b L xs s s.heap) (hbl : b < s.heap.size) (hL : L ≤ 2560) (hend : ∀ (n : Nat) (ws : va_W), 5 * n ≤ L → JR p l e room_1 s m #[.ref b] below meth c 9 D (lA s) Q (100 + 5 * n) (3000 + 30 * n) (ws) 2134 (lL b (a1 0) (a2 40) ao aD (5 * (n : Int))) []) : ∀ (k n : Nat), L ≤ 5 * n + 5 * k → 5 * n ≤ L → ∀ (z y y' : wZ) (fo : Nat → Int64) (go : Nat → UInt64), LI n z y y' → JR p l e room_1 s m #[.ref b] below meth c 9 D (lA s) Q (100 + 5 * n) (3000 + 30 * n) (lW aC a1 a2 ao aD fo go (zc z y) (zc z y')) 28 (lL b (a1 0) (a2 40) ao aD (5 * (n : Int))) [] := by
  intro k
  induction k with
  | zero =>
    intro n h1 h2 z y y' fo go hI
    exact law_head l hst G hTh hNo hX hbl hL (fun _ => hend n _ h2) (fun h => absurd h (by omega)) h2
  | succ k ih =>
    intro n h1 h2 z y y' fo go hI
    refine law_head l hst G hTh hNo hX hbl hL (fun _ => hend n _ h2) (fun h => ?_) h2
    refine law_step l hst G hTh hNo hX hbl hL hI h (fun z2 y2 y3 fo go hI2 => ?_)
    refine r_iinc (v := Int32.ofInt (5 * ((n + 1 : Nat) : Int))) (Lv' := [(5, vi (5 * ((n + 1 : Nat) : Int))), (0, .ref b), (1, .ref (a1 0)), (2, .ref (a2 40)), (3, .ref ao), (4, .ref aD)]) G 5 dL_law_2128 rfl (by rw [← Int32.ofInt_add]; congr 1) (by decide) rfl ?_
    refine r_goto (tgt := 28) G dL_law_2131 (by decide) ?_
    refine r_sub (Lv' := lL b (a1 0) (a2 40) ao aD (5 * ((n + 1 : Nat) : Int))) [1, 2, 3, 4, 5, 0] rfl ?_
    refine r_widen (100 + 5 * (n + 1)) (3000 + 30 * (n + 1)) (by omega) (by omega) ?_
    exact ih (n + 1) (by omega) (by omega) z2 y2 y3 fo go hI2
