/-! THE LAW: its world, its script, the steps of its invariant -/
section LAWS
theorem m_isGone_v (l : Launch) {D : va_G} {aC : Nat → ClassId} {ad : Nat → Nat} (hd : wDi ad shM) {z y : wZ} (hR : Rng z) (hY : Rng y) (t : Int) (ht : -2147483648 ≤ t ∧ t ≤ 2147483647) (v : Int) (hv : v = 0 ∨ v = 1) : cYi l D aC ad shM yX8_isGone cX8_isGone 3 (.boolean) (rmL 2) [.ref (ad 40), vi t, vi v] z y (fun r_ y2 => y2 71 0 = kcT z t ∧ (kcT z t = 0 → r_ = z (vb v) t) ∧ Rng y2 ∧ ∀ k', k' ≠ 70 → k' ≠ 71 → y2 k' = y k') := by
  rcases hv with rfl | rfl
  · rw [vb_0]; exact m_isGone_0 l hd hR hY t ht
  · rw [vb_1]; exact m_isGone_1 l hd hR hY t ht
theorem m_minutes_v (l : Launch) {D : va_G} {aC : Nat → ClassId} {ad : Nat → Nat} (hd : wDi ad shM) {z y : wZ} (hR : Rng z) (hY : Rng y) (a : Int) (b : Int) (ha : -2147483648 ≤ a ∧ a ≤ 2147483647) (hb : -2147483648 ≤ b ∧ b ≤ 2147483647) (hF : WF z) (v : Int) (hv : v = 0 ∨ v = 1) : cYi l D aC ad shM yX8_minutes cX8_minutes 5 (.int) (rmL 3) [.ref (ad 40), vi a, vi b, vi v] z y (fun r_ y2 => y2 71 0 = kcMn z (vb v) a b ∧ (kcMn z (vb v) a b = 0 → r_ = ds z (vb v) a b) ∧ Rng y2 ∧ ∀ k', k' ≠ 70 → k' ≠ 71 → y2 k' = y k') := by
  rcases hv with rfl | rfl
  · rw [vb_0]; exact m_minutes_0 l hd hR hY a b ha hb hF
  · rw [vb_1]; exact m_minutes_1 l hd hR hY a b ha hb hF
theorem m_danger_v (l : Launch) {D : va_G} {aC : Nat → ClassId} {ad : Nat → Nat} (hd : wDi ad shM) {z y : wZ} (hR : Rng z) (hY : Rng y) (b : Int) (hb : -2147483648 ≤ b ∧ b ≤ 2147483647) (hF : WF z) (v : Int) (hv : v = 0 ∨ v = 1) : cYi l D aC ad shM yX8_danger cX8_danger 3 (.int) (rmL 4) [.ref (ad 40), vi b, vi v] z y (fun r_ y2 => y2 71 0 = kcB z b ∧ (kcB z b = 0 → r_ = dgC z (vb v) (ds z (vb v)) b) ∧ Rng y2 ∧ ∀ k', k' ≠ 70 → k' ≠ 71 → y2 k' = y k') := by
  rcases hv with rfl | rfl
  · rw [vb_0]; exact m_danger_0 l hd hR hY b hb hF
  · rw [vb_1]; exact m_danger_1 l hd hR hY b hb hF
theorem m_unsafe_v (l : Launch) {D : va_G} {aC : Nat → ClassId} {ad : Nat → Nat} (hd : wDi ad shM) {z y : wZ} (hR : Rng z) (hY : Rng y) (hF : WF z) (v : Int) (hv : v = 0 ∨ v = 1) : cYi l D aC ad shM yX8_unsafe cX8_unsafe 4 (.int) (rmL 4) [.ref (ad 40), vi v] z y (fun r_ y2 => r_ = unL z (vb v) (z 2 0).toNat 0 0 ∧ Rng y2 ∧ ∀ k', k' ≠ 70 → k' ≠ 71 → y2 k' = y k') := by
  rcases hv with rfl | rfl
  · rw [vb_0]; exact m_unsafe_0 l hd hR hY hF
  · rw [vb_1]; exact m_unsafe_1 l hd hR hY hF
theorem c_unsafe_v (l : Launch) {D : va_G} {aC : Nat → ClassId} {ad : Nat → Nat} (hd : wDi ad shC) {z y : wZ} (hR : Rng z) (hY : Rng y) (hI_z_y : CW z y) (v : Int) (hv : v = 0 ∨ v = 1) : cE l D aC ad shC yX7_unsafe cX7_unsafe 4 (.int) (rmL 3) [.ref (ad 0), vi v] z y (unL z (vb v) (z 2 0).toNat 0 0) := by
  rcases hv with rfl | rfl
  · rw [vb_0]; exact c_unsafe_0 l hd hR hY hI_z_y
  · rw [vb_1]; exact c_unsafe_1 l hd hR hY hI_z_y
/-- the law's world: out, the class's cells, outD, the model's cells -/
abbrev lW (aC : Nat → ClassId) (a1 a2 : Nat → Nat) (ao aD : Nat) (fo : Nat → Int64) (go : Nat → UInt64) (u v : wZ) : va_W := [(ao, oL aC fo)] ++ (wd aC a1 shC u ++ ([(aD, oD aC go)] ++ (wd aC a2 shM v ++ [])))
theorem lW_L (aC : Nat → ClassId) (a1 a2 : Nat → Nat) (ao aD : Nat) (fo : Nat → Int64) (go : Nat → UInt64) (u v : wZ) : lW aC a1 a2 ao aD fo go u v = [] ++ (([(ao, oL aC fo)] ++ (wd aC a1 shC u ++ [])) ++ ([(aD, oD aC go)] ++ (wd aC a2 shM v ++ []))) := by
  simp only [lW, List.append_assoc, List.append_nil, List.nil_append, List.cons_append]
theorem lW_D (aC : Nat → ClassId) (a1 a2 : Nat → Nat) (ao aD : Nat) (fo : Nat → Int64) (go : Nat → UInt64) (u v : wZ) : lW aC a1 a2 ao aD fo go u v = [(ao, oL aC fo)] ++ ((wd aC a1 shC u ++ [(aD, oD aC go)]) ++ (wd aC a2 shM v ++ [])) := by
  simp only [lW, List.append_assoc, List.append_nil, List.nil_append, List.cons_append]
theorem lW_M (aC : Nat → ClassId) (a1 a2 : Nat → Nat) (ao aD : Nat) (fo : Nat → Int64) (go : Nat → UInt64) (u v : wZ) : lW aC a1 a2 ao aD fo go u v = ([(ao, oL aC fo)] ++ (wd aC a1 shC u ++ [(aD, oD aC go)])) ++ (wd aC a2 shM v ++ []) := by
  simp only [lW, List.append_assoc, List.append_nil, List.nil_append, List.cons_append]
abbrev lL (b ax am ao aD : Nat) (i : Int) : List (Nat × Value) := [(0, .ref b), (1, .ref ax), (2, .ref am), (3, .ref ao), (4, .ref aD), (5, vi i)]
/-- all that is new since the law began -/
abbrev lA (s : State) : Nat → Prop := fun q : Nat => s.heap.size ≤ q
theorem sx_ex (x : Int32) : ∃ a : Int, x = Int32.ofInt a ∧ (-2147483648 ≤ a ∧ a ≤ 2147483647) := ⟨x.toInt, (Int32.ofInt_toInt x).symm, by have h1 := Int32.le_toInt x; have h2 := Int32.toInt_lt x; omega⟩
theorem sc_ex (x : Int32) : ∃ a : Int, (x.toUInt32 % 65536).toInt32 = Int32.ofInt a ∧ (0 ≤ a ∧ a ≤ 65535) := by
  refine ⟨((x.toUInt32 % 65536).toNat : Int), ?_, ?_⟩
  · rw [Int32.ofInt_eq_ofNat]
    apply Int32.toBitVec.inj
    simp [UInt32.toBitVec_toInt32]
    apply BitVec.eq_of_toNat_eq
    have h1 : x.toUInt32.toNat % 65536 < 65536 := Nat.mod_lt _ (by decide)
    rw [BitVec.toNat_umod, BitVec.toNat_ofNat, BitVec.toNat_ofNat, Nat.mod_eq_of_lt (show x.toUInt32.toNat % 65536 < 2 ^ 32 by omega)]
    rfl
  · have : (x.toUInt32 % 65536).toNat < 65536 := by
      rw [UInt32.toNat_mod]
      exact Nat.mod_lt _ (by decide)
    omega
theorem bz_r (x : Int) : -2147483648 ≤ bz x ∧ bz x ≤ 2147483647 := by rcases bz_01 x with h | h <;> omega
/-! the invariant goes on -/
theorem LI_q {n : Nat} {z y y' y3 : wZ} (h : LI n z y y') (hy : Rng y3) (hk : ∀ k', k' ≠ 70 → k' ≠ 71 → y3 k' = y' k') : LI (n + 1) z y y3 :=
  ⟨h.1, h.2.1, hy, h.2.2.2.1, MI_y h.2.2.2.2.1 (hk 72 (by decide) (by decide)), by have := h.2.2.2.2.2.1; push_cast; omega, h.2.2.2.2.2.2⟩
theorem LI_m {n : Nat} {z y y' z2 y2 y3 : wZ} (h : LI n z y y') (hz : Rng z2) (hy : Rng y2) (hy3 : Rng y3) (hc : CW z2 y2) (hm : MI z2 y3) (h6 : z2 6 0 ≤ z 6 0 + 99) (h29 : z2 29 = z 29) (h7 : z2 7 = z 7) : LI (n + 1) z2 y2 y3 :=
  ⟨hz, hy, hy3, hc, hm, by have := h.2.2.2.2.2.1; push_cast; omega, by rw [h29, h7]; exact h.2.2.2.2.2.2⟩
theorem LI_u {n : Nat} {z y y' z2 y2 y3 : wZ} (h : LI n z y y') (hz : Rng z2) (hy : Rng y2) (hy3 : Rng y3) (hc : CW z2 y2) (hk : ∀ k', k' ≠ 70 → k' ≠ 71 → y3 k' = y' k') (h6 : z2 6 0 ≤ z 6 0 + 99) (h29 : z2 29 = z 29) (h7 : z2 7 = z 7) (h32 : z2 32 = z 32) : LI (n + 1) z2 y2 y3 :=
  LI_m h hz hy hy3 hc (MI_y (MI_z h.2.2.2.2.1 h32) (hk 72 (by decide) (by decide))) h6 h29 h7
theorem LafF_k (z : wZ) (v : Int) {k : Nat} (h : k ≠ 10 ∧ k ≠ 0) : afF z v k = z k := by unfold afF; rw [zp_nk _ h.2, zp_nk _ h.1]
theorem LjnF_k (z : wZ) (a b f r : Int) {k : Nat} (h : k ≠ 1 ∧ k ≠ 11 ∧ k ≠ 12 ∧ k ≠ 13 ∧ k ≠ 14) : jnF z a b f r k = z k := by unfold jnF; rw [zp_nk _ h.2.2.2.2, zp_nk _ h.2.2.2.1, zp_nk _ h.2.2.1, zp_nk _ h.2.1, zp_nk _ h.1]
theorem LmkF_k (z : wZ) (a b d : Int) {k : Nat} (h : k ≠ 3 ∧ k ≠ 23 ∧ k ≠ 24 ∧ k ≠ 25 ∧ k ≠ 26) : mkF z a b d k = z k := by unfold mkF; rw [zp_nk _ h.2.2.2.2, zp_nk _ h.2.2.2.1, zp_nk _ h.2.2.1, zp_nk _ h.2.1, zp_nk _ h.1]
theorem LenlF_k (z : wZ) (a b : Int) {k : Nat} (h : k ≠ 4 ∧ k ≠ 27 ∧ k ≠ 28) : enlF z a b k = z k := by unfold enlF; rw [zp_nk _ h.2.2, zp_nk _ h.2.1, zp_nk _ h.1]
theorem LdrwF_k (z : wZ) (d : Int) {k : Nat} (h : k ≠ 5 ∧ k ≠ 30 ∧ k ≠ 31) : drwF z d k = z k := by unfold drwF; rw [drwL_1 _ _ _ _ _ h.2.1, zp_nk _ h.2.2, zp_nk _ h.1]
theorem LrpF_k (z : wZ) (a b d : Int) {k : Nat} (h : k ≠ 16 ∧ k ≠ 32) : rpF z a b d k = z k := by unfold rpF ntF'; rw [zp_nk _ h.1, zp_nk _ h.2]
theorem cuF_6 (z : wZ) (f q : Int) : cuF z f q 6 0 = z 6 0 - 1 := by rw [← mcF_cu, zp_nk _ (by decide), mcF_eq, zp_same]
variable {p : Program} {l : Launch} {e : Env} {R : Room} {s : State} {m : MethodId} {args : Array Value} {below : List Frame} {meth : Method} {c : Code} {cc : ByteArray} {own : String} {nL : Nat} {D : va_G} {aC : Nat → ClassId} {ad : Nat → Nat} {A : Nat → Prop} {Q : State → Prop} {cells slots : Nat} {ws w0 w2 : va_W} {pc : Nat} {Lv : List (Nat × Value)} {st : List Value}
theorem r_ws {ws' : va_W} (h : ws = ws') (k : JR p l e R s m args below meth c nL D A Q cells slots ws' pc Lv st) : JR p l e R s m args below meth c nL D A Q cells slots ws pc Lv st := by rw [h]; exact k
/-- the script's int at 5n + j -/
theorem r_scr (G : lG p s m args meth c cc own nL D aC (lA s)) {b L : Nat} {xs : Nat → Int32} (hX : va_X b L xs s s.heap) (hbl : b < s.heap.size) {n jn : Nat} {j x : Int} (hj : j = (jn : Int)) (hjn : 5 * n + jn < L) (hL : L ≤ 2560) (e1 : xs (5 * n + jn) = Int32.ofInt x) (k0 k5 : Nat) (h0 : Lv[k0]? = some (0, .ref b)) (h5 : Lv[k5]? = some (5, vi (5 * (n : Int))))
    (d0 : decode cc pc = .ok (.aload_n 0, 1)) (d1 : decode cc (pc + 1) = .ok (.iload 5, 2)) (d2 : decode cc (pc + 3) = .ok (.iconst j, 1)) (d3 : decode cc (pc + 4) = .ok (.iadd, 1)) (d4 : decode cc (pc + 5) = .ok (.iaload, 1)) (k : JR p l e R s m args below meth c nL D (lA s) Q cells slots ws (pc + 6) Lv (vi x :: st)) : JR p l e R s m args below meth c nL D (lA s) Q cells slots ws pc Lv st := by
  refine r_aload_n G k0 d0 h0 (r_iload G k5 d1 h5 (r_iconst G d2 (r_iadd G d3 (fun H locs ls hP hD hS hl => ?_))))
  have e0 : Int32.ofInt (5 * (n : Int)) + Int32.ofInt j = Int32.ofInt ((5 * n + jn : Nat) : Int) := by
    rw [← Int32.ofInt_add, hj]
    congr 1
  rw [e0]
  refine va_sld G.1 G.2.1 hX hbl (Nat.not_le.mpr hbl) hS (wi_in (by omega) (by omega) (by omega)) d4 ?_
  rw [wi_cl (by omega) (by omega), Int.toNat_natCast, e1]
  exact k H locs ls hP hD hS hl
theorem r_scr0 (G : lG p s m args meth c cc own nL D aC (lA s)) {b L : Nat} {xs : Nat → Int32} (hX : va_X b L xs s s.heap) (hbl : b < s.heap.size) {n : Nat} (hn : 5 * n < L) (hL : L ≤ 2560) (k0 k5 : Nat) (h0 : Lv[k0]? = some (0, .ref b)) (h5 : Lv[k5]? = some (5, vi (5 * (n : Int))))
    (d0 : decode cc pc = .ok (.aload_n 0, 1)) (d1 : decode cc (pc + 1) = .ok (.iload 5, 2)) (d4 : decode cc (pc + 3) = .ok (.iaload, 1)) (k : JR p l e R s m args below meth c nL D (lA s) Q cells slots ws (pc + 4) Lv (.int (xs (5 * n)) :: st)) : JR p l e R s m args below meth c nL D (lA s) Q cells slots ws pc Lv st := by
  refine r_aload_n G k0 d0 h0 (r_iload G k5 d1 h5 (fun H locs ls hP hD hS hl => ?_))
  refine va_sld G.1 G.2.1 hX hbl (Nat.not_le.mpr hbl) hS (wi_in (by omega) (by omega) (by omega)) d4 ?_
  rw [wi_cl (by omega) (by omega), show (5 * (n : Int)).toNat = 5 * n by omega]
  exact k H locs ls hP hD hS hl
end LAWS
/-! the words of the calls of the law -/
theorem KW_addFork : wCW RL 124 yL_addFork cL_addFork 4 [(0, 9, 12, 13)] 3 := ⟨⟨ml_L_124, sm_L_addFork, in_L, co_L_addFork⟩, by decide +kernel, by decide +kernel, by decide +kernel⟩
theorem KM_addFork : wCV RL 129 RX8 yX8_addFork cX8_addFork 2 (Option.some Jvm.ClassFile.FieldType.int) 1 := ⟨⟨ml_L_129, im_X8_addFork, se_X8_addFork, in_X8, co_X8_addFork⟩, rfl, by decide +kernel, by decide +kernel, by decide +kernel⟩
theorem KM_thrown : wCV RL 130 RX8 yX8_thrown cX8_thrown 1 (Option.some Jvm.ClassFile.FieldType.int) 0 := ⟨⟨ml_L_130, im_X8_thrown, se_X8_thrown, in_X8, co_X8_thrown⟩, rfl, by decide +kernel, by decide +kernel, by decide +kernel⟩
theorem KW_addTrail : wCW RL 133 yL_addTrail cL_addTrail 7 [(0, 14, 17, 19), (0, 14, 21, 21), (0, 14, 25, 13)] 6 := ⟨⟨ml_L_133, sm_L_addTrail, in_L, co_L_addTrail⟩, by decide +kernel, by decide +kernel, by decide +kernel⟩
theorem KM_addTrail : wCV RL 136 RX8 yX8_addTrail cX8_addTrail 5 (Option.some Jvm.ClassFile.FieldType.int) 4 := ⟨⟨ml_L_136, im_X8_addTrail, se_X8_addTrail, in_X8, co_X8_addTrail⟩, rfl, by decide +kernel, by decide +kernel, by decide +kernel⟩
theorem KW_washOut : wCW RL 137 yL_washOut cL_washOut 4 [(0, 16, 19, 19)] 3 := ⟨⟨ml_L_137, sm_L_washOut, in_L, co_L_washOut⟩, by decide +kernel, by decide +kernel, by decide +kernel⟩
theorem KM_washOut : wCV RL 140 RX8 yX8_washOut cX8_washOut 3 (Option.some Jvm.ClassFile.FieldType.boolean) 1 := ⟨⟨ml_L_140, im_X8_washOut, se_X8_washOut, in_X8, co_X8_washOut⟩, rfl, by decide +kernel, by decide +kernel, by decide +kernel⟩
theorem KW_isGone : wCW RL 141 yL_isGone cL_isGone 5 [(0, 17, 20, 19)] 4 := ⟨⟨ml_L_141, sm_L_isGone, in_L, co_L_isGone⟩, by decide +kernel, by decide +kernel, by decide +kernel⟩
theorem KM_isGone : wCV RL 144 RX8 yX8_isGone cX8_isGone 3 (Option.some Jvm.ClassFile.FieldType.boolean) 2 := ⟨⟨ml_L_144, im_X8_isGone, se_X8_isGone, in_X8, co_X8_isGone⟩, rfl, by decide +kernel, by decide +kernel, by decide +kernel⟩
theorem KW_minutes : wCW RL 145 yL_minutes cL_minutes 6 [(0, 12, 15, 19), (0, 12, 19, 35)] 5 := ⟨⟨ml_L_145, sm_L_minutes, in_L, co_L_minutes⟩, by decide +kernel, by decide +kernel, by decide +kernel⟩
theorem KM_minutes : wCV RL 148 RX8 yX8_minutes cX8_minutes 5 (Option.some Jvm.ClassFile.FieldType.int) 3 := ⟨⟨ml_L_148, im_X8_minutes, se_X8_minutes, in_X8, co_X8_minutes⟩, rfl, by decide +kernel, by decide +kernel, by decide +kernel⟩
theorem KW_firstTrail : wCW RL 149 yL_firstTrail cL_firstTrail 5 [(0, 10, 13, 19), (0, 10, 17, 35)] 4 := ⟨⟨ml_L_149, sm_L_firstTrail, in_L, co_L_firstTrail⟩, by decide +kernel, by decide +kernel, by decide +kernel⟩
theorem KM_firstTrail : wCV RL 152 RX8 yX8_firstTrail cX8_firstTrail 4 (Option.some Jvm.ClassFile.FieldType.int) 2 := ⟨⟨ml_L_152, im_X8_firstTrail, se_X8_firstTrail, in_X8, co_X8_firstTrail⟩, rfl, by decide +kernel, by decide +kernel, by decide +kernel⟩
theorem KW_addWood : wCW RL 153 yL_addWood cL_addWood 4 [(0, 9, 12, 21)] 3 := ⟨⟨ml_L_153, sm_L_addWood, in_L, co_L_addWood⟩, by decide +kernel, by decide +kernel, by decide +kernel⟩
theorem KM_addWood : wCV RL 155 RX8 yX8_addWood cX8_addWood 2 (Option.some Jvm.ClassFile.FieldType.int) 1 := ⟨⟨ml_L_155, im_X8_addWood, se_X8_addWood, in_X8, co_X8_addWood⟩, rfl, by decide +kernel, by decide +kernel, by decide +kernel⟩
theorem KW_cut : wCW RL 156 yL_cut cL_cut 5 [(0, 10, 13, 19), (0, 10, 17, 21), (0, 10, 21, 35), (0, 10, 25, 48), (0, 10, 29, 13)] 4 := ⟨⟨ml_L_156, sm_L_cut, in_L, co_L_cut⟩, by decide +kernel, by decide +kernel, by decide +kernel⟩
theorem KM_cut : wCV RL 158 RX8 yX8_cut cX8_cut 3 (Option.some Jvm.ClassFile.FieldType.int) 2 := ⟨⟨ml_L_158, im_X8_cut, se_X8_cut, in_X8, co_X8_cut⟩, rfl, by decide +kernel, by decide +kernel, by decide +kernel⟩
theorem KW_trailOf : wCW RL 159 yL_trailOf cL_trailOf 4 [(0, 9, 12, 19)] 3 := ⟨⟨ml_L_159, sm_L_trailOf, in_L, co_L_trailOf⟩, by decide +kernel, by decide +kernel, by decide +kernel⟩
theorem KM_trailOf : wCV RL 161 RX8 yX8_trailOf cX8_trailOf 2 (Option.some Jvm.ClassFile.FieldType.int) 1 := ⟨⟨ml_L_161, im_X8_trailOf, se_X8_trailOf, in_X8, co_X8_trailOf⟩, rfl, by decide +kernel, by decide +kernel, by decide +kernel⟩
theorem KW_told : wCW RL 162 yL_told cL_told 4 [(0, 9, 12, 19)] 3 := ⟨⟨ml_L_162, sm_L_told, in_L, co_L_told⟩, by decide +kernel, by decide +kernel, by decide +kernel⟩
theorem KM_told : wCV RL 164 RX8 yX8_told cX8_told 2 (Option.some Jvm.ClassFile.FieldType.int) 1 := ⟨⟨ml_L_164, im_X8_told, se_X8_told, in_X8, co_X8_told⟩, rfl, by decide +kernel, by decide +kernel, by decide +kernel⟩
theorem KW_isCovered : wCW RL 165 yL_isCovered cL_isCovered 4 [(0, 16, 19, 19)] 3 := ⟨⟨ml_L_165, sm_L_isCovered, in_L, co_L_isCovered⟩, by decide +kernel, by decide +kernel, by decide +kernel⟩
theorem KM_isCovered : wCV RL 167 RX8 yX8_isCovered cX8_isCovered 2 (Option.some Jvm.ClassFile.FieldType.boolean) 1 := ⟨⟨ml_L_167, im_X8_isCovered, se_X8_isCovered, in_X8, co_X8_isCovered⟩, rfl, by decide +kernel, by decide +kernel, by decide +kernel⟩
theorem KW_danger : wCW RL 168 yL_danger cL_danger 5 [(0, 10, 13, 19)] 4 := ⟨⟨ml_L_168, sm_L_danger, in_L, co_L_danger⟩, by decide +kernel, by decide +kernel, by decide +kernel⟩
theorem KM_danger : wCV RL 170 RX8 yX8_danger cX8_danger 3 (Option.some Jvm.ClassFile.FieldType.int) 2 := ⟨⟨ml_L_170, im_X8_danger, se_X8_danger, in_X8, co_X8_danger⟩, rfl, by decide +kernel, by decide +kernel, by decide +kernel⟩
theorem KD_unsafe : wCV RL 171 RX7 yX7_unsafe cX7_unsafe 4 (Option.some Jvm.ClassFile.FieldType.int) 1 := ⟨⟨ml_L_171, im_X7_unsafe, se_X7_unsafe, in_X7, co_X7_unsafe⟩, rfl, by decide +kernel, by decide +kernel, by decide +kernel⟩
theorem KM_unsafe : wCV RL 174 RX8 yX8_unsafe cX8_unsafe 4 (Option.some Jvm.ClassFile.FieldType.int) 1 := ⟨⟨ml_L_174, im_X8_unsafe, se_X8_unsafe, in_X8, co_X8_unsafe⟩, rfl, by decide +kernel, by decide +kernel, by decide +kernel⟩
theorem KW_report : wCW RL 175 yL_report cL_report 6 [(0, 19, 22, 21), (0, 19, 26, 19)] 5 := ⟨⟨ml_L_175, sm_L_report, in_L, co_L_report⟩, by decide +kernel, by decide +kernel, by decide +kernel⟩
theorem KM_report : wCV RL 177 RX8 yX8_report cX8_report 8 (Option.some Jvm.ClassFile.FieldType.boolean) 3 := ⟨⟨ml_L_177, im_X8_report, se_X8_report, in_X8, co_X8_report⟩, rfl, by decide +kernel, by decide +kernel, by decide +kernel⟩
theorem KW_trust : wCW RL 178 yL_trust cL_trust 4 [(0, 9, 12, 21)] 3 := ⟨⟨ml_L_178, sm_L_trust, in_L, co_L_trust⟩, by decide +kernel, by decide +kernel, by decide +kernel⟩
theorem KM_trust : wCV RL 180 RX8 yX8_trust cX8_trust 2 (Option.some Jvm.ClassFile.FieldType.int) 1 := ⟨⟨ml_L_180, im_X8_trust, se_X8_trust, in_X8, co_X8_trust⟩, rfl, by decide +kernel, by decide +kernel, by decide +kernel⟩
theorem KW_reports : wCW RL 181 yL_reports cL_reports 4 [(0, 9, 12, 19)] 3 := ⟨⟨ml_L_181, sm_L_reports, in_L, co_L_reports⟩, by decide +kernel, by decide +kernel, by decide +kernel⟩
theorem KM_reports : wCV RL 183 RX8 yX8_reports cX8_reports 4 (Option.some Jvm.ClassFile.FieldType.int) 1 := ⟨⟨ml_L_183, im_X8_reports, se_X8_reports, in_X8, co_X8_reports⟩, rfl, by decide +kernel, by decide +kernel, by decide +kernel⟩
theorem KW_addTask : wCW RL 184 yL_addTask cL_addTask 6 [(0, 12, 15, 21), (0, 12, 19, 19), (0, 12, 23, 13)] 5 := ⟨⟨ml_L_184, sm_L_addTask, in_L, co_L_addTask⟩, by decide +kernel, by decide +kernel, by decide +kernel⟩
theorem KM_addTask : wCV RL 187 RX8 yX8_addTask cX8_addTask 4 (Option.some Jvm.ClassFile.FieldType.int) 3 := ⟨⟨ml_L_187, im_X8_addTask, se_X8_addTask, in_X8, co_X8_addTask⟩, rfl, by decide +kernel, by decide +kernel, by decide +kernel⟩
theorem KD_plan : wCV RL 188 RX7 yX7_plan cX7_plan 4 (Option.some Jvm.ClassFile.FieldType.int) 0 := ⟨⟨ml_L_188, im_X7_plan, se_X7_plan, in_X7, co_X7_plan⟩, rfl, by decide +kernel, by decide +kernel, by decide +kernel⟩
theorem KM_plan : wCV RL 191 RX8 yX8_plan cX8_plan 6 (Option.some Jvm.ClassFile.FieldType.int) 0 := ⟨⟨ml_L_191, im_X8_plan, se_X8_plan, in_X8, co_X8_plan⟩, rfl, by decide +kernel, by decide +kernel, by decide +kernel⟩
theorem KW_kindOf : wCW RL 192 yL_kindOf cL_kindOf 4 [(0, 9, 12, 19)] 3 := ⟨⟨ml_L_192, sm_L_kindOf, in_L, co_L_kindOf⟩, by decide +kernel, by decide +kernel, by decide +kernel⟩
theorem KM_kindOf : wCV RL 194 RX8 yX8_kindOf cX8_kindOf 2 (Option.some Jvm.ClassFile.FieldType.char) 1 := ⟨⟨ml_L_194, im_X8_kindOf, se_X8_kindOf, in_X8, co_X8_kindOf⟩, rfl, by decide +kernel, by decide +kernel, by decide +kernel⟩
theorem KW_numberOf : wCW RL 195 yL_numberOf cL_numberOf 4 [(0, 9, 12, 19)] 3 := ⟨⟨ml_L_195, sm_L_numberOf, in_L, co_L_numberOf⟩, by decide +kernel, by decide +kernel, by decide +kernel⟩
theorem KM_numberOf : wCV RL 197 RX8 yX8_numberOf cX8_numberOf 2 (Option.some Jvm.ClassFile.FieldType.int) 1 := ⟨⟨ml_L_197, im_X8_numberOf, se_X8_numberOf, in_X8, co_X8_numberOf⟩, rfl, by decide +kernel, by decide +kernel, by decide +kernel⟩
theorem KW_doneBy : wCW RL 198 yL_doneBy cL_doneBy 4 [(0, 9, 12, 19), (0, 9, 15, 35)] 3 := ⟨⟨ml_L_198, sm_L_doneBy, in_L, co_L_doneBy⟩, by decide +kernel, by decide +kernel, by decide +kernel⟩
theorem KM_doneBy : wCV RL 200 RX8 yX8_doneBy cX8_doneBy 2 (Option.some Jvm.ClassFile.FieldType.int) 1 := ⟨⟨ml_L_200, im_X8_doneBy, se_X8_doneBy, in_X8, co_X8_doneBy⟩, rfl, by decide +kernel, by decide +kernel, by decide +kernel⟩
theorem KD_openTasks : wCV RL 201 RX7 yX7_openTasks cX7_openTasks 3 (Option.some Jvm.ClassFile.FieldType.int) 0 := ⟨⟨ml_L_201, im_X7_openTasks, se_X7_openTasks, in_X7, co_X7_openTasks⟩, rfl, by decide +kernel, by decide +kernel, by decide +kernel⟩
theorem KM_openTasks : wCV RL 204 RX8 yX8_openTasks cX8_openTasks 3 (Option.some Jvm.ClassFile.FieldType.int) 0 := ⟨⟨ml_L_204, im_X8_openTasks, se_X8_openTasks, in_X8, co_X8_openTasks⟩, rfl, by decide +kernel, by decide +kernel, by decide +kernel⟩
theorem KW_addRanger : wCW RL 205 yL_addRanger cL_addRanger 5 [(0, 10, 13, 19), (0, 10, 17, 21), (0, 10, 21, 13)] 4 := ⟨⟨ml_L_205, sm_L_addRanger, in_L, co_L_addRanger⟩, by decide +kernel, by decide +kernel, by decide +kernel⟩
theorem KM_addRanger : wCV RL 207 RX8 yX8_addRanger cX8_addRanger 3 (Option.some Jvm.ClassFile.FieldType.int) 2 := ⟨⟨ml_L_207, im_X8_addRanger, se_X8_addRanger, in_X8, co_X8_addRanger⟩, rfl, by decide +kernel, by decide +kernel, by decide +kernel⟩
theorem KW_forkOf : wCW RL 208 yL_forkOf cL_forkOf 4 [(0, 9, 12, 19)] 3 := ⟨⟨ml_L_208, sm_L_forkOf, in_L, co_L_forkOf⟩, by decide +kernel, by decide +kernel, by decide +kernel⟩
theorem KM_forkOf : wCV RL 210 RX8 yX8_forkOf cX8_forkOf 2 (Option.some Jvm.ClassFile.FieldType.int) 1 := ⟨⟨ml_L_210, im_X8_forkOf, se_X8_forkOf, in_X8, co_X8_forkOf⟩, rfl, by decide +kernel, by decide +kernel, by decide +kernel⟩
theorem KW_worked : wCW RL 211 yL_worked cL_worked 4 [(0, 9, 12, 19)] 3 := ⟨⟨ml_L_211, sm_L_worked, in_L, co_L_worked⟩, by decide +kernel, by decide +kernel, by decide +kernel⟩
theorem KM_worked : wCV RL 213 RX8 yX8_worked cX8_worked 2 (Option.some Jvm.ClassFile.FieldType.int) 1 := ⟨⟨ml_L_213, im_X8_worked, se_X8_worked, in_X8, co_X8_worked⟩, rfl, by decide +kernel, by decide +kernel, by decide +kernel⟩
theorem KW_day : wCW RL 214 yL_day cL_day 3 [(0, 8, 11, 13)] 2 := ⟨⟨ml_L_214, sm_L_day, in_L, co_L_day⟩, by decide +kernel, by decide +kernel, by decide +kernel⟩
theorem KM_day : wCV RL 217 RX8 yX8_day cX8_day 4 (Option.some Jvm.ClassFile.FieldType.int) 0 := ⟨⟨ml_L_217, im_X8_day, se_X8_day, in_X8, co_X8_day⟩, rfl, by decide +kernel, by decide +kernel, by decide +kernel⟩
theorem KW_print : wCW RL 218 yL_print cL_print 3 [(0, 8, 11, 13)] 2 := ⟨⟨ml_L_218, sm_L_print, in_L, co_L_print⟩, by decide +kernel, by decide +kernel, by decide +kernel⟩
theorem KM_print : wCV RL 220 RX8 yX8_print cX8_print 2 (Option.some Jvm.ClassFile.FieldType.int) 0 := ⟨⟨ml_L_220, im_X8_print, se_X8_print, in_X8, co_X8_print⟩, rfl, by decide +kernel, by decide +kernel, by decide +kernel⟩
theorem KW_shows : wCW RL 221 yL_shows cL_shows 5 [(0, 17, 20, 19)] 4 := ⟨⟨ml_L_221, sm_L_shows, in_L, co_L_shows⟩, by decide +kernel, by decide +kernel, by decide +kernel⟩
theorem KM_shows : wCV RL 223 RX8 yX8_shows cX8_shows 3 (Option.some Jvm.ClassFile.FieldType.boolean) 2 := ⟨⟨ml_L_223, im_X8_shows, se_X8_shows, in_X8, co_X8_shows⟩, rfl, by decide +kernel, by decide +kernel, by decide +kernel⟩
theorem KW_age : wCW RL 224 yL_age cL_age 4 [(0, 9, 12, 19)] 3 := ⟨⟨ml_L_224, sm_L_age, in_L, co_L_age⟩, by decide +kernel, by decide +kernel, by decide +kernel⟩
theorem KM_age : wCV RL 226 RX8 yX8_age cX8_age 2 (Option.some Jvm.ClassFile.FieldType.int) 1 := ⟨⟨ml_L_226, im_X8_age, se_X8_age, in_X8, co_X8_age⟩, rfl, by decide +kernel, by decide +kernel, by decide +kernel⟩
theorem KW_knownShare : wCW RL 227 yL_knownShare cL_knownShare 3 [(0, 8, 11, 114)] 2 := ⟨⟨ml_L_227, sm_L_knownShare, in_L, co_L_knownShare⟩, by decide +kernel, by decide +kernel, by decide +kernel⟩
theorem KM_knownShare : wCV RL 230 RX8 yX8_knownShare cX8_knownShare 3 (Option.some Jvm.ClassFile.FieldType.float) 0 := ⟨⟨ml_L_230, im_X8_knownShare, se_X8_knownShare, in_X8, co_X8_knownShare⟩, rfl, by decide +kernel, by decide +kernel, by decide +kernel⟩
theorem KW_meanDanger : wCW RL 231 yL_meanDanger cL_meanDanger 3 [(0, 7, 10, 114)] 2 := ⟨⟨ml_L_231, sm_L_meanDanger, in_L, co_L_meanDanger⟩, by decide +kernel, by decide +kernel, by decide +kernel⟩
theorem KM_meanDanger : wCV RL 233 RX8 yX8_meanDanger cX8_meanDanger 3 (Option.some Jvm.ClassFile.FieldType.double) 0 := ⟨⟨ml_L_233, im_X8_meanDanger, se_X8_meanDanger, in_X8, co_X8_meanDanger⟩, rfl, by decide +kernel, by decide +kernel, by decide +kernel⟩
theorem KD_isSound : wCV RL 234 RX7 yX7_isSound cX7_isSound 1 (Option.some Jvm.ClassFile.FieldType.boolean) 0 := ⟨⟨ml_L_234, im_X7_isSound, se_X7_isSound, in_X7, co_X7_isSound⟩, rfl, by decide +kernel, by decide +kernel, by decide +kernel⟩
theorem KM_isSound : wCV RL 238 RX8 yX8_isSound cX8_isSound 1 (Option.some Jvm.ClassFile.FieldType.boolean) 0 := ⟨⟨ml_L_238, im_X8_isSound, se_X8_isSound, in_X8, co_X8_isSound⟩, rfl, by decide +kernel, by decide +kernel, by decide +kernel⟩
