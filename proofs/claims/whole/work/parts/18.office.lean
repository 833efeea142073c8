/-- the state is well formed, and the class's rows are the least minutes -/
def CW (z y : wZ) : Prop := WF z ∧ CIv z y 15 64 ∧ CIv z y 16 65
noncomputable def dng (z : wZ) (b : Int) : Int := dgC z 16 (ds z 16) b
theorem dgC_cg {z : wZ} {g : Nat} {D E : Int → Int → Int} (hR : Rng z) (b : Int) (h : ∀ a b, 0 ≤ a → a < 16 → 0 ≤ b → b < 16 → D a b = E a b) : dgC z g D b = dgC z g E b := by
  have o := oth_in hR (z 19 b) (z 17 b)
  have q : 0 ≤ z 18 b ∧ z 18 b ≤ 15 := hR 18 b
  have e : mbF z D b = mbF z E b := by unfold mbF; rw [h _ _ (by omega) (by omega) (by omega) (by omega)]
  unfold dgC
  rw [e]
theorem r5_in {m : Int} (h : 0 ≤ m ∧ m ≤ 300) : 0 ≤ r5F m ∧ r5F m ≤ 300 := by unfold r5F; omega
def ktF (z : wZ) (b : Int) : Int := if z 21 b = 0 then 99 else 117
noncomputable def wrI (z : wZ) (b : Int) : Int := if z 21 b = 0 then (if 0 < dng z b then 1 else 0) else (if dng z b = 0 then 1 else 0)
noncomputable def ntL (z : wZ) : Nat → Int → Int → Int → Int
  | 0, _, best, _ => best
  | n + 1, b, best, most => if wrI z b = 1 ∧ most < dng z b ∧ askL z (ktF z b) b (z 3 0).toNat 0 = 0 then ntL z n (b + 1) b (dng z b) else ntL z n (b + 1) best most
theorem ntL_in (z : wZ) : ∀ (n : Nat) (b best most : Int), 0 ≤ b → (best = -1 ∨ (0 ≤ best ∧ best < b)) → (ntL z n b best most = -1 ∨ (0 ≤ ntL z n b best most ∧ ntL z n b best most < b + n))
  | 0, b, best, most, h0, h => by unfold ntL; omega
  | n + 1, b, best, most, h0, h => by
    unfold ntL
    split
    · have := ntL_in z n (b + 1) b (dng z b) (by omega) (by omega); omega
    · have := ntL_in z n (b + 1) best most (by omega) (by omega); omega
noncomputable def ntF (z : wZ) : Int := ntL z (z 2 0).toNat 0 (-1) (-1)
theorem ntF_in {z : wZ} (hR : Rng z) : -1 ≤ ntF z ∧ ntF z < z 2 0 := by
  have h1 : 0 ≤ z 2 0 ∧ z 2 0 ≤ 30 := hR 2 0
  have := ntL_in z (z 2 0).toNat 0 (-1) (-1) (Int.le_refl 0) (Or.inl rfl)
  unfold ntF; omega
noncomputable def plL : Nat → wZ → Int → Int × wZ
  | 0, z, m => (m, z)
  | n + 1, z, m => if z 3 0 < 40 then (if ntF z = -1 then (m, z) else plL n (mkF z (ktF z (ntF z)) (ntF z) (dng z (ntF z))) (m + 1)) else (m, z)
theorem mkF_k (z : wZ) (a b d : Int) {k : Nat} (h : k ≠ 3 ∧ k ≠ 23 ∧ k ≠ 24 ∧ k ≠ 25 ∧ k ≠ 26) : mkF z a b d k = z k := by
  unfold mkF; rw [zp_nk _ (by omega), zp_nk _ (by omega), zp_nk _ (by omega), zp_nk _ (by omega), zp_nk _ (by omega)]
theorem WF_mk {z : wZ} (h : WF z) (hR : Rng z) {kd nb dg : Int} (hk : kd = 99 ∨ kd = 117 ∨ kd = 114 ∨ kd = 109) (h1 : kd = 109 → nb < z 1 0) (h2 : kd ≠ 109 → nb < z 2 0) : WF (mkF z kd nb dg) := by
  have e : ∀ k, k ≠ 3 → k ≠ 23 → k ≠ 24 → k ≠ 25 → k ≠ 26 → mkF z kd nb dg k = z k := fun k a b c d f => mkF_k z kd nb dg ⟨a, b, c, d, f⟩
  refine ⟨WT_cg h.1 (fun k hk => e k (by omega) (by omega) (by omega) (by omega) (by omega)), WB_congr h.2.1 (fun k hk => e k (by omega) (by omega) (by omega) (by omega) (by omega)), fun t t0 t1 => ?_, WRg_congr h.2.2.2 (fun k hk => e k (by omega) (by omega) (by omega) (by omega) (by omega))⟩
  have e3 : mkF z kd nb dg 3 0 = z 3 0 + 1 := by simp [mkF, zp]
  have e23 : mkF z kd nb dg 23 t = if t = z 3 0 then kd else z 23 t := by simp [mkF, zp]
  have e24 : mkF z kd nb dg 24 t = if t = z 3 0 then nb else z 24 t := by simp [mkF, zp]
  have e26 : mkF z kd nb dg 26 t = if t = z 3 0 then -1 else z 26 t := by simp [mkF, zp]
  have q4 : 0 ≤ z 4 0 ∧ z 4 0 ≤ 4 := hR 4 0
  rw [e3] at t1
  rw [e23, e24, e26, e 1 (by decide) (by decide) (by decide) (by decide) (by decide), e 2 (by decide) (by decide) (by decide) (by decide) (by decide), e 4 (by decide) (by decide) (by decide) (by decide) (by decide)]
  by_cases c : t = z 3 0
  · simp only [if_pos c]; exact ⟨hk, h1, h2, by omega⟩
  · simp only [if_neg c]; exact h.2.2.1 t t0 (by omega)
theorem CW_k {z w y : wZ} (h : CW z y) (hF : WF w) (e : ∀ i, i = 1 ∨ i = 11 ∨ i = 12 ∨ i = 13 ∨ i = 14 ∨ i = 15 ∨ i = 16 → w i = z i) : CW w y :=
  ⟨hF, CIv_congr h.2.1 (fun i hi => e i (by omega)), CIv_congr h.2.2 (fun i hi => e i (by omega))⟩
noncomputable def unL (z : wZ) (g : Nat) : Nat → Int → Int → Int
  | 0, _, acc => acc
  | n + 1, b, acc => unL z g n (b + 1) (if z 21 b = 0 ∧ dgC z g (ds z g) b = 1000 then acc + 1 else acc)
def opL (z : wZ) : Nat → Int → Int → Int
  | 0, _, acc => acc
  | n + 1, t, acc => opL z n (t + 1) (if z 26 t = -1 then acc + 1 else acc)
theorem adL_1 {z : wZ} (hR : Rng z) {rn : Int} : ∀ (n : Nat) (t : Int), (∀ s, t ≤ s → s < t + n → z 26 s < rn) → adL z rn n t = 1
  | 0, _, _ => rfl
  | n + 1, t, h => by
    have q : -1 ≤ z 26 t ∧ z 26 t ≤ 3 := hR 26 t
    have q2 := h t (Int.le_refl t) (by omega)
    unfold adL
    rw [if_neg (by omega)]
    exact adL_1 hR n (t + 1) (fun s h1 h2 => h s (by omega) (by omega))
theorem d_least_0 (l : Launch) {D : va_G} {aC : Nat → ClassId} {ad : Nat → Nat} (hd : wDi ad shC) {z y : wZ} (hR : Rng z) (hY : Rng y) (hI_z_y : CW z y) (a b : Int) (ha : 0 ≤ a ∧ a ≤ 15) (hb : 0 ≤ b ∧ b ≤ 15) : cE l D aC ad shC yX5_leastMinutes cX5_leastMinutes 3 (.int) (rmL 0) [.ref (ad 10), vi a, vi b] z y (ds z 16 a b) := by
  have h := c_leastMinutes_0 l (D := D) (aC := aC) hd hR hY a b ha hb
  rw [hI_z_y.2.2 a b (by omega) (by omega) (by omega) (by omega)] at h
  exact h
theorem d_danger_0 (l : Launch) {D : va_G} {aC : Nat → ClassId} {ad : Nat → Nat} (hd : wDi ad shC) {z y : wZ} (hR : Rng z) (hY : Rng y) (hI_z_y : CW z y) (b : Int) (hb : 0 ≤ b ∧ b ≤ 29) : cE l D aC ad shC yX0_dangerBy cX0_dangerBy 6 (.int) (rmL 2) [.ref (ad 14), vi b, .ref (ad 1), .ref (ad 10)] z y (dgC z 16 (ds z 16) b) := by
  have h := c_dangerBy_0 l (D := D) (aC := aC) hd hR hY b hb
  rw [dgC_cg (E := ds z 16) hR b hI_z_y.2.2] at h
  exact h
theorem d_least_1 (l : Launch) {D : va_G} {aC : Nat → ClassId} {ad : Nat → Nat} (hd : wDi ad shC) {z y : wZ} (hR : Rng z) (hY : Rng y) (hI_z_y : CW z y) (a b : Int) (ha : 0 ≤ a ∧ a ≤ 15) (hb : 0 ≤ b ∧ b ≤ 15) : cE l D aC ad shC yX5_leastMinutes cX5_leastMinutes 3 (.int) (rmL 0) [.ref (ad 7), vi a, vi b] z y (ds z 15 a b) := by
  have h := c_leastMinutes_1 l (D := D) (aC := aC) hd hR hY a b ha hb
  rw [hI_z_y.2.1 a b (by omega) (by omega) (by omega) (by omega)] at h
  exact h
theorem d_danger_1 (l : Launch) {D : va_G} {aC : Nat → ClassId} {ad : Nat → Nat} (hd : wDi ad shC) {z y : wZ} (hR : Rng z) (hY : Rng y) (hI_z_y : CW z y) (b : Int) (hb : 0 ≤ b ∧ b ≤ 29) : cE l D aC ad shC yX0_dangerBy cX0_dangerBy 6 (.int) (rmL 2) [.ref (ad 14), vi b, .ref (ad 1), .ref (ad 7)] z y (dgC z 15 (ds z 15) b) := by
  have h := c_dangerBy_1 l (D := D) (aC := aC) hd hR hY b hb
  rw [dgC_cg (E := ds z 15) hR b hI_z_y.2.1] at h
  exact h
theorem d_trail (l : Launch) {D : va_G} {aC : Nat → ClassId} {ad : Nat → Nat} (hd : wDi ad shC) {z y : wZ} (hR : Rng z) (hY : Rng y) (hI_z_y : CW z y) (a b : Int) (ha : 0 ≤ a ∧ a ≤ 15) (hb : 0 ≤ b ∧ b ≤ 15) : cE l D aC ad shC yX2_trailTowards cX2_trailTowards 6 (.int) (rmL 2) [.ref (ad 1), vi a, vi b] z y (nxt z a b) := by
  have h := c_trailTowards l (D := D) (aC := aC) hd hR hY a b ha hb
  rw [nxtF_cg (E := ds z 16) hR ha hb hI_z_y.2.2] at h
  exact h
set_option maxHeartbeats 4000000 in
set_option maxRecDepth 100000 in
theorem c_canTell (l : Launch) {D : va_G} {aC : Nat → ClassId} {ad : Nat → Nat} (hd : wDi ad shC) {z y : wZ} (hR : Rng z) (hY : Rng y) (hI_z_y : CW z y) (f : Int) (q : Int) (hf : 0 ≤ f ∧ f ≤ 15) (hq : 0 ≤ q ∧ q ≤ 15) : cE l D aC ad shC yX7_canTell cX7_canTell 3 (.boolean) (rmL 1) [.ref (ad 0), vi f, vi q] z y ((if ds z 16 f q ≤ 300 then 1 else 0)) := by
  refine c_i [some (.ref (ad 0)), some (vi (f)), some (vi (q))] (by decide +kernel) rfl (Nat.le_of_ble_eq_true rfl) rfl hd ?_
  intro p e s m args below meth c A G hr
  refine i_aload_n G dX7_canTell_0 rfl ?_
  refine i_getr G F_X7_10 0 rfl rfl dX7_canTell_1 ?_
  refine i_getr G F_X7_181 1 rfl rfl dX7_canTell_4 ?_
  refine i_iload_n G dX7_canTell_7 rfl ?_
  refine i_iload_n G dX7_canTell_8 rfl ?_
  refine j_callE (q0 := 10) (As := [vi (f), vi (q)]) (st := []) G K_X7_110 (d_least_0 l hd hR hY hI_z_y f q (by first | assumption | omega) (by first | assumption | omega)) rfl rfl rfl (rm_ok (by decide) (by decide)) ⟨Nat.le_refl _, Nat.le_refl _⟩ (Nat.le_of_ble_eq_true rfl) dX7_canTell_9 ?_
  have b9 : 0 ≤ (ds z 16 f q) ∧ (ds z 16 f q) ≤ 1000000 := ds_in hI_z_y.1.1 hR _ _ _
  refine i_sipush G dX7_canTell_12 (by decide) ?_
  refine i_icmp_gt (tgt := 22) G dX7_canTell_15 (by decide) (by omega) (by omega) (fun h15 => ?_) (fun h15 => ?_)
  · skip
    refine i_iconst G dX7_canTell_22 ?_
    refine j_retz G hr (by omega) dX7_canTell_23 ?_
    refine ⟨?_, rfl, rfl⟩
    split <;> first | rfl | omega
  · skip
    refine i_iconst G dX7_canTell_18 ?_
    refine i_goto (tgt := 23) G dX7_canTell_19 (by decide) ?_
    refine j_retz G hr (by omega) dX7_canTell_23 ?_
    refine ⟨?_, rfl, rfl⟩
    split <;> first | rfl | omega
set_option maxHeartbeats 4000000 in
set_option maxRecDepth 100000 in
theorem c_roundUp (l : Launch) {D : va_G} {aC : Nat → ClassId} {ad : Nat → Nat} (hd : wDi ad shC) {z y : wZ} (hR : Rng z) (hY : Rng y) (mm : Int) (hm : 0 ≤ mm ∧ mm ≤ 1000000) : cE l D aC ad shC yX7_roundUp cX7_roundUp 1 (.int) (rmL 0) [vi mm] z y (r5F mm) := by
  refine c_i [some (vi (mm))] (by decide +kernel) rfl (Nat.le_of_ble_eq_true rfl) rfl hd ?_
  intro p e s m args below meth c A G hr
  refine i_iload_n G dX7_roundUp_0 rfl ?_
  refine i_iconst G dX7_roundUp_1 ?_
  refine i_iadd G dX7_roundUp_2 ?_
  refine i_iconst G dX7_roundUp_3 ?_
  refine i_isub G dX7_roundUp_4 ?_
  refine i_iconst G dX7_roundUp_5 ?_
  refine i_idiv G (by omega) (by omega) dX7_roundUp_6 ?_
  refine i_iconst G dX7_roundUp_7 ?_
  refine i_imul G dX7_roundUp_8 ?_
  refine j_reti G hr dX7_roundUp_9 ?_
  refine ⟨?_, rfl, rfl⟩
  unfold r5F
  rw [show mm + 5 - 1 = mm + 4 by omega]
set_option maxHeartbeats 4000000 in
set_option maxRecDepth 100000 in
theorem c_minutesFor (l : Launch) {D : va_G} {aC : Nat → ClassId} {ad : Nat → Nat} (hd : wDi ad shC) {z y : wZ} (hR : Rng z) (hY : Rng y) (k : Int) (hk : 0 ≤ k ∧ k ≤ 65535) : cE l D aC ad shC yX7_minutesFor cX7_minutesFor 1 (.int) (rmL 0) [vi k] z y (mnK k) := by
  refine c_i [some (vi (k))] (by decide +kernel) rfl (Nat.le_of_ble_eq_true rfl) rfl hd ?_
  intro p e s m args below meth c A G hr
  refine i_iload_n G dX7_minutesFor_0 rfl ?_
  refine i_bipush G dX7_minutesFor_1 (by decide) ?_
  refine i_icmp_ne (tgt := 10) G dX7_minutesFor_3 (by decide) (by omega) (by omega) (fun h3 => ?_) (fun h3 => ?_)
  · skip
    refine i_iload_n G dX7_minutesFor_10 rfl ?_
    refine i_bipush G dX7_minutesFor_11 (by decide) ?_
    refine i_icmp_ne (tgt := 21) G dX7_minutesFor_13 (by decide) (by omega) (by omega) (fun h13 => ?_) (fun h13 => ?_)
    · skip
      refine i_bipush G dX7_minutesFor_21 (by decide) ?_
      refine j_reti G hr dX7_minutesFor_23 ?_
      refine ⟨?_, rfl, rfl⟩
      unfold mnK
      (repeat' split) <;> first | rfl | omega
    · skip
      refine i_bipush G dX7_minutesFor_16 (by decide) ?_
      refine i_goto (tgt := 23) G dX7_minutesFor_18 (by decide) ?_
      refine j_reti G hr dX7_minutesFor_23 ?_
      refine ⟨?_, rfl, rfl⟩
      unfold mnK
      (repeat' split) <;> first | rfl | omega
  · skip
    refine i_sipush G dX7_minutesFor_6 (by decide) ?_
    refine j_reti G hr dX7_minutesFor_9 ?_
    refine ⟨?_, rfl, rfl⟩
    unfold mnK
    (repeat' split) <;> first | rfl | omega
set_option maxHeartbeats 4000000 in
set_option maxRecDepth 100000 in
theorem c_toolFor (l : Launch) {D : va_G} {aC : Nat → ClassId} {ad : Nat → Nat} (hd : wDi ad shC) {z y : wZ} (hR : Rng z) (hY : Rng y) (k : Int) (hk : 0 ≤ k ∧ k ≤ 65535) : cE l D aC ad shC yX7_toolFor cX7_toolFor 1 (.int) (rmL 0) [vi k] z y (tlK k) := by
  refine c_i [some (vi (k))] (by decide +kernel) rfl (Nat.le_of_ble_eq_true rfl) rfl hd ?_
  intro p e s m args below meth c A G hr
  refine i_iload_n G dX7_toolFor_0 rfl ?_
  refine i_bipush G dX7_toolFor_1 (by decide) ?_
  refine i_icmp_ne (tgt := 8) G dX7_toolFor_3 (by decide) (by omega) (by omega) (fun h3 => ?_) (fun h3 => ?_)
  · skip
    refine i_iload_n G dX7_toolFor_8 rfl ?_
    refine i_bipush G dX7_toolFor_9 (by decide) ?_
    refine i_icmp_ne (tgt := 18) G dX7_toolFor_11 (by decide) (by omega) (by omega) (fun h11 => ?_) (fun h11 => ?_)
    · skip
      refine i_iconst G dX7_toolFor_18 ?_
      refine j_reti G hr dX7_toolFor_19 ?_
      refine ⟨?_, rfl, rfl⟩
      unfold tlK
      (repeat' split) <;> first | rfl | omega
    · skip
      refine i_iconst G dX7_toolFor_14 ?_
      refine i_goto (tgt := 19) G dX7_toolFor_15 (by decide) ?_
      refine j_reti G hr dX7_toolFor_19 ?_
      refine ⟨?_, rfl, rfl⟩
      unfold tlK
      (repeat' split) <;> first | rfl | omega
  · skip
    refine i_iconst G dX7_toolFor_6 ?_
    refine j_reti G hr dX7_toolFor_7 ?_
    refine ⟨?_, rfl, rfl⟩
    unfold tlK
    (repeat' split) <;> first | rfl | omega
set_option maxHeartbeats 4000000 in
set_option maxRecDepth 100000 in
theorem c_goalOf (l : Launch) {D : va_G} {aC : Nat → ClassId} {ad : Nat → Nat} (hd : wDi ad shC) {z y : wZ} (hR : Rng z) (hY : Rng y) (hI_z_y : CW z y) (t : Int) (ht : 0 ≤ t ∧ t < z 3 0) : cE l D aC ad shC yX7_goalOf cX7_goalOf 3 (.int) (rmL 0) [.ref (ad 0), vi t] z y (glF z t) := by
  refine c_i [some (.ref (ad 0)), some (vi (t)), none] (by decide +kernel) rfl (Nat.le_of_ble_eq_true rfl) rfl hd ?_
  intro p e s m args below meth c A G hr
  have q3 : 0 ≤ z 3 0 ∧ z 3 0 ≤ 40 := hR 3 0
  have hk := hI_z_y.1.2.2.1 t ht.1 ht.2
  have q1 : 0 ≤ z 1 0 ∧ z 1 0 ≤ 24 := hR 1 0
  refine i_aload_n G dX7_goalOf_0 rfl ?_
  refine i_getr G F_X7_33 0 rfl rfl dX7_goalOf_1 ?_
  refine i_getr G F_X7_224 23 rfl rfl dX7_goalOf_4 ?_
  refine i_iload_n G dX7_goalOf_7 rfl ?_
  refine j_iald_z G 25 rfl (by decide) (by decide) (by omega) (by omega) dX7_goalOf_8 ?_
  have b8 : 0 ≤ z 24 t ∧ z 24 t ≤ 29 := hR 24 _
  refine i_istore_n (L' := [some (.ref (ad 0)), some (vi (t)), some (vi ((z 24 t)))]) G dX7_goalOf_9 (by decide) rfl ?_
  refine i_aload_n G dX7_goalOf_10 rfl ?_
  refine i_getr G F_X7_33 0 rfl rfl dX7_goalOf_11 ?_
  refine i_getr G F_X7_220 23 rfl rfl dX7_goalOf_14 ?_
  refine i_iload_n G dX7_goalOf_17 rfl ?_
  refine j_cald_z G 24 rfl (by decide) (by decide) (by omega) (by omega) dX7_goalOf_18 ?_
  have b18 : 0 ≤ z 23 t ∧ z 23 t ≤ 65535 := hR 23 _
  refine i_bipush G dX7_goalOf_19 (by decide) ?_
  refine i_icmp_ne (tgt := 36) G dX7_goalOf_21 (by decide) (by omega) (by omega) (fun h21 => ?_) (fun h21 => ?_)
  · skip
    refine i_aload_n G dX7_goalOf_36 rfl ?_
    refine i_getr G F_X7_19 0 rfl rfl dX7_goalOf_37 ?_
    refine i_getr G F_X7_148 14 rfl rfl dX7_goalOf_40 ?_
    refine i_iload_n G dX7_goalOf_43 rfl ?_
    refine j_iald_z G 15 rfl (by decide) (by decide) (by omega) (by omega) dX7_goalOf_44 ?_
    have b44 : 0 ≤ z 17 (z 24 t) ∧ z 17 (z 24 t) ≤ 15 := hR 17 _
    refine j_reti G hr dX7_goalOf_45 ?_
    refine ⟨?_, rfl, rfl⟩
    unfold glF
    (repeat' split) <;> first | rfl | omega
  · skip
    refine i_aload_n G dX7_goalOf_24 rfl ?_
    refine i_getr G F_X7_10 0 rfl rfl dX7_goalOf_25 ?_
    refine i_getr G F_X7_348 1 rfl rfl dX7_goalOf_28 ?_
    refine i_iload_n G dX7_goalOf_31 rfl ?_
    refine j_iald_z G 3 rfl (by decide) (by decide) (by omega) (by omega) dX7_goalOf_32 ?_
    have b32 : 0 ≤ z 11 (z 24 t) ∧ z 11 (z 24 t) ≤ 15 := hR 11 _
    refine i_goto (tgt := 45) G dX7_goalOf_33 (by decide) ?_
    refine j_reti G hr dX7_goalOf_45 ?_
    refine ⟨?_, rfl, rfl⟩
    unfold glF
    (repeat' split) <;> first | rfl | omega
set_option maxHeartbeats 4000000 in
set_option maxRecDepth 100000 in
theorem c_kindToPlan (l : Launch) {D : va_G} {aC : Nat → ClassId} {ad : Nat → Nat} (hd : wDi ad shC) {z y : wZ} (hR : Rng z) (hY : Rng y) (b : Int) (hb : 0 ≤ b ∧ b ≤ 29) : cE l D aC ad shC yX7_kindToPlan cX7_kindToPlan 2 (.char) (rmL 0) [.ref (ad 0), vi b] z y (ktF z b) := by
  refine c_i [some (.ref (ad 0)), some (vi (b))] (by decide +kernel) rfl (Nat.le_of_ble_eq_true rfl) rfl hd ?_
  intro p e s m args below meth c A G hr
  refine i_aload_n G dX7_kindToPlan_0 rfl ?_
  refine i_getr G F_X7_19 0 rfl rfl dX7_kindToPlan_1 ?_
  refine i_getr G F_X7_167 14 rfl rfl dX7_kindToPlan_4 ?_
  refine i_iload_n G dX7_kindToPlan_7 rfl ?_
  refine j_zald_z G 19 rfl (by decide) (by decide) (by omega) (by omega) dX7_kindToPlan_8 ?_
  have b8 : 0 ≤ z 21 b ∧ z 21 b ≤ 1 := hR 21 _
  refine i_if_eq (tgt := 17) G dX7_kindToPlan_9 (by decide) (by omega) (fun h9 => ?_) (fun h9 => ?_)
  · skip
    refine i_bipush G dX7_kindToPlan_17 (by decide) ?_
    refine j_retc G hr (by omega) dX7_kindToPlan_19 ?_
    refine ⟨?_, rfl, rfl⟩
    unfold ktF
    (repeat' split) <;> first | rfl | omega
  · skip
    refine i_bipush G dX7_kindToPlan_12 (by decide) ?_
    refine i_goto (tgt := 19) G dX7_kindToPlan_14 (by decide) ?_
    refine j_retc G hr (by omega) dX7_kindToPlan_19 ?_
    refine ⟨?_, rfl, rfl⟩
    unfold ktF
    (repeat' split) <;> first | rfl | omega
set_option maxHeartbeats 4000000 in
set_option maxRecDepth 100000 in
theorem c_putUp (l : Launch) {D : va_G} {aC : Nat → ClassId} {ad : Nat → Nat} (hd : wDi ad shC) {z y : wZ} (hR : Rng z) (hY : Rng y) (hI_z_y : CW z y) (b : Int) (hb : 0 ≤ b ∧ b ≤ 29) (hb2 : b < z 2 0) (hw : 1 ≤ z 6 0) (hds : ds z 16 (z 17 b) (z 18 b) ≤ 300) : cZv l D aC ad shC yX7_putUp cX7_putUp 5 (rmL 3) [.ref (ad 0), vi b] z y (fun z' => z' = puF z b ∧ Rng z') := by
  refine c_v [some (.ref (ad 0)), some (vi (b)), none, none, none] (by decide +kernel) rfl (Nat.le_of_ble_eq_true rfl) rfl hd ?_
  intro p e s m args below meth c A G hr
  have hwb := hI_z_y.1.2.1 b hb.1 hb2
  have hp := nxt_P hR (nxt_ex hI_z_y.1.1 hR hwb.2.2.1 (by omega))
  have q17 : 0 ≤ z 17 b ∧ z 17 b ≤ 15 := hR 17 b
  have q18 : 0 ≤ z 18 b ∧ z 18 b ≤ 15 := hR 18 b
  have q1 : 0 ≤ z 1 0 ∧ z 1 0 ≤ 24 := hR 1 0
  have hq : y 65 (z 17 b * 16 + z 18 b) = ds z 16 (z 17 b) (z 18 b) := hI_z_y.2.2 _ _ (by omega) (by omega) (by omega) (by omega)
  refine i_aload_n G dX7_putUp_0 rfl ?_
  refine i_getr G F_X7_19 0 rfl rfl dX7_putUp_1 ?_
  refine i_getr G F_X7_148 14 rfl rfl dX7_putUp_4 ?_
  refine i_iload_n G dX7_putUp_7 rfl ?_
  refine j_iald_z G 15 rfl (by decide) (by decide) (by omega) (by omega) dX7_putUp_8 ?_
  have b8 : 0 ≤ z 17 b ∧ z 17 b ≤ 15 := hR 17 _
  refine i_istore_n (L' := [some (.ref (ad 0)), some (vi (b)), some (vi ((z 17 b))), none, none]) G dX7_putUp_9 (by decide) rfl ?_
  refine i_aload_n G dX7_putUp_10 rfl ?_
  refine i_getr G F_X7_19 0 rfl rfl dX7_putUp_11 ?_
  refine i_getr G F_X7_152 14 rfl rfl dX7_putUp_14 ?_
  refine i_iload_n G dX7_putUp_17 rfl ?_
  refine j_iald_z G 16 rfl (by decide) (by decide) (by omega) (by omega) dX7_putUp_18 ?_
  have b18 : 0 ≤ z 18 b ∧ z 18 b ≤ 15 := hR 18 _
  refine i_istore_n (L' := [some (.ref (ad 0)), some (vi (b)), some (vi ((z 17 b))), some (vi ((z 18 b))), none]) G dX7_putUp_19 (by decide) rfl ?_
  refine i_aload_n G dX7_putUp_20 rfl ?_
  refine i_getr G F_X7_10 0 rfl rfl dX7_putUp_21 ?_
  refine i_iload_n G dX7_putUp_24 rfl ?_
  refine i_iload_n G dX7_putUp_25 rfl ?_
  refine j_callE (q0 := 1) (As := [vi ((z 17 b)), vi ((z 18 b))]) (st := []) G K_X7_120 (d_trail l hd hR hY hI_z_y (z 17 b) (z 18 b) (by first | assumption | omega) (by first | assumption | omega)) rfl rfl rfl (rm_ok (by decide) (by decide)) ⟨Nat.le_refl _, Nat.le_refl _⟩ (Nat.le_of_ble_eq_true rfl) dX7_putUp_26 ?_
  have b26 : -1 ≤ (nxt z (z 17 b) (z 18 b)) ∧ (nxt z (z 17 b) (z 18 b)) < z 1 0 := nxtF_in hR _ _ _
  refine i_istore (L' := [some (.ref (ad 0)), some (vi (b)), some (vi ((z 17 b))), some (vi ((z 18 b))), some (vi ((nxt z (z 17 b) (z 18 b))))]) G dX7_putUp_29 (by decide) rfl ?_
  refine i_iload G dX7_putUp_31 rfl ?_
  refine i_iconst G dX7_putUp_33 ?_
  refine i_icmp_eq (tgt := 48) G dX7_putUp_34 (by decide) (by omega) (by omega) (fun h34 => ?_) (fun h34 => ?_)
  · skip
    exfalso; omega
  · skip
    refine i_aload_n G dX7_putUp_37 rfl ?_
    refine i_getr G F_X7_19 0 rfl rfl dX7_putUp_38 ?_
    refine i_getr G F_X7_161 14 rfl rfl dX7_putUp_41 ?_
    refine i_iload_n G dX7_putUp_44 rfl ?_
    refine i_iload G dX7_putUp_45 rfl ?_
    refine j_iast_z G 17 rfl (by decide) (by decide) (by omega) (by omega) (by decide) hR (by show (0 : Int) ≤ _ ∧ _ ≤ (23 : Int); omega) dX7_putUp_47 (fun z47 ez47 hRz47 => ?_)
    refine i_aload_n G dX7_putUp_48 rfl ?_
    refine i_getr G F_X7_19 0 rfl rfl dX7_putUp_49 ?_
    refine i_getr G F_X7_164 14 rfl rfl dX7_putUp_52 ?_
    refine i_iload_n G dX7_putUp_55 rfl ?_
    refine i_aload_n G dX7_putUp_56 rfl ?_
    refine i_getr G F_X7_10 0 rfl rfl dX7_putUp_57 ?_
    refine i_getr G F_X7_181 1 rfl rfl dX7_putUp_60 ?_
    refine i_iload_n G dX7_putUp_63 rfl ?_
    refine i_iload_n G dX7_putUp_64 rfl ?_
    refine j_callE (q0 := 10) (As := [vi ((z 17 b)), vi ((z 18 b))]) (st := [vi (b), .ref (ad 18)]) G K_X7_110 (c_leastMinutes_0 l hd hRz47 hY (z 17 b) (z 18 b) (by omega) (by omega)) rfl rfl rfl (rm_ok (by decide) (by decide)) ⟨Nat.le_refl _, Nat.le_refl _⟩ (Nat.le_of_ble_eq_true rfl) dX7_putUp_65 ?_
    have b65 : 0 ≤ (y 65 ((z 17 b) * 16 + (z 18 b))) ∧ (y 65 ((z 17 b) * 16 + (z 18 b))) ≤ 1000000 := hY 65 _
    refine j_callsE (As := [vi ((y 65 ((z 17 b) * 16 + (z 18 b))))]) (st := [vi (b), .ref (ad 18)]) G K_X7_306 (c_roundUp l hd hRz47 hY (y 65 ((z 17 b) * 16 + (z 18 b))) (by first | assumption | omega)) rfl (rm_ok (by decide) (by decide)) ⟨Nat.le_refl _, Nat.le_refl _⟩ (Nat.le_of_ble_eq_true rfl) dX7_putUp_68 ?_
    refine j_iast_z G 18 rfl (by decide) (by decide) (by omega) (by omega) (by decide) hRz47 (by show (0 : Int) ≤ _ ∧ _ ≤ (300 : Int); have q9 := r5_in (m := y 65 (z 17 b * 16 + z 18 b)) (by omega); omega) dX7_putUp_71 (fun z71 ez71 hRz71 => ?_)
    refine i_aload_n G dX7_putUp_72 rfl ?_
    refine i_getr G F_X7_19 0 rfl rfl dX7_putUp_73 ?_
    refine i_getr G F_X7_167 14 rfl rfl dX7_putUp_76 ?_
    refine i_iload_n G dX7_putUp_79 rfl ?_
    refine i_iconst G dX7_putUp_80 ?_
    refine j_zast_z G 19 rfl (by decide) (by decide) (by omega) (by omega) (by omega) (by decide) hRz71 (by show (0 : Int) ≤ _ ∧ _ ≤ (1 : Int); omega) dX7_putUp_81 (fun z81 ez81 hRz81 => ?_)
    refine i_aload_n G dX7_putUp_82 rfl ?_
    refine i_getr G F_X7_19 0 rfl rfl dX7_putUp_83 ?_
    refine i_dup G rfl dX7_putUp_86 ?_
    refine j_getz G F_X7_127 14 rfl rfl (by decide) dX7_putUp_87 ?_
    have b87 : 0 ≤ z81 6 0 ∧ z81 6 0 ≤ 60000 := hRz81 6 _
    refine i_iconst G dX7_putUp_90 ?_
    refine i_isub G dX7_putUp_91 ?_
    refine j_putz G P_X7_127 14 rfl rfl (by decide) (by decide) (by decide) hRz81 (by show (0 : Int) ≤ _ ∧ _ ≤ (60000 : Int); have q6 : z81 6 0 = z 6 0 := (by rw [ez81, ez71, ez47]; rfl); omega) dX7_putUp_92 (fun z92 ez92 hRz92 => ?_)
    refine j_retv G hr dX7_putUp_95 ?_
    refine ⟨rfl, ?_, hRz92⟩
    subst_vars
    unfold puF
    rw [← hq]
    rfl
set_option maxHeartbeats 4000000 in
set_option maxRecDepth 100000 in
theorem c_makesSense (l : Launch) {D : va_G} {aC : Nat → ClassId} {ad : Nat → Nat} (hd : wDi ad shC) {z y : wZ} (hR : Rng z) (hY : Rng y) (hI_z_y : CW z y) (t : Int) (ht : 0 ≤ t ∧ t < z 3 0) : cE l D aC ad shC yX7_makesSense cX7_makesSense 4 (.boolean) (rmL 2) [.ref (ad 0), vi t] z y (msF z t) := by
  refine c_i [some (.ref (ad 0)), some (vi (t)), none, none] (by decide +kernel) rfl (Nat.le_of_ble_eq_true rfl) rfl hd ?_
  intro p e s m args below meth c A G hr
  have q3 : 0 ≤ z 3 0 ∧ z 3 0 ≤ 40 := hR 3 0
  have hk := hI_z_y.1.2.2.1 t ht.1 ht.2
  have q1 : 0 ≤ z 1 0 ∧ z 1 0 ≤ 24 := hR 1 0
  refine i_aload_n G dX7_makesSense_0 rfl ?_
  refine i_getr G F_X7_33 0 rfl rfl dX7_makesSense_1 ?_
  refine i_getr G F_X7_220 23 rfl rfl dX7_makesSense_4 ?_
  refine i_iload_n G dX7_makesSense_7 rfl ?_
  refine j_cald_z G 24 rfl (by decide) (by decide) (by omega) (by omega) dX7_makesSense_8 ?_
  have b8 : 0 ≤ z 23 t ∧ z 23 t ≤ 65535 := hR 23 _
  refine i_istore_n (L' := [some (.ref (ad 0)), some (vi (t)), some (vi ((z 23 t))), none]) G dX7_makesSense_9 (by decide) rfl ?_
  refine i_aload_n G dX7_makesSense_10 rfl ?_
  refine i_getr G F_X7_33 0 rfl rfl dX7_makesSense_11 ?_
  refine i_getr G F_X7_224 23 rfl rfl dX7_makesSense_14 ?_
  refine i_iload_n G dX7_makesSense_17 rfl ?_
  refine j_iald_z G 25 rfl (by decide) (by decide) (by omega) (by omega) dX7_makesSense_18 ?_
  have b18 : 0 ≤ z 24 t ∧ z 24 t ≤ 29 := hR 24 _
  refine i_istore_n (L' := [some (.ref (ad 0)), some (vi (t)), some (vi ((z 23 t))), some (vi ((z 24 t)))]) G dX7_makesSense_19 (by decide) rfl ?_
  refine i_iload_n G dX7_makesSense_20 rfl ?_
  refine i_bipush G dX7_makesSense_21 (by decide) ?_
  refine i_icmp_ne (tgt := 39) G dX7_makesSense_23 (by decide) (by omega) (by omega) (fun h23 => ?_) (fun h23 => ?_)
  · skip
    refine i_iload_n G dX7_makesSense_39 rfl ?_
    refine i_bipush G dX7_makesSense_40 (by decide) ?_
    refine i_icmp_ne (tgt := 86) G dX7_makesSense_42 (by decide) (by omega) (by omega) (fun h42 => ?_) (fun h42 => ?_)
    · skip
      refine i_aload_n G dX7_makesSense_86 rfl ?_
      refine i_getr G F_X7_19 0 rfl rfl dX7_makesSense_87 ?_
      refine i_getr G F_X7_167 14 rfl rfl dX7_makesSense_90 ?_
      refine i_iload_n G dX7_makesSense_93 rfl ?_
      refine j_zald_z G 19 rfl (by decide) (by decide) (by omega) (by omega) dX7_makesSense_94 ?_
      have b94 : 0 ≤ z 21 (z 24 t) ∧ z 21 (z 24 t) ≤ 1 := hR 21 _
      refine i_iload_n G dX7_makesSense_95 rfl ?_
      refine i_bipush G dX7_makesSense_96 (by decide) ?_
      refine i_icmp_ne (tgt := 105) G dX7_makesSense_98 (by decide) (by omega) (by omega) (fun h98 => ?_) (fun h98 => ?_)
      · skip
        refine i_iconst G dX7_makesSense_105 ?_
        refine i_icmp_ne (tgt := 113) G dX7_makesSense_106 (by decide) (by omega) (by omega) (fun h106 => ?_) (fun h106 => ?_)
        · skip
          refine i_iconst G dX7_makesSense_113 ?_
          refine j_retz G hr (by omega) dX7_makesSense_114 ?_
          refine ⟨?_, rfl, rfl⟩
          unfold msF
          (repeat' split) <;> first | rfl | omega
        · skip
          refine i_iconst G dX7_makesSense_109 ?_
          refine i_goto (tgt := 114) G dX7_makesSense_110 (by decide) ?_
          refine j_retz G hr (by omega) dX7_makesSense_114 ?_
          refine ⟨?_, rfl, rfl⟩
          unfold msF
          (repeat' split) <;> first | rfl | omega
      · skip
        refine i_iconst G dX7_makesSense_101 ?_
        refine i_goto (tgt := 106) G dX7_makesSense_102 (by decide) ?_
        refine i_icmp_ne (tgt := 113) G dX7_makesSense_106 (by decide) (by omega) (by omega) (fun h106 => ?_) (fun h106 => ?_)
        · skip
          refine i_iconst G dX7_makesSense_113 ?_
          refine j_retz G hr (by omega) dX7_makesSense_114 ?_
          refine ⟨?_, rfl, rfl⟩
          unfold msF
          (repeat' split) <;> first | rfl | omega
        · skip
          refine i_iconst G dX7_makesSense_109 ?_
          refine i_goto (tgt := 114) G dX7_makesSense_110 (by decide) ?_
          refine j_retz G hr (by omega) dX7_makesSense_114 ?_
          refine ⟨?_, rfl, rfl⟩
          unfold msF
          (repeat' split) <;> first | rfl | omega
    · skip
      refine i_aload_n G dX7_makesSense_45 rfl ?_
      refine i_getr G F_X7_19 0 rfl rfl dX7_makesSense_46 ?_
      refine j_getz G F_X7_127 14 rfl rfl (by decide) dX7_makesSense_49 ?_
      have b49 : 0 ≤ z 6 0 ∧ z 6 0 ≤ 60000 := hR 6 _
      refine i_if_le (tgt := 84) G dX7_makesSense_52 (by decide) (by omega) (fun h52 => ?_) (fun h52 => ?_)
      · skip
        refine i_iconst G dX7_makesSense_84 ?_
        refine j_retz G hr (by omega) dX7_makesSense_85 ?_
        refine ⟨?_, rfl, rfl⟩
        unfold msF
        (repeat' split) <;> first | rfl | omega
      · skip
        refine i_aload_n G dX7_makesSense_55 rfl ?_
        refine i_aload_n G dX7_makesSense_56 rfl ?_
        refine i_getr G F_X7_19 0 rfl rfl dX7_makesSense_57 ?_
        refine i_getr G F_X7_148 14 rfl rfl dX7_makesSense_60 ?_
        refine i_iload_n G dX7_makesSense_63 rfl ?_
        refine j_iald_z G 15 rfl (by decide) (by decide) (by omega) (by omega) dX7_makesSense_64 ?_
        have b64 : 0 ≤ z 17 (z 24 t) ∧ z 17 (z 24 t) ≤ 15 := hR 17 _
        refine i_aload_n G dX7_makesSense_65 rfl ?_
        refine i_getr G F_X7_19 0 rfl rfl dX7_makesSense_66 ?_
        refine i_getr G F_X7_152 14 rfl rfl dX7_makesSense_69 ?_
        refine i_iload_n G dX7_makesSense_72 rfl ?_
        refine j_iald_z G 16 rfl (by decide) (by decide) (by omega) (by omega) dX7_makesSense_73 ?_
        have b73 : 0 ≤ z 18 (z 24 t) ∧ z 18 (z 24 t) ≤ 15 := hR 18 _
        refine j_callE (q0 := 0) (As := [vi ((z 17 (z 24 t))), vi ((z 18 (z 24 t)))]) (st := []) G K_X7_132 (c_canTell l hd hR hY hI_z_y (z 17 (z 24 t)) (z 18 (z 24 t)) (by first | assumption | omega) (by first | assumption | omega)) rfl rfl rfl (rm_ok (by decide) (by decide)) ⟨Nat.le_refl _, Nat.le_refl _⟩ (Nat.le_of_ble_eq_true rfl) dX7_makesSense_74 ?_
        obtain ⟨r74, er74⟩ : ∃ x_ : Int, x_ = (if ds z 16 (z 17 (z 24 t)) (z 18 (z 24 t)) ≤ 300 then 1 else 0) := ⟨_, rfl⟩
        rw [← er74]
        have b74 : (r74 = 1 ∧ ds z 16 (z 17 (z 24 t)) (z 18 (z 24 t)) ≤ 300) ∨ (r74 = 0 ∧ ¬ ds z 16 (z 17 (z 24 t)) (z 18 (z 24 t)) ≤ 300) := by rw [er74]; split <;> omega
        refine i_if_eq (tgt := 84) G dX7_makesSense_77 (by decide) (by omega) (fun h77 => ?_) (fun h77 => ?_)
        · skip
          refine i_iconst G dX7_makesSense_84 ?_
          refine j_retz G hr (by omega) dX7_makesSense_85 ?_
          refine ⟨?_, rfl, rfl⟩
          unfold msF
          (repeat' split) <;> first | rfl | omega
        · skip
          refine i_iconst G dX7_makesSense_80 ?_
          refine i_goto (tgt := 85) G dX7_makesSense_81 (by decide) ?_
          refine j_retz G hr (by omega) dX7_makesSense_85 ?_
          refine ⟨?_, rfl, rfl⟩
          unfold msF
          (repeat' split) <;> first | rfl | omega
  · skip
    refine i_aload_n G dX7_makesSense_26 rfl ?_
    refine i_getr G F_X7_10 0 rfl rfl dX7_makesSense_27 ?_
    refine i_getr G F_X7_181 1 rfl rfl dX7_makesSense_30 ?_
    refine i_getr G F_X7_97 10 rfl rfl dX7_makesSense_33 ?_
    refine i_iload_n G dX7_makesSense_36 rfl ?_
    refine j_zald_z G 11 rfl (by decide) (by decide) (by omega) (by omega) dX7_makesSense_37 ?_
    have b37 : 0 ≤ z 16 (z 24 t) ∧ z 16 (z 24 t) ≤ 1 := hR 16 _
    refine j_retz G hr (by omega) dX7_makesSense_38 ?_
    refine ⟨?_, rfl, rfl⟩
    unfold msF
    (repeat' split) <;> first | rfl | omega
set_option maxHeartbeats 4000000 in
set_option maxRecDepth 100000 in
theorem c_hasTimeFor (l : Launch) {D : va_G} {aC : Nat → ClassId} {ad : Nat → Nat} (hd : wDi ad shC) {z y : wZ} (hR : Rng z) (hY : Rng y) (hI_z_y : CW z y) (r : Int) (t : Int) (hr0 : 0 ≤ r ∧ r ≤ 3) (ht : 0 ≤ t ∧ t < z 3 0) : cE l D aC ad shC yX7_hasTimeFor cX7_hasTimeFor 4 (.boolean) (rmL 1) [.ref (ad 0), vi r, vi t] z y (htF z r t) := by
  refine c_i [some (.ref (ad 0)), some (vi (r)), some (vi (t)), none] (by decide +kernel) rfl (Nat.le_of_ble_eq_true rfl) rfl hd ?_
  intro p e s m args below meth c A G hr
  have q3 : 0 ≤ z 3 0 ∧ z 3 0 ≤ 40 := hR 3 0
  refine i_aload_n G dX7_hasTimeFor_0 rfl ?_
  refine i_getr G F_X7_10 0 rfl rfl dX7_hasTimeFor_1 ?_
  refine i_getr G F_X7_181 1 rfl rfl dX7_hasTimeFor_4 ?_
  refine i_aload_n G dX7_hasTimeFor_7 rfl ?_
  refine i_getr G F_X7_40 0 rfl rfl dX7_hasTimeFor_8 ?_
  refine i_getr G F_X7_248 28 rfl rfl dX7_hasTimeFor_11 ?_
  refine i_iload_n G dX7_hasTimeFor_14 rfl ?_
  refine j_iald_z G 29 rfl (by decide) (by decide) (by omega) (by omega) dX7_hasTimeFor_15 ?_
  have b15 : 0 ≤ z 27 r ∧ z 27 r ≤ 15 := hR 27 _
  refine i_aload_n G dX7_hasTimeFor_16 rfl ?_
  refine i_iload_n G dX7_hasTimeFor_17 rfl ?_
  refine j_callE (q0 := 0) (As := [vi (t)]) (st := [vi ((z 27 r)), .ref (ad 10)]) G K_X7_342 (c_goalOf l hd hR hY hI_z_y t (by first | assumption | omega)) rfl rfl rfl (rm_ok (by decide) (by decide)) ⟨Nat.le_refl _, Nat.le_refl _⟩ (Nat.le_of_ble_eq_true rfl) dX7_hasTimeFor_18 ?_
  have b18 : 0 ≤ (glF z t) ∧ (glF z t) ≤ 15 := glF_in hR _
  refine j_callE (q0 := 10) (As := [vi ((z 27 r)), vi ((glF z t))]) (st := []) G K_X7_110 (d_least_0 l hd hR hY hI_z_y (z 27 r) (glF z t) (by first | assumption | omega) (by first | assumption | omega)) rfl rfl rfl (rm_ok (by decide) (by decide)) ⟨Nat.le_refl _, Nat.le_refl _⟩ (Nat.le_of_ble_eq_true rfl) dX7_hasTimeFor_21 ?_
  have b21 : 0 ≤ (ds z 16 (z 27 r) (glF z t)) ∧ (ds z 16 (z 27 r) (glF z t)) ≤ 1000000 := ds_in hI_z_y.1.1 hR _ _ _
  refine i_istore_n (L' := [some (.ref (ad 0)), some (vi (r)), some (vi (t)), some (vi ((ds z 16 (z 27 r) (glF z t))))]) G dX7_hasTimeFor_24 (by decide) rfl ?_
  refine i_iload_n G dX7_hasTimeFor_25 rfl ?_
  refine i_aload_n G dX7_hasTimeFor_26 rfl ?_
  refine i_getr G F_X7_33 0 rfl rfl dX7_hasTimeFor_27 ?_
  refine i_getr G F_X7_220 23 rfl rfl dX7_hasTimeFor_30 ?_
  refine i_iload_n G dX7_hasTimeFor_33 rfl ?_
  refine j_cald_z G 24 rfl (by decide) (by decide) (by omega) (by omega) dX7_hasTimeFor_34 ?_
  have b34 : 0 ≤ z 23 t ∧ z 23 t ≤ 65535 := hR 23 _
  refine j_callsE (As := [vi ((z 23 t))]) (st := [vi ((ds z 16 (z 27 r) (glF z t)))]) G K_X7_345 (c_minutesFor l hd hR hY (z 23 t) (by first | assumption | omega)) rfl (rm_ok (by decide) (by decide)) ⟨Nat.le_refl _, Nat.le_refl _⟩ (Nat.le_of_ble_eq_true rfl) dX7_hasTimeFor_35 ?_
  have b35 : 10 ≤ (mnK (z 23 t)) ∧ (mnK (z 23 t)) ≤ 200 := mnK_in _
  refine i_iadd G dX7_hasTimeFor_38 ?_
  refine i_aload_n G dX7_hasTimeFor_39 rfl ?_
  refine i_getr G F_X7_40 0 rfl rfl dX7_hasTimeFor_40 ?_
  refine j_getz G F_X7_313 28 rfl rfl (by decide) dX7_hasTimeFor_43 ?_
  have b43 : 0 ≤ z 8 0 ∧ z 8 0 ≤ 480 := hR 8 _
  refine i_icmp_gt (tgt := 53) G dX7_hasTimeFor_46 (by decide) (by omega) (by omega) (fun h46 => ?_) (fun h46 => ?_)
  · skip
    refine i_iconst G dX7_hasTimeFor_53 ?_
    refine j_retz G hr (by omega) dX7_hasTimeFor_54 ?_
    refine ⟨?_, rfl, rfl⟩
    unfold htF
    split <;> first | rfl | omega
  · skip
    refine i_iconst G dX7_hasTimeFor_49 ?_
    refine i_goto (tgt := 54) G dX7_hasTimeFor_50 (by decide) ?_
    refine j_retz G hr (by omega) dX7_hasTimeFor_54 ?_
    refine ⟨?_, rfl, rfl⟩
    unfold htF
    split <;> first | rfl | omega
set_option maxHeartbeats 4000000 in
set_option maxRecDepth 100000 in
theorem c_chooseTask (l : Launch) {D : va_G} {aC : Nat → ClassId} {ad : Nat → Nat} (hd : wDi ad shC) {z y : wZ} (hR : Rng z) (hY : Rng y) (hI_z_y : CW z y) (r : Int) (hr0 : 0 ≤ r ∧ r ≤ 3) : cE l D aC ad shC yX7_chooseTask cX7_chooseTask 5 (.int) (rmL 3) [.ref (ad 0), vi r] z y (choF z r) := by
  refine c_i [some (.ref (ad 0)), some (vi (r)), none, none, none] (by decide +kernel) rfl (Nat.le_of_ble_eq_true rfl) rfl hd ?_
  intro p e s m args below meth c A G hr
  refine i_iconst G dX7_chooseTask_0 ?_
  refine i_istore_n (L' := [some (.ref (ad 0)), some (vi (r)), some (vi ((-1))), none, none]) G dX7_chooseTask_1 (by decide) rfl ?_
  refine i_iconst G dX7_chooseTask_2 ?_
  refine i_istore_n (L' := [some (.ref (ad 0)), some (vi (r)), some (vi ((-1))), some (vi (0)), none]) G dX7_chooseTask_3 (by decide) rfl ?_
  refine i_forget (L' := [some (.ref (ad 0)), some (vi (r)), some (vi ((-1))), some (vi (0)), none]) ⟨rfl, ⟨rfl, ⟨rfl, ⟨rfl, trivial⟩⟩⟩⟩ ?_
  have lp4 : ∀ (n4 : Nat) (best t : Int), (0 ≤ t) → (t + n4 = z 3 0) → (-1 ≤ best ∧ best < t) → (chL z r n4 t best = choF z r) → JW p l e (rmL 3) s m args below meth c 5 D aC ad A shC (MQ below (cQi D aC ad shC (fun r_ z_ y_ => r_ = (choF z r) ∧ z_ = z ∧ y_ = y) A) args s 0 0 A) 0 0 (zc z y) 4 [some (.ref (ad 0)), some (vi (r)), some (vi (best)), some (vi (t)), none] [] := by
    intro n4
    induction n4 with
    | zero => 
      intro best t ht hn hb hF
      refine i_iload_n G dX7_chooseTask_4 rfl ?_
      refine i_aload_n G dX7_chooseTask_5 rfl ?_
      refine i_getr G F_X7_33 0 rfl rfl dX7_chooseTask_6 ?_
      refine j_getz G F_X7_236 23 rfl rfl (by decide) dX7_chooseTask_9 ?_
      have b9 : 0 ≤ z 3 0 ∧ z 3 0 ≤ 40 := hR 3 _
      refine i_icmp_ge (tgt := 112) G dX7_chooseTask_12 (by decide) (by omega) (by omega) (fun h12 => ?_) (fun h12 => ?_)
      · skip
        refine i_iload_n G dX7_chooseTask_112 rfl ?_
        refine j_reti G hr dX7_chooseTask_113 ?_
        exact ⟨hF, rfl, rfl⟩
      · skip
        exfalso; omega
    | succ n4 ih4 => 
      intro best t ht hn hb hF
      refine i_iload_n G dX7_chooseTask_4 rfl ?_
      refine i_aload_n G dX7_chooseTask_5 rfl ?_
      refine i_getr G F_X7_33 0 rfl rfl dX7_chooseTask_6 ?_
      refine j_getz G F_X7_236 23 rfl rfl (by decide) dX7_chooseTask_9 ?_
      have b9 : 0 ≤ z 3 0 ∧ z 3 0 ≤ 40 := hR 3 _
      refine i_icmp_ge (tgt := 112) G dX7_chooseTask_12 (by decide) (by omega) (by omega) (fun h12 => ?_) (fun h12 => ?_)
      · skip
        exfalso; omega
      · skip
        refine i_iload_n G dX7_chooseTask_15 rfl ?_
        refine i_iconst G dX7_chooseTask_16 ?_
        refine i_icmp_eq (tgt := 41) G dX7_chooseTask_17 (by decide) (by omega) (by omega) (fun h17 => ?_) (fun h17 => ?_)
        · skip
          refine i_iconst G dX7_chooseTask_41 ?_
          refine i_goto (tgt := 46) G dX7_chooseTask_42 (by decide) ?_
          refine i_istore (L' := [some (.ref (ad 0)), some (vi (r)), some (vi (best)), some (vi (t)), some (vi (1))]) G dX7_chooseTask_46 (by decide) rfl ?_
          refine i_iload G dX7_chooseTask_48 rfl ?_
          refine i_if_eq (tgt := 106) G dX7_chooseTask_50 (by decide) (by omega) (fun h50 => ?_) (fun h50 => ?_)
          · skip
            exfalso; omega
          · skip
            have b0 : 0 ≤ z 3 0 ∧ z 3 0 ≤ 40 := hR 3 0
            refine i_aload_n G dX7_chooseTask_53 rfl ?_
            refine i_getr G F_X7_33 0 rfl rfl dX7_chooseTask_54 ?_
            refine i_iload_n G dX7_chooseTask_57 rfl ?_
            refine j_callE (q0 := 23) (As := [vi (t)]) (st := []) G K_X7_227 (c_isOpen l hd hR hY t (by omega)) rfl rfl rfl (rm_ok (by decide) (by decide)) ⟨Nat.le_refl _, Nat.le_refl _⟩ (Nat.le_of_ble_eq_true rfl) dX7_chooseTask_58 ?_
            obtain ⟨r58, er58⟩ : ∃ x_ : Int, x_ = (if z 26 t = -1 then 1 else 0) := ⟨_, rfl⟩
            rw [← er58]
            have b58 : (r58 = 1 ∧ z 26 t = -1) ∨ (r58 = 0 ∧ ¬ z 26 t = -1) := by rw [er58]; split <;> omega
            refine i_if_eq (tgt := 106) G dX7_chooseTask_61 (by decide) (by omega) (fun h61 => ?_) (fun h61 => ?_)
            · skip
              refine i_iinc (L' := [some (.ref (ad 0)), some (vi (r)), some (vi (best)), some (vi (t + 1)), some (vi (1))]) G dX7_chooseTask_106 (by decide) rfl rfl ?_
              refine i_goto (tgt := 4) G dX7_chooseTask_109 (by decide) ?_
              refine i_forget (L' := [some (.ref (ad 0)), some (vi (r)), some (vi (best)), some (vi (t + 1)), none]) ⟨rfl, ⟨rfl, ⟨rfl, ⟨rfl, trivial⟩⟩⟩⟩ ?_
              have b0 : 0 ≤ z 3 0 ∧ z 3 0 ≤ 40 := hR 3 0
              exact ih4 _ (t + 1) (by omega) (by omega) (by omega) (by rw [← hF, chL, if_neg (by first | omega | (subst_vars; omega))])
            · skip
              refine i_aload_n G dX7_chooseTask_64 rfl ?_
              refine i_getr G F_X7_40 0 rfl rfl dX7_chooseTask_65 ?_
              refine i_iload_n G dX7_chooseTask_68 rfl ?_
              refine i_aload_n G dX7_chooseTask_69 rfl ?_
              refine i_getr G F_X7_33 0 rfl rfl dX7_chooseTask_70 ?_
              refine i_getr G F_X7_220 23 rfl rfl dX7_chooseTask_73 ?_
              refine i_iload_n G dX7_chooseTask_76 rfl ?_
              refine j_cald_z G 24 rfl (by decide) (by decide) (by omega) (by omega) dX7_chooseTask_77 ?_
              have b77 : 0 ≤ z 23 t ∧ z 23 t ≤ 65535 := hR 23 _
              refine j_callsE (As := [vi ((z 23 t))]) (st := [vi (r), .ref (ad 28)]) G K_X7_332 (c_toolFor l hd hR hY (z 23 t) (by first | assumption | omega)) rfl (rm_ok (by decide) (by decide)) ⟨Nat.le_refl _, Nat.le_refl _⟩ (Nat.le_of_ble_eq_true rfl) dX7_chooseTask_78 ?_
              have b78 : 0 ≤ (tlK (z 23 t)) ∧ (tlK (z 23 t)) ≤ 2 := tlK_in _
              refine j_callE (q0 := 28) (As := [vi (r), vi ((tlK (z 23 t)))]) (st := []) G K_X7_336 (c_hasTool l hd hR hY r (tlK (z 23 t)) (by omega) (by omega)) rfl rfl rfl (rm_ok (by decide) (by decide)) ⟨Nat.le_refl _, Nat.le_refl _⟩ (Nat.le_of_ble_eq_true rfl) dX7_chooseTask_81 ?_
              have b81 : 0 ≤ (hasT z r (tlK (z 23 t))) ∧ (hasT z r (tlK (z 23 t))) ≤ 1 := hasT_in hR _ _
              refine i_if_eq (tgt := 106) G dX7_chooseTask_84 (by decide) (by omega) (fun h84 => ?_) (fun h84 => ?_)
              · skip
                refine i_iinc (L' := [some (.ref (ad 0)), some (vi (r)), some (vi (best)), some (vi (t + 1)), some (vi (1))]) G dX7_chooseTask_106 (by decide) rfl rfl ?_
                refine i_goto (tgt := 4) G dX7_chooseTask_109 (by decide) ?_
                refine i_forget (L' := [some (.ref (ad 0)), some (vi (r)), some (vi (best)), some (vi (t + 1)), none]) ⟨rfl, ⟨rfl, ⟨rfl, ⟨rfl, trivial⟩⟩⟩⟩ ?_
                have b0 : 0 ≤ z 3 0 ∧ z 3 0 ≤ 40 := hR 3 0
                exact ih4 _ (t + 1) (by omega) (by omega) (by omega) (by rw [← hF, chL, if_neg (by first | omega | (subst_vars; omega))])
              · skip
                refine i_aload_n G dX7_chooseTask_87 rfl ?_
                refine i_iload_n G dX7_chooseTask_88 rfl ?_
                refine j_callE (q0 := 0) (As := [vi (t)]) (st := []) G K_X7_322 (c_makesSense l hd hR hY hI_z_y t (by first | assumption | omega)) rfl rfl rfl (rm_ok (by decide) (by decide)) ⟨Nat.le_refl _, Nat.le_refl _⟩ (Nat.le_of_ble_eq_true rfl) dX7_chooseTask_89 ?_
                have b89 : 0 ≤ (msF z t) ∧ (msF z t) ≤ 1 := msF_in hR _
                refine i_if_eq (tgt := 106) G dX7_chooseTask_92 (by decide) (by omega) (fun h92 => ?_) (fun h92 => ?_)
                · skip
                  refine i_iinc (L' := [some (.ref (ad 0)), some (vi (r)), some (vi (best)), some (vi (t + 1)), some (vi (1))]) G dX7_chooseTask_106 (by decide) rfl rfl ?_
                  refine i_goto (tgt := 4) G dX7_chooseTask_109 (by decide) ?_
                  refine i_forget (L' := [some (.ref (ad 0)), some (vi (r)), some (vi (best)), some (vi (t + 1)), none]) ⟨rfl, ⟨rfl, ⟨rfl, ⟨rfl, trivial⟩⟩⟩⟩ ?_
                  have b0 : 0 ≤ z 3 0 ∧ z 3 0 ≤ 40 := hR 3 0
                  exact ih4 _ (t + 1) (by omega) (by omega) (by omega) (by rw [← hF, chL, if_neg (by first | omega | (subst_vars; omega))])
                · skip
                  refine i_aload_n G dX7_chooseTask_95 rfl ?_
                  refine i_iload_n G dX7_chooseTask_96 rfl ?_
                  refine i_iload_n G dX7_chooseTask_97 rfl ?_
                  refine j_callE (q0 := 0) (As := [vi (r), vi (t)]) (st := []) G K_X7_339 (c_hasTimeFor l hd hR hY hI_z_y r t (by first | assumption | omega) (by first | assumption | omega)) rfl rfl rfl (rm_ok (by decide) (by decide)) ⟨Nat.le_refl _, Nat.le_refl _⟩ (Nat.le_of_ble_eq_true rfl) dX7_chooseTask_98 ?_
                  obtain ⟨r98, er98⟩ : ∃ x_ : Int, x_ = (htF z r t) := ⟨_, rfl⟩
                  rw [← er98]
                  have b98 : (r98 = 1 ∧ ds z 16 (z 27 r) (glF z t) + mnK (z 23 t) ≤ z 8 0) ∨ (r98 = 0 ∧ ¬ ds z 16 (z 27 r) (glF z t) + mnK (z 23 t) ≤ z 8 0) := by rw [er98]; unfold htF; split <;> omega
                  refine i_if_eq (tgt := 106) G dX7_chooseTask_101 (by decide) (by omega) (fun h101 => ?_) (fun h101 => ?_)
                  · skip
                    refine i_iinc (L' := [some (.ref (ad 0)), some (vi (r)), some (vi (best)), some (vi (t + 1)), some (vi (1))]) G dX7_chooseTask_106 (by decide) rfl rfl ?_
                    refine i_goto (tgt := 4) G dX7_chooseTask_109 (by decide) ?_
                    refine i_forget (L' := [some (.ref (ad 0)), some (vi (r)), some (vi (best)), some (vi (t + 1)), none]) ⟨rfl, ⟨rfl, ⟨rfl, ⟨rfl, trivial⟩⟩⟩⟩ ?_
                    have b0 : 0 ≤ z 3 0 ∧ z 3 0 ≤ 40 := hR 3 0
                    exact ih4 _ (t + 1) (by omega) (by omega) (by omega) (by rw [← hF, chL, if_neg (by first | omega | (subst_vars; omega))])
                  · skip
                    refine i_iload_n G dX7_chooseTask_104 rfl ?_
                    refine i_istore_n (L' := [some (.ref (ad 0)), some (vi (r)), some (vi (t)), some (vi (t)), some (vi (1))]) G dX7_chooseTask_105 (by decide) rfl ?_
                    refine i_iinc (L' := [some (.ref (ad 0)), some (vi (r)), some (vi (t)), some (vi (t + 1)), some (vi (1))]) G dX7_chooseTask_106 (by decide) rfl rfl ?_
                    refine i_goto (tgt := 4) G dX7_chooseTask_109 (by decide) ?_
                    refine i_forget (L' := [some (.ref (ad 0)), some (vi (r)), some (vi (t)), some (vi (t + 1)), none]) ⟨rfl, ⟨rfl, ⟨rfl, ⟨rfl, trivial⟩⟩⟩⟩ ?_
                    have b0 : 0 ≤ z 3 0 ∧ z 3 0 ≤ 40 := hR 3 0
                    exact ih4 _ (t + 1) (by omega) (by omega) (by omega) (by rw [← hF, chL, if_pos (by first | omega | (subst_vars; omega))])
        · skip
          have b0 : 0 ≤ z 3 0 ∧ z 3 0 ≤ 40 := hR 3 0
          refine i_aload_n G dX7_chooseTask_20 rfl ?_
          refine i_getr G F_X7_33 0 rfl rfl dX7_chooseTask_21 ?_
          refine i_getr G F_X7_329 23 rfl rfl dX7_chooseTask_24 ?_
          refine i_iload_n G dX7_chooseTask_27 rfl ?_
          refine j_iald_z G 26 rfl (by decide) (by decide) (by omega) (by omega) dX7_chooseTask_28 ?_
          have b28 : 0 ≤ z 25 t ∧ z 25 t ≤ 1000 := hR 25 _
          refine i_aload_n G dX7_chooseTask_29 rfl ?_
          refine i_getr G F_X7_33 0 rfl rfl dX7_chooseTask_30 ?_
          refine i_getr G F_X7_329 23 rfl rfl dX7_chooseTask_33 ?_
          refine i_iload_n G dX7_chooseTask_36 rfl ?_
          refine j_iald_z G 26 rfl (by decide) (by decide) (by omega) (by omega) dX7_chooseTask_37 ?_
          have b37 : 0 ≤ z 25 best ∧ z 25 best ≤ 1000 := hR 25 _
          refine i_icmp_le (tgt := 45) G dX7_chooseTask_38 (by decide) (by omega) (by omega) (fun h38 => ?_) (fun h38 => ?_)
          · skip
            refine i_iconst G dX7_chooseTask_45 ?_
            refine i_istore (L' := [some (.ref (ad 0)), some (vi (r)), some (vi (best)), some (vi (t)), some (vi (0))]) G dX7_chooseTask_46 (by decide) rfl ?_
            refine i_iload G dX7_chooseTask_48 rfl ?_
            refine i_if_eq (tgt := 106) G dX7_chooseTask_50 (by decide) (by omega) (fun h50 => ?_) (fun h50 => ?_)
            · skip
              refine i_iinc (L' := [some (.ref (ad 0)), some (vi (r)), some (vi (best)), some (vi (t + 1)), some (vi (0))]) G dX7_chooseTask_106 (by decide) rfl rfl ?_
              refine i_goto (tgt := 4) G dX7_chooseTask_109 (by decide) ?_
              refine i_forget (L' := [some (.ref (ad 0)), some (vi (r)), some (vi (best)), some (vi (t + 1)), none]) ⟨rfl, ⟨rfl, ⟨rfl, ⟨rfl, trivial⟩⟩⟩⟩ ?_
              have b0 : 0 ≤ z 3 0 ∧ z 3 0 ≤ 40 := hR 3 0
              exact ih4 _ (t + 1) (by omega) (by omega) (by omega) (by rw [← hF, chL, if_neg (by first | omega | (subst_vars; omega))])
            · skip
              exfalso; omega
          · skip
            refine i_iconst G dX7_chooseTask_41 ?_
            refine i_goto (tgt := 46) G dX7_chooseTask_42 (by decide) ?_
            refine i_istore (L' := [some (.ref (ad 0)), some (vi (r)), some (vi (best)), some (vi (t)), some (vi (1))]) G dX7_chooseTask_46 (by decide) rfl ?_
            refine i_iload G dX7_chooseTask_48 rfl ?_
            refine i_if_eq (tgt := 106) G dX7_chooseTask_50 (by decide) (by omega) (fun h50 => ?_) (fun h50 => ?_)
            · skip
              exfalso; omega
            · skip
              have b0 : 0 ≤ z 3 0 ∧ z 3 0 ≤ 40 := hR 3 0
              refine i_aload_n G dX7_chooseTask_53 rfl ?_
              refine i_getr G F_X7_33 0 rfl rfl dX7_chooseTask_54 ?_
              refine i_iload_n G dX7_chooseTask_57 rfl ?_
              refine j_callE (q0 := 23) (As := [vi (t)]) (st := []) G K_X7_227 (c_isOpen l hd hR hY t (by omega)) rfl rfl rfl (rm_ok (by decide) (by decide)) ⟨Nat.le_refl _, Nat.le_refl _⟩ (Nat.le_of_ble_eq_true rfl) dX7_chooseTask_58 ?_
              obtain ⟨r58, er58⟩ : ∃ x_ : Int, x_ = (if z 26 t = -1 then 1 else 0) := ⟨_, rfl⟩
              rw [← er58]
              have b58 : (r58 = 1 ∧ z 26 t = -1) ∨ (r58 = 0 ∧ ¬ z 26 t = -1) := by rw [er58]; split <;> omega
              refine i_if_eq (tgt := 106) G dX7_chooseTask_61 (by decide) (by omega) (fun h61 => ?_) (fun h61 => ?_)
              · skip
                refine i_iinc (L' := [some (.ref (ad 0)), some (vi (r)), some (vi (best)), some (vi (t + 1)), some (vi (1))]) G dX7_chooseTask_106 (by decide) rfl rfl ?_
                refine i_goto (tgt := 4) G dX7_chooseTask_109 (by decide) ?_
                refine i_forget (L' := [some (.ref (ad 0)), some (vi (r)), some (vi (best)), some (vi (t + 1)), none]) ⟨rfl, ⟨rfl, ⟨rfl, ⟨rfl, trivial⟩⟩⟩⟩ ?_
                have b0 : 0 ≤ z 3 0 ∧ z 3 0 ≤ 40 := hR 3 0
                exact ih4 _ (t + 1) (by omega) (by omega) (by omega) (by rw [← hF, chL, if_neg (by first | omega | (subst_vars; omega))])
              · skip
                refine i_aload_n G dX7_chooseTask_64 rfl ?_
                refine i_getr G F_X7_40 0 rfl rfl dX7_chooseTask_65 ?_
                refine i_iload_n G dX7_chooseTask_68 rfl ?_
                refine i_aload_n G dX7_chooseTask_69 rfl ?_
                refine i_getr G F_X7_33 0 rfl rfl dX7_chooseTask_70 ?_
                refine i_getr G F_X7_220 23 rfl rfl dX7_chooseTask_73 ?_
                refine i_iload_n G dX7_chooseTask_76 rfl ?_
                refine j_cald_z G 24 rfl (by decide) (by decide) (by omega) (by omega) dX7_chooseTask_77 ?_
                have b77 : 0 ≤ z 23 t ∧ z 23 t ≤ 65535 := hR 23 _
                refine j_callsE (As := [vi ((z 23 t))]) (st := [vi (r), .ref (ad 28)]) G K_X7_332 (c_toolFor l hd hR hY (z 23 t) (by first | assumption | omega)) rfl (rm_ok (by decide) (by decide)) ⟨Nat.le_refl _, Nat.le_refl _⟩ (Nat.le_of_ble_eq_true rfl) dX7_chooseTask_78 ?_
                have b78 : 0 ≤ (tlK (z 23 t)) ∧ (tlK (z 23 t)) ≤ 2 := tlK_in _
                refine j_callE (q0 := 28) (As := [vi (r), vi ((tlK (z 23 t)))]) (st := []) G K_X7_336 (c_hasTool l hd hR hY r (tlK (z 23 t)) (by omega) (by omega)) rfl rfl rfl (rm_ok (by decide) (by decide)) ⟨Nat.le_refl _, Nat.le_refl _⟩ (Nat.le_of_ble_eq_true rfl) dX7_chooseTask_81 ?_
                have b81 : 0 ≤ (hasT z r (tlK (z 23 t))) ∧ (hasT z r (tlK (z 23 t))) ≤ 1 := hasT_in hR _ _
                refine i_if_eq (tgt := 106) G dX7_chooseTask_84 (by decide) (by omega) (fun h84 => ?_) (fun h84 => ?_)
                · skip
                  refine i_iinc (L' := [some (.ref (ad 0)), some (vi (r)), some (vi (best)), some (vi (t + 1)), some (vi (1))]) G dX7_chooseTask_106 (by decide) rfl rfl ?_
                  refine i_goto (tgt := 4) G dX7_chooseTask_109 (by decide) ?_
                  refine i_forget (L' := [some (.ref (ad 0)), some (vi (r)), some (vi (best)), some (vi (t + 1)), none]) ⟨rfl, ⟨rfl, ⟨rfl, ⟨rfl, trivial⟩⟩⟩⟩ ?_
                  have b0 : 0 ≤ z 3 0 ∧ z 3 0 ≤ 40 := hR 3 0
                  exact ih4 _ (t + 1) (by omega) (by omega) (by omega) (by rw [← hF, chL, if_neg (by first | omega | (subst_vars; omega))])
                · skip
                  refine i_aload_n G dX7_chooseTask_87 rfl ?_
                  refine i_iload_n G dX7_chooseTask_88 rfl ?_
                  refine j_callE (q0 := 0) (As := [vi (t)]) (st := []) G K_X7_322 (c_makesSense l hd hR hY hI_z_y t (by first | assumption | omega)) rfl rfl rfl (rm_ok (by decide) (by decide)) ⟨Nat.le_refl _, Nat.le_refl _⟩ (Nat.le_of_ble_eq_true rfl) dX7_chooseTask_89 ?_
                  have b89 : 0 ≤ (msF z t) ∧ (msF z t) ≤ 1 := msF_in hR _
                  refine i_if_eq (tgt := 106) G dX7_chooseTask_92 (by decide) (by omega) (fun h92 => ?_) (fun h92 => ?_)
                  · skip
                    refine i_iinc (L' := [some (.ref (ad 0)), some (vi (r)), some (vi (best)), some (vi (t + 1)), some (vi (1))]) G dX7_chooseTask_106 (by decide) rfl rfl ?_
                    refine i_goto (tgt := 4) G dX7_chooseTask_109 (by decide) ?_
                    refine i_forget (L' := [some (.ref (ad 0)), some (vi (r)), some (vi (best)), some (vi (t + 1)), none]) ⟨rfl, ⟨rfl, ⟨rfl, ⟨rfl, trivial⟩⟩⟩⟩ ?_
                    have b0 : 0 ≤ z 3 0 ∧ z 3 0 ≤ 40 := hR 3 0
                    exact ih4 _ (t + 1) (by omega) (by omega) (by omega) (by rw [← hF, chL, if_neg (by first | omega | (subst_vars; omega))])
                  · skip
                    refine i_aload_n G dX7_chooseTask_95 rfl ?_
                    refine i_iload_n G dX7_chooseTask_96 rfl ?_
                    refine i_iload_n G dX7_chooseTask_97 rfl ?_
                    refine j_callE (q0 := 0) (As := [vi (r), vi (t)]) (st := []) G K_X7_339 (c_hasTimeFor l hd hR hY hI_z_y r t (by first | assumption | omega) (by first | assumption | omega)) rfl rfl rfl (rm_ok (by decide) (by decide)) ⟨Nat.le_refl _, Nat.le_refl _⟩ (Nat.le_of_ble_eq_true rfl) dX7_chooseTask_98 ?_
                    obtain ⟨r98, er98⟩ : ∃ x_ : Int, x_ = (htF z r t) := ⟨_, rfl⟩
                    rw [← er98]
                    have b98 : (r98 = 1 ∧ ds z 16 (z 27 r) (glF z t) + mnK (z 23 t) ≤ z 8 0) ∨ (r98 = 0 ∧ ¬ ds z 16 (z 27 r) (glF z t) + mnK (z 23 t) ≤ z 8 0) := by rw [er98]; unfold htF; split <;> omega
                    refine i_if_eq (tgt := 106) G dX7_chooseTask_101 (by decide) (by omega) (fun h101 => ?_) (fun h101 => ?_)
                    · skip
                      refine i_iinc (L' := [some (.ref (ad 0)), some (vi (r)), some (vi (best)), some (vi (t + 1)), some (vi (1))]) G dX7_chooseTask_106 (by decide) rfl rfl ?_
                      refine i_goto (tgt := 4) G dX7_chooseTask_109 (by decide) ?_
                      refine i_forget (L' := [some (.ref (ad 0)), some (vi (r)), some (vi (best)), some (vi (t + 1)), none]) ⟨rfl, ⟨rfl, ⟨rfl, ⟨rfl, trivial⟩⟩⟩⟩ ?_
                      have b0 : 0 ≤ z 3 0 ∧ z 3 0 ≤ 40 := hR 3 0
                      exact ih4 _ (t + 1) (by omega) (by omega) (by omega) (by rw [← hF, chL, if_neg (by first | omega | (subst_vars; omega))])
                    · skip
                      refine i_iload_n G dX7_chooseTask_104 rfl ?_
                      refine i_istore_n (L' := [some (.ref (ad 0)), some (vi (r)), some (vi (t)), some (vi (t)), some (vi (1))]) G dX7_chooseTask_105 (by decide) rfl ?_
                      refine i_iinc (L' := [some (.ref (ad 0)), some (vi (r)), some (vi (t)), some (vi (t + 1)), some (vi (1))]) G dX7_chooseTask_106 (by decide) rfl rfl ?_
                      refine i_goto (tgt := 4) G dX7_chooseTask_109 (by decide) ?_
                      refine i_forget (L' := [some (.ref (ad 0)), some (vi (r)), some (vi (t)), some (vi (t + 1)), none]) ⟨rfl, ⟨rfl, ⟨rfl, ⟨rfl, trivial⟩⟩⟩⟩ ?_
                      have b0 : 0 ≤ z 3 0 ∧ z 3 0 ≤ 40 := hR 3 0
                      exact ih4 _ (t + 1) (by omega) (by omega) (by omega) (by rw [← hF, chL, if_pos (by first | omega | (subst_vars; omega))])
  have b0 : 0 ≤ z 3 0 ∧ z 3 0 ≤ 40 := hR 3 0
  exact lp4 (z 3 0).toNat (-1) 0 (by omega) (by omega) (by omega) rfl
set_option maxHeartbeats 4000000 in
set_option maxRecDepth 100000 in
theorem c_see (l : Launch) {D : va_G} {aC : Nat → ClassId} {ad : Nat → Nat} (hd : wDi ad shC) {z y : wZ} (hR : Rng z) (hY : Rng y) (hI_z_y : CW z y) (t : Int) (ht : 0 ≤ t ∧ t < z 1 0) : cMv l D aC ad shC yX7_see cX7_see 3 (rmL 3) [.ref (ad 0), vi t] z y (fun z' y' => z' = seF z t ∧ Rng z' ∧ Rng y' ∧ CW z' y' ∧ ∀ k', k' ≠ 65 → y' k' = y k') := by
  refine c_v [some (.ref (ad 0)), some (vi (t)), none] (by decide +kernel) rfl (Nat.le_of_ble_eq_true rfl) rfl hd ?_
  intro p e s m args below meth c A G hr
  have q1 : 0 ≤ z 1 0 ∧ z 1 0 ≤ 24 := hR 1 0
  have hW := hI_z_y.1.1
  have hC := hI_z_y.2.2
  refine i_aload_n G dX7_see_0 rfl ?_
  refine i_getr G F_X7_10 0 rfl rfl dX7_see_1 ?_
  refine i_getr G F_X7_93 1 rfl rfl dX7_see_4 ?_
  refine i_getr G F_X7_97 7 rfl rfl dX7_see_7 ?_
  refine i_iload_n G dX7_see_10 rfl ?_
  refine j_zald_z G 8 rfl (by decide) (by decide) (by omega) (by omega) dX7_see_11 ?_
  have b11 : 0 ≤ z 15 t ∧ z 15 t ≤ 1 := hR 15 _
  refine i_istore_n (L' := [some (.ref (ad 0)), some (vi (t)), some (vi ((z 15 t)))]) G dX7_see_12 (by decide) rfl ?_
  refine i_aload_n G dX7_see_13 rfl ?_
  refine i_getr G F_X7_10 0 rfl rfl dX7_see_14 ?_
  refine i_aload_n G dX7_see_17 rfl ?_
  refine i_getr G F_X7_10 0 rfl rfl dX7_see_18 ?_
  refine i_getr G F_X7_181 1 rfl rfl dX7_see_21 ?_
  refine i_iload_n G dX7_see_24 rfl ?_
  refine i_iload_n G dX7_see_25 rfl ?_
  refine j_callv (q0 := 1) (As := [.ref (ad 10), vi (t), vi ((z 15 t))]) (st := []) G K_X7_102 (c_setGone_0 l hd hR hY t (z 15 t) (by first | assumption | omega) (by first | assumption | omega) (by first | assumption | omega) (by first | assumption | omega)) rfl rfl rfl (rm_ok (by decide) (by decide)) ⟨Nat.le_refl _, Nat.le_refl _⟩ (Nat.le_of_ble_eq_true rfl) dX7_see_26 (fun z26 y26 q26 => ?_)
  obtain ⟨ez26, hRz26, hRy26, ho26, hc26⟩ := q26
  refine i_aload_n G dX7_see_29 rfl ?_
  refine i_getr G F_X7_26 0 rfl rfl dX7_see_30 ?_
  refine i_iload_n G dX7_see_33 rfl ?_
  refine i_iload_n G dX7_see_34 rfl ?_
  refine j_callZv (q0 := 20) (As := [vi (t), vi ((z 15 t))]) (st := []) G K_X7_363 (c_judge l hd hRz26 hRy26 t (z 15 t) (by omega) (by omega)) rfl rfl rfl (rm_ok (by decide) (by decide)) ⟨Nat.le_refl _, Nat.le_refl _⟩ (Nat.le_of_ble_eq_true rfl) dX7_see_35 (fun z35 q35 => ?_)
  obtain ⟨ez35, hRz35⟩ := q35
  refine j_retv G hr dX7_see_38 ?_
  have ez : z35 = seF z t := by rw [ez35, ez26]; rfl
  have eF := WF_se hI_z_y.1 t
  refine ⟨ez, hRz35, hRy26, ?_, ho26⟩
  rw [ez]
  refine ⟨eF, CIv_y (CIv_congr hI_z_y.2.1 (fun i hi => seF_k z t (by omega) (by omega) (by omega))) (ho26 64 (by decide)), ?_⟩
  have h9 := hc26
  rw [ez26] at h9
  exact CIv_congr h9 (fun i hi => jdgL_k _ _ (by omega) (by omega) _ _ _)
