/-! THE MODEL: how it reckons the ways -/
section MRK
def rkI (z : wZ) (g : Nat) (b : Int) (r : Nat) (y : wZ) : Prop := (∀ a, 0 ≤ a → a < z 0 0 → ds z g a b ≤ y 70 a ∧ y 70 a ≤ 1000000) ∧
  ∀ a : Int, 0 ≤ a → a < z 0 0 → rk (fun a => ds z g a b) (ds z g a b) (z 0 0).toNat ≤ r → y 70 a ≤ ds z g a b
def rkT (z : wZ) (g : Nat) (b : Int) (y0 : wZ) (t : Int) (y : wZ) : Prop := (∀ a, 0 ≤ a → a < z 0 0 → ds z g a b ≤ y 70 a ∧ y 70 a ≤ y0 70 a) ∧
  ∀ s, 0 ≤ s → s < t → OpT z g s → y 70 (z 11 s) ≤ z 13 s + y0 70 (z 12 s) ∧ y 70 (z 12 s) ≤ z 14 s + y0 70 (z 11 s)
theorem rkI_0 {z : wZ} {g : Nat} {b : Int} {y : wZ} (hW : WT z) (hR : Rng z) (hb : 0 ≤ b ∧ b < z 0 0) (h : ∀ a, 0 ≤ a → a < z 0 0 → y 70 a = if a = b then 0 else 1000000) : rkI z g b 0 y := by
  have hD := ds_is hW hR g b
  refine ⟨fun a h0 h1 => ?_, fun a h0 h1 hr => ?_⟩
  · rw [h a h0 h1]
    split
    · next e => subst e; rw [ds_self hW hR]; omega
    · have := (ds_in hW hR g a b); omega
  · have q := rnd_0 (n := (z 0 0).toNat) (S := fun a => if a = b then 0 else 1000000) hW hD hb.1 (by omega) (by simp) a h0 (by omega) hr
    rw [h a h0 h1]; exact q
theorem rkT_0 {z : wZ} {g : Nat} {b : Int} {r : Nat} {y : wZ} (h : rkI z g b r y) : rkT z g b y 0 y :=
  ⟨fun a h0 h1 => ⟨(h.1 a h0 h1).1, Int.le_refl _⟩, fun s h0 h1 => by omega⟩
theorem rkT_skip {z : wZ} {g : Nat} {b t : Int} {y0 y : wZ} (h : rkT z g b y0 t y) (hg : z g t ≠ 0) : rkT z g b y0 (t + 1) y :=
  ⟨h.1, fun s h0 h1 ho => by
    by_cases c : s = t
    · subst c; exact absurd ho.2.2 hg
    · exact h.2 s h0 (by omega) ho⟩
theorem rkT_step {z : wZ} {g : Nat} {b t m1 m2 : Int} {y0 y : wZ} (hW : WT z) (hR : Rng z) (h : rkT z g b y0 t y) (h0 : 0 ≤ t) (h1 : t < z 1 0) (hg : z g t = 0)
    (e1 : (m1 = y 70 (z 11 t) ∧ m1 ≤ z 13 t + y 70 (z 12 t)) ∨ (m1 = z 13 t + y 70 (z 12 t) ∧ m1 ≤ y 70 (z 11 t)))
    (e2 : (m2 = y 70 (z 12 t) ∧ m2 ≤ z 14 t + m1) ∨ (m2 = z 14 t + m1 ∧ m2 ≤ y 70 (z 12 t))) : rkT z g b y0 (t + 1) (zp (zp y 70 (z 11 t) m1) 70 (z 12 t) m2) := by
  have hw := hW t h0 h1
  have hD := (ds_is hW hR g b).2.2.1 t ⟨h0, h1, hg⟩
  simp only at hD
  have ya := h.1 (z 11 t) hw.1.1 hw.1.2
  have yb := h.1 (z 12 t) hw.2.1.1 hw.2.1.2
  have w : ∀ a, (zp (zp y 70 (z 11 t) m1) 70 (z 12 t) m2) 70 a = if a = z 12 t then m2 else if a = z 11 t then m1 else y 70 a := fun a => by simp [zp]
  have wle : ∀ a, 0 ≤ a → a < z 0 0 → (zp (zp y 70 (z 11 t) m1) 70 (z 12 t) m2) 70 a ≤ y 70 a := fun a a0 a1 => by
    rw [w]
    split
    · next e => rw [e]; omega
    · split
      · next e => rw [e]; omega
      · omega
  refine ⟨fun a a0 a1 => ?_, fun s s0 s1 ho => ?_⟩
  · have ha := h.1 a a0 a1
    have hl := wle a a0 a1
    refine ⟨?_, by omega⟩
    rw [w]
    split
    · next e => rw [e]; omega
    · split
      · next e => rw [e]; omega
      · omega
  · by_cases c : s = t
    · subst c
      rw [w, w, if_neg hw.2.2.1, if_pos rfl, if_pos rfl]
      omega
    · have hs := hW s ho.1 ho.2.1
      have q := h.2 s s0 (by omega) ho
      have a1 := wle (z 11 s) hs.1.1 hs.1.2
      have a2 := wle (z 12 s) hs.2.1.1 hs.2.1.2
      omega
theorem rkT_end {z : wZ} {g : Nat} {b : Int} {r : Nat} {y0 y : wZ} (hW : WT z) (hR : Rng z) (h : rkI z g b r y0) (ht : rkT z g b y0 (z 1 0) y) : rkI z g b (r + 1) y := by
  have hD := ds_is hW hR g b
  have q0 : 0 ≤ z 0 0 ∧ z 0 0 ≤ 16 := hR 0 0
  refine ⟨fun a h0 h1 => ⟨(ht.1 a h0 h1).1, by have := (ht.1 a h0 h1).2; have := (h.1 a h0 h1).2; omega⟩, fun a h0 h1 hr => ?_⟩
  have k := rnd_step (n := (z 0 0).toNat) (r := r) (S := fun a => if 0 ≤ a ∧ a < z 0 0 then y0 70 a else 1000000) (S' := fun a => if 0 ≤ a ∧ a < z 0 0 then y 70 a else 1000000) hW (by omega) hD
    (fun a => by
      split
      · next c => have := (ht.1 a c.1 c.2).2; have := (h.1 a c.1 c.2).2; omega
      · exact Int.le_refl _)
    (fun a => by
      split
      · next c => exact (ht.1 a c.1 c.2).2
      · exact Int.le_refl _)
    (fun t ho => by
      have hw := hW t ho.1 ho.2.1
      have q := ht.2 t ho.1 ho.2.1 ho
      rw [if_pos hw.1, if_pos hw.2.1, if_pos hw.1, if_pos hw.2.1]
      exact q)
    (fun a a0 a1 hr => by
      rw [if_pos ⟨a0, by omega⟩]
      exact h.2 a a0 (by omega) hr) a h0 (by omega) hr
  rw [if_pos ⟨h0, h1⟩] at k
  exact k
theorem rkI_end {z : wZ} {g : Nat} {b : Int} {r : Nat} {y : wZ} (h : rkI z g b r y) (hr : z 0 0 ≤ r + 1) {a : Int} (h0 : 0 ≤ a) (h1 : a < z 0 0) : y 70 a = ds z g a b := by
  have k := rk_lt (D := fun a => ds z g a b) (a := a) (n := (z 0 0).toNat) h0 (by omega)
  have u := h.2 a h0 h1 (by omega)
  have l := (h.1 a h0 h1).1
  omega
end MRK

set_option maxHeartbeats 4000000 in
set_option maxRecDepth 100000 in
theorem m_in (l : Launch) {D : va_G} {aC : Nat → ClassId} {ad : Nat → Nat} (hd : wDi ad shM) {z y : wZ} (hR : Rng z) (hY : Rng y) (x : Int) (a : Int) (b : Int) (hx : -2147483648 ≤ x ∧ x ≤ 2147483647) (ha : -2147483648 ≤ a ∧ a ≤ 2147483647) (hb : -2147483648 ≤ b ∧ b ≤ 2147483647) : cE l D aC ad shM yX8_in cX8_in 4 (.boolean) (rmL 0) [.ref (ad 40), vi x, vi a, vi b] z y ((if a ≤ x ∧ x ≤ b then 1 else 0)) := by
  refine c_i [some (.ref (ad 40)), some (vi (x)), some (vi (a)), some (vi (b))] (by decide +kernel) rfl (Nat.le_of_ble_eq_true rfl) rfl hd ?_
  intro p e s m args below meth c A G hr
  refine i_iload_n G dX8_in_0 rfl ?_
  refine i_iload_n G dX8_in_1 rfl ?_
  refine i_icmp_lt (tgt := 14) G dX8_in_2 (by decide) (by omega) (by omega) (fun h2 => ?_) (fun h2 => ?_)
  · skip
    refine i_iconst G dX8_in_14 ?_
    refine j_retz G hr (by omega) dX8_in_15 ?_
    refine ⟨?_, rfl, rfl⟩
    split <;> first | rfl | omega
  · skip
    refine i_iload_n G dX8_in_5 rfl ?_
    refine i_iload_n G dX8_in_6 rfl ?_
    refine i_icmp_gt (tgt := 14) G dX8_in_7 (by decide) (by omega) (by omega) (fun h7 => ?_) (fun h7 => ?_)
    · skip
      refine i_iconst G dX8_in_14 ?_
      refine j_retz G hr (by omega) dX8_in_15 ?_
      refine ⟨?_, rfl, rfl⟩
      split <;> first | rfl | omega
    · skip
      refine i_iconst G dX8_in_10 ?_
      refine i_goto (tgt := 15) G dX8_in_11 (by decide) ?_
      refine j_retz G hr (by omega) dX8_in_15 ?_
      refine ⟨?_, rfl, rfl⟩
      split <;> first | rfl | omega
set_option maxHeartbeats 4000000 in
set_option maxRecDepth 100000 in
theorem m_least (l : Launch) {D : va_G} {aC : Nat → ClassId} {ad : Nat → Nat} (hd : wDi ad shM) {z y : wZ} (hR : Rng z) (hY : Rng y) (a : Int) (b : Int) (ha : -2147483648 ≤ a ∧ a ≤ 2147483647) (hb : -2147483648 ≤ b ∧ b ≤ 2147483647) : cE l D aC ad shM yX8_least cX8_least 3 (.int) (rmL 0) [.ref (ad 40), vi a, vi b] z y ((if a < b then a else b)) := by
  refine c_i [some (.ref (ad 40)), some (vi (a)), some (vi (b))] (by decide +kernel) rfl (Nat.le_of_ble_eq_true rfl) rfl hd ?_
  intro p e s m args below meth c A G hr
  refine i_iload_n G dX8_least_0 rfl ?_
  refine i_iload_n G dX8_least_1 rfl ?_
  refine i_icmp_ge (tgt := 9) G dX8_least_2 (by decide) (by omega) (by omega) (fun h2 => ?_) (fun h2 => ?_)
  · skip
    refine i_iload_n G dX8_least_9 rfl ?_
    refine j_reti G hr dX8_least_10 ?_
    refine ⟨?_, rfl, rfl⟩
    split <;> first | rfl | omega
  · skip
    refine i_iload_n G dX8_least_5 rfl ?_
    refine i_goto (tgt := 10) G dX8_least_6 (by decide) ?_
    refine j_reti G hr dX8_least_10 ?_
    refine ⟨?_, rfl, rfl⟩
    split <;> first | rfl | omega
set_option maxHeartbeats 4000000 in
set_option maxRecDepth 100000 in
theorem m_fails (l : Launch) {D : va_G} {aC : Nat → ClassId} {ad : Nat → Nat} (hd : wDi ad shM) {z y : wZ} (hR : Rng z) (hY : Rng y) (pl : Int) (hpl : 0 ≤ pl ∧ pl ≤ 5) : cYi l D aC ad shM yX8_fails cX8_fails 2 (.int) (rmL 0) [.ref (ad 40), vi pl] z y (fun r_ y2 => r_ = 0 ∧ y2 = zp y 71 0 pl ∧ Rng y2) := by
  refine c_i [some (.ref (ad 40)), some (vi (pl))] (by decide +kernel) rfl (Nat.le_of_ble_eq_true rfl) rfl hd ?_
  intro p e s m args below meth c A G hr
  refine i_aload_n G dX8_fails_0 rfl ?_
  refine i_iload_n G dX8_fails_1 rfl ?_
  refine j_puty G P_X8_88 0 rfl rfl (by decide) (by decide) (by decide) hY (by show (0 : Int) ≤ _ ∧ _ ≤ (5 : Int); omega) dX8_fails_2 (fun y2 ey2 hRy2 => ?_)
  refine i_iconst G dX8_fails_5 ?_
  refine j_reti G hr dX8_fails_6 ?_
  refine ⟨rfl, ?_⟩
  exact ⟨rfl, ey2, hRy2⟩
set_option maxHeartbeats 4000000 in
set_option maxRecDepth 100000 in
theorem m_tells (l : Launch) {D : va_G} {aC : Nat → ClassId} {ad : Nat → Nat} (hd : wDi ad shM) {z y : wZ} (hR : Rng z) (hY : Rng y) (x : Int)  : cYi l D aC ad shM yX8_tells cX8_tells 2 (.int) (rmL 0) [.ref (ad 40), vi x] z y (fun r_ y2 => r_ = x ∧ y2 = zp y 71 0 0 ∧ Rng y2) := by
  refine c_i [some (.ref (ad 40)), some (vi (x))] (by decide +kernel) rfl (Nat.le_of_ble_eq_true rfl) rfl hd ?_
  intro p e s m args below meth c A G hr
  refine i_aload_n G dX8_tells_0 rfl ?_
  refine i_iconst G dX8_tells_1 ?_
  refine j_puty G P_X8_88 0 rfl rfl (by decide) (by decide) (by decide) hY (by show (0 : Int) ≤ _ ∧ _ ≤ (5 : Int); omega) dX8_tells_2 (fun y2 ey2 hRy2 => ?_)
  refine i_iload_n G dX8_tells_5 rfl ?_
  refine j_reti G hr dX8_tells_6 ?_
  refine ⟨rfl, ?_⟩
  exact ⟨rfl, ey2, hRy2⟩
set_option maxHeartbeats 4000000 in
set_option maxRecDepth 100000 in
theorem m_isFork (l : Launch) {D : va_G} {aC : Nat → ClassId} {ad : Nat → Nat} (hd : wDi ad shM) {z y : wZ} (hR : Rng z) (hY : Rng y) (x : Int) (hx : -2147483648 ≤ x ∧ x ≤ 2147483647) : cE l D aC ad shM yX8_isFork cX8_isFork 2 (.boolean) (rmL 1) [.ref (ad 40), vi x] z y ((if 0 ≤ x ∧ x < z 0 0 then 1 else 0)) := by
  refine c_i [some (.ref (ad 40)), some (vi (x))] (by decide +kernel) rfl (Nat.le_of_ble_eq_true rfl) rfl hd ?_
  intro p e s m args below meth c A G hr
  refine i_aload_n G dX8_isFork_0 rfl ?_
  refine i_iload_n G dX8_isFork_1 rfl ?_
  refine i_iconst G dX8_isFork_2 ?_
  refine i_aload_n G dX8_isFork_3 rfl ?_
  refine j_getz G F_X8_91 0 rfl rfl (by decide) dX8_isFork_4 ?_
  have b4 : 0 ≤ z 0 0 ∧ z 0 0 ≤ 16 := hR 0 _
  refine i_iconst G dX8_isFork_7 ?_
  refine i_isub G dX8_isFork_8 ?_
  refine j_callE (q0 := 0) (As := [vi (x), vi (0), vi (((z 0 0) - 1))]) (st := []) G K_X8_94 (m_in l hd hR hY x 0 ((z 0 0) - 1) (by first | assumption | omega) (by first | assumption | omega) (by first | assumption | omega)) rfl rfl rfl (rm_ok (by decide) (by decide)) ⟨Nat.le_refl _, Nat.le_refl _⟩ (Nat.le_of_ble_eq_true rfl) dX8_isFork_9 ?_
  obtain ⟨r9, er9⟩ : ∃ x_ : Int, x_ = (if 0 ≤ x ∧ x ≤ ((z 0 0) - 1) then 1 else 0) := ⟨_, rfl⟩
  rw [← er9]
  have b9 : (r9 = 1 ∧ 0 ≤ x ∧ x ≤ ((z 0 0) - 1)) ∨ (r9 = 0 ∧ ¬ (0 ≤ x ∧ x ≤ ((z 0 0) - 1))) := by rw [er9]; split <;> omega
  refine j_retz G hr (by omega) dX8_isFork_12 ?_
  refine ⟨?_, rfl, rfl⟩
  split <;> omega
set_option maxHeartbeats 4000000 in
set_option maxRecDepth 100000 in
theorem m_isTrail (l : Launch) {D : va_G} {aC : Nat → ClassId} {ad : Nat → Nat} (hd : wDi ad shM) {z y : wZ} (hR : Rng z) (hY : Rng y) (x : Int) (hx : -2147483648 ≤ x ∧ x ≤ 2147483647) : cE l D aC ad shM yX8_isTrail cX8_isTrail 2 (.boolean) (rmL 1) [.ref (ad 40), vi x] z y ((if 0 ≤ x ∧ x < z 1 0 then 1 else 0)) := by
  refine c_i [some (.ref (ad 40)), some (vi (x))] (by decide +kernel) rfl (Nat.le_of_ble_eq_true rfl) rfl hd ?_
  intro p e s m args below meth c A G hr
  refine i_aload_n G dX8_isTrail_0 rfl ?_
  refine i_iload_n G dX8_isTrail_1 rfl ?_
  refine i_iconst G dX8_isTrail_2 ?_
  refine i_aload_n G dX8_isTrail_3 rfl ?_
  refine j_getz G F_X8_98 0 rfl rfl (by decide) dX8_isTrail_4 ?_
  have b4 : 0 ≤ z 1 0 ∧ z 1 0 ≤ 24 := hR 1 _
  refine i_iconst G dX8_isTrail_7 ?_
  refine i_isub G dX8_isTrail_8 ?_
  refine j_callE (q0 := 0) (As := [vi (x), vi (0), vi (((z 1 0) - 1))]) (st := []) G K_X8_94 (m_in l hd hR hY x 0 ((z 1 0) - 1) (by first | assumption | omega) (by first | assumption | omega) (by first | assumption | omega)) rfl rfl rfl (rm_ok (by decide) (by decide)) ⟨Nat.le_refl _, Nat.le_refl _⟩ (Nat.le_of_ble_eq_true rfl) dX8_isTrail_9 ?_
  obtain ⟨r9, er9⟩ : ∃ x_ : Int, x_ = (if 0 ≤ x ∧ x ≤ ((z 1 0) - 1) then 1 else 0) := ⟨_, rfl⟩
  rw [← er9]
  have b9 : (r9 = 1 ∧ 0 ≤ x ∧ x ≤ ((z 1 0) - 1)) ∨ (r9 = 0 ∧ ¬ (0 ≤ x ∧ x ≤ ((z 1 0) - 1))) := by rw [er9]; split <;> omega
  refine j_retz G hr (by omega) dX8_isTrail_12 ?_
  refine ⟨?_, rfl, rfl⟩
  split <;> omega
set_option maxHeartbeats 4000000 in
set_option maxRecDepth 100000 in
theorem m_isBoard (l : Launch) {D : va_G} {aC : Nat → ClassId} {ad : Nat → Nat} (hd : wDi ad shM) {z y : wZ} (hR : Rng z) (hY : Rng y) (x : Int) (hx : -2147483648 ≤ x ∧ x ≤ 2147483647) : cE l D aC ad shM yX8_isBoard cX8_isBoard 2 (.boolean) (rmL 1) [.ref (ad 40), vi x] z y ((if 0 ≤ x ∧ x < z 2 0 then 1 else 0)) := by
  refine c_i [some (.ref (ad 40)), some (vi (x))] (by decide +kernel) rfl (Nat.le_of_ble_eq_true rfl) rfl hd ?_
  intro p e s m args below meth c A G hr
  refine i_aload_n G dX8_isBoard_0 rfl ?_
  refine i_iload_n G dX8_isBoard_1 rfl ?_
  refine i_iconst G dX8_isBoard_2 ?_
  refine i_aload_n G dX8_isBoard_3 rfl ?_
  refine j_getz G F_X8_101 0 rfl rfl (by decide) dX8_isBoard_4 ?_
  have b4 : 0 ≤ z 2 0 ∧ z 2 0 ≤ 30 := hR 2 _
  refine i_iconst G dX8_isBoard_7 ?_
  refine i_isub G dX8_isBoard_8 ?_
  refine j_callE (q0 := 0) (As := [vi (x), vi (0), vi (((z 2 0) - 1))]) (st := []) G K_X8_94 (m_in l hd hR hY x 0 ((z 2 0) - 1) (by first | assumption | omega) (by first | assumption | omega) (by first | assumption | omega)) rfl rfl rfl (rm_ok (by decide) (by decide)) ⟨Nat.le_refl _, Nat.le_refl _⟩ (Nat.le_of_ble_eq_true rfl) dX8_isBoard_9 ?_
  obtain ⟨r9, er9⟩ : ∃ x_ : Int, x_ = (if 0 ≤ x ∧ x ≤ ((z 2 0) - 1) then 1 else 0) := ⟨_, rfl⟩
  rw [← er9]
  have b9 : (r9 = 1 ∧ 0 ≤ x ∧ x ≤ ((z 2 0) - 1)) ∨ (r9 = 0 ∧ ¬ (0 ≤ x ∧ x ≤ ((z 2 0) - 1))) := by rw [er9]; split <;> omega
  refine j_retz G hr (by omega) dX8_isBoard_12 ?_
  refine ⟨?_, rfl, rfl⟩
  split <;> omega
set_option maxHeartbeats 4000000 in
set_option maxRecDepth 100000 in
theorem m_isTask (l : Launch) {D : va_G} {aC : Nat → ClassId} {ad : Nat → Nat} (hd : wDi ad shM) {z y : wZ} (hR : Rng z) (hY : Rng y) (x : Int) (hx : -2147483648 ≤ x ∧ x ≤ 2147483647) : cE l D aC ad shM yX8_isTask cX8_isTask 2 (.boolean) (rmL 1) [.ref (ad 40), vi x] z y ((if 0 ≤ x ∧ x < z 3 0 then 1 else 0)) := by
  refine c_i [some (.ref (ad 40)), some (vi (x))] (by decide +kernel) rfl (Nat.le_of_ble_eq_true rfl) rfl hd ?_
  intro p e s m args below meth c A G hr
  refine i_aload_n G dX8_isTask_0 rfl ?_
  refine i_iload_n G dX8_isTask_1 rfl ?_
  refine i_iconst G dX8_isTask_2 ?_
  refine i_aload_n G dX8_isTask_3 rfl ?_
  refine j_getz G F_X8_104 0 rfl rfl (by decide) dX8_isTask_4 ?_
  have b4 : 0 ≤ z 3 0 ∧ z 3 0 ≤ 40 := hR 3 _
  refine i_iconst G dX8_isTask_7 ?_
  refine i_isub G dX8_isTask_8 ?_
  refine j_callE (q0 := 0) (As := [vi (x), vi (0), vi (((z 3 0) - 1))]) (st := []) G K_X8_94 (m_in l hd hR hY x 0 ((z 3 0) - 1) (by first | assumption | omega) (by first | assumption | omega) (by first | assumption | omega)) rfl rfl rfl (rm_ok (by decide) (by decide)) ⟨Nat.le_refl _, Nat.le_refl _⟩ (Nat.le_of_ble_eq_true rfl) dX8_isTask_9 ?_
  obtain ⟨r9, er9⟩ : ∃ x_ : Int, x_ = (if 0 ≤ x ∧ x ≤ ((z 3 0) - 1) then 1 else 0) := ⟨_, rfl⟩
  rw [← er9]
  have b9 : (r9 = 1 ∧ 0 ≤ x ∧ x ≤ ((z 3 0) - 1)) ∨ (r9 = 0 ∧ ¬ (0 ≤ x ∧ x ≤ ((z 3 0) - 1))) := by rw [er9]; split <;> omega
  refine j_retz G hr (by omega) dX8_isTask_12 ?_
  refine ⟨?_, rfl, rfl⟩
  split <;> omega
set_option maxHeartbeats 4000000 in
set_option maxRecDepth 100000 in
theorem m_isRanger (l : Launch) {D : va_G} {aC : Nat → ClassId} {ad : Nat → Nat} (hd : wDi ad shM) {z y : wZ} (hR : Rng z) (hY : Rng y) (x : Int) (hx : -2147483648 ≤ x ∧ x ≤ 2147483647) : cE l D aC ad shM yX8_isRanger cX8_isRanger 2 (.boolean) (rmL 1) [.ref (ad 40), vi x] z y ((if 0 ≤ x ∧ x < z 4 0 then 1 else 0)) := by
  refine c_i [some (.ref (ad 40)), some (vi (x))] (by decide +kernel) rfl (Nat.le_of_ble_eq_true rfl) rfl hd ?_
  intro p e s m args below meth c A G hr
  refine i_aload_n G dX8_isRanger_0 rfl ?_
  refine i_iload_n G dX8_isRanger_1 rfl ?_
  refine i_iconst G dX8_isRanger_2 ?_
  refine i_aload_n G dX8_isRanger_3 rfl ?_
  refine j_getz G F_X8_107 0 rfl rfl (by decide) dX8_isRanger_4 ?_
  have b4 : 0 ≤ z 4 0 ∧ z 4 0 ≤ 4 := hR 4 _
  refine i_iconst G dX8_isRanger_7 ?_
  refine i_isub G dX8_isRanger_8 ?_
  refine j_callE (q0 := 0) (As := [vi (x), vi (0), vi (((z 4 0) - 1))]) (st := []) G K_X8_94 (m_in l hd hR hY x 0 ((z 4 0) - 1) (by first | assumption | omega) (by first | assumption | omega) (by first | assumption | omega)) rfl rfl rfl (rm_ok (by decide) (by decide)) ⟨Nat.le_refl _, Nat.le_refl _⟩ (Nat.le_of_ble_eq_true rfl) dX8_isRanger_9 ?_
  obtain ⟨r9, er9⟩ : ∃ x_ : Int, x_ = (if 0 ≤ x ∧ x ≤ ((z 4 0) - 1) then 1 else 0) := ⟨_, rfl⟩
  rw [← er9]
  have b9 : (r9 = 1 ∧ 0 ≤ x ∧ x ≤ ((z 4 0) - 1)) ∨ (r9 = 0 ∧ ¬ (0 ≤ x ∧ x ≤ ((z 4 0) - 1))) := by rw [er9]; split <;> omega
  refine j_retz G hr (by omega) dX8_isRanger_12 ?_
  refine ⟨?_, rfl, rfl⟩
  split <;> omega
set_option maxHeartbeats 4000000 in
set_option maxRecDepth 100000 in
theorem m_isMap (l : Launch) {D : va_G} {aC : Nat → ClassId} {ad : Nat → Nat} (hd : wDi ad shM) {z y : wZ} (hR : Rng z) (hY : Rng y) (x : Int) (hx : -2147483648 ≤ x ∧ x ≤ 2147483647) : cE l D aC ad shM yX8_isMap cX8_isMap 2 (.boolean) (rmL 1) [.ref (ad 40), vi x] z y ((if 0 ≤ x ∧ x < z 5 0 then 1 else 0)) := by
  refine c_i [some (.ref (ad 40)), some (vi (x))] (by decide +kernel) rfl (Nat.le_of_ble_eq_true rfl) rfl hd ?_
  intro p e s m args below meth c A G hr
  refine i_aload_n G dX8_isMap_0 rfl ?_
  refine i_iload_n G dX8_isMap_1 rfl ?_
  refine i_iconst G dX8_isMap_2 ?_
  refine i_aload_n G dX8_isMap_3 rfl ?_
  refine j_getz G F_X8_217 0 rfl rfl (by decide) dX8_isMap_4 ?_
  have b4 : 0 ≤ z 5 0 ∧ z 5 0 ≤ 10 := hR 5 _
  refine i_iconst G dX8_isMap_7 ?_
  refine i_isub G dX8_isMap_8 ?_
  refine j_callE (q0 := 0) (As := [vi (x), vi (0), vi (((z 5 0) - 1))]) (st := []) G K_X8_94 (m_in l hd hR hY x 0 ((z 5 0) - 1) (by first | assumption | omega) (by first | assumption | omega) (by first | assumption | omega)) rfl rfl rfl (rm_ok (by decide) (by decide)) ⟨Nat.le_refl _, Nat.le_refl _⟩ (Nat.le_of_ble_eq_true rfl) dX8_isMap_9 ?_
  obtain ⟨r9, er9⟩ : ∃ x_ : Int, x_ = (if 0 ≤ x ∧ x ≤ ((z 5 0) - 1) then 1 else 0) := ⟨_, rfl⟩
  rw [← er9]
  have b9 : (r9 = 1 ∧ 0 ≤ x ∧ x ≤ ((z 5 0) - 1)) ∨ (r9 = 0 ∧ ¬ (0 ≤ x ∧ x ≤ ((z 5 0) - 1))) := by rw [er9]; split <;> omega
  refine j_retz G hr (by omega) dX8_isMap_12 ?_
  refine ⟨?_, rfl, rfl⟩
  split <;> omega
set_option maxHeartbeats 4000000 in
set_option maxRecDepth 100000 in
theorem m_isShut_0 (l : Launch) {D : va_G} {aC : Nat → ClassId} {ad : Nat → Nat} (hd : wDi ad shM) {z y : wZ} (hR : Rng z) (hY : Rng y) (t : Int) (ht : 0 ≤ t ∧ t < 24) : cE l D aC ad shM yX8_isShut cX8_isShut 3 (.boolean) (rmL 0) [.ref (ad 40), vi t, vi 0] z y (z 16 t) := by
  refine c_i [some (.ref (ad 40)), some (vi (t)), some (vi (0))] (by decide +kernel) rfl (Nat.le_of_ble_eq_true rfl) rfl hd ?_
  intro p e s m args below meth c A G hr
  refine i_iload_n G dX8_isShut_0 rfl ?_
  refine i_if_eq (tgt := 13) G dX8_isShut_1 (by decide) (by omega) (fun h1 => ?_) (fun h1 => ?_)
  · skip
    refine i_aload_n G dX8_isShut_13 rfl ?_
    refine i_getr G F_X8_33 0 rfl rfl dX8_isShut_14 ?_
    refine i_iload_n G dX8_isShut_17 rfl ?_
    refine j_zald_z G 7 rfl (by decide) (by decide) (by omega) (by omega) dX8_isShut_18 ?_
    have b18 : 0 ≤ z 16 t ∧ z 16 t ≤ 1 := hR 16 _
    refine j_retz G hr (by omega) dX8_isShut_19 ?_
    exact ⟨rfl, rfl, rfl⟩
  · skip
    exfalso; omega
set_option maxHeartbeats 4000000 in
set_option maxRecDepth 100000 in
theorem m_isShut_1 (l : Launch) {D : va_G} {aC : Nat → ClassId} {ad : Nat → Nat} (hd : wDi ad shM) {z y : wZ} (hR : Rng z) (hY : Rng y) (t : Int) (ht : 0 ≤ t ∧ t < 24) : cE l D aC ad shM yX8_isShut cX8_isShut 3 (.boolean) (rmL 0) [.ref (ad 40), vi t, vi 1] z y (z 15 t) := by
  refine c_i [some (.ref (ad 40)), some (vi (t)), some (vi (1))] (by decide +kernel) rfl (Nat.le_of_ble_eq_true rfl) rfl hd ?_
  intro p e s m args below meth c A G hr
  refine i_iload_n G dX8_isShut_0 rfl ?_
  refine i_if_eq (tgt := 13) G dX8_isShut_1 (by decide) (by omega) (fun h1 => ?_) (fun h1 => ?_)
  · skip
    exfalso; omega
  · skip
    refine i_aload_n G dX8_isShut_4 rfl ?_
    refine i_getr G F_X8_30 0 rfl rfl dX8_isShut_5 ?_
    refine i_iload_n G dX8_isShut_8 rfl ?_
    refine j_zald_z G 6 rfl (by decide) (by decide) (by omega) (by omega) dX8_isShut_9 ?_
    have b9 : 0 ≤ z 15 t ∧ z 15 t ≤ 1 := hR 15 _
    refine i_goto (tgt := 19) G dX8_isShut_10 (by decide) ?_
    refine j_retz G hr (by omega) dX8_isShut_19 ?_
    exact ⟨rfl, rfl, rfl⟩
set_option maxHeartbeats 4000000 in
set_option maxRecDepth 100000 in
theorem m_of (l : Launch) {D : va_G} {aC : Nat → ClassId} {ad : Nat → Nat} (hd : wDi ad shM) {z y : wZ} (hR : Rng z) (hY : Rng y) (t : Int) (f : Int) (ht : 0 ≤ t ∧ t < 24) (hf : -2147483648 ≤ f ∧ f ≤ 2147483647) : cE l D aC ad shM yX8_of cX8_of 3 (.int) (rmL 0) [.ref (ad 40), vi t, vi f] z y (ofm z t f) := by
  refine c_i [some (.ref (ad 40)), some (vi (t)), some (vi (f))] (by decide +kernel) rfl (Nat.le_of_ble_eq_true rfl) rfl hd ?_
  intro p e s m args below meth c A G hr
  refine i_aload_n G dX8_of_0 rfl ?_
  refine i_getr G F_X8_17 0 rfl rfl dX8_of_1 ?_
  refine i_iload_n G dX8_of_4 rfl ?_
  refine j_iald_z G 2 rfl (by decide) (by decide) (by omega) (by omega) dX8_of_5 ?_
  have b5 : 0 ≤ z 11 t ∧ z 11 t ≤ 15 := hR 11 _
  refine i_iload_n G dX8_of_6 rfl ?_
  refine i_icmp_ne (tgt := 19) G dX8_of_7 (by decide) (by omega) (by omega) (fun h7 => ?_) (fun h7 => ?_)
  · skip
    refine i_aload_n G dX8_of_19 rfl ?_
    refine i_getr G F_X8_27 0 rfl rfl dX8_of_20 ?_
    refine i_iload_n G dX8_of_23 rfl ?_
    refine j_iald_z G 5 rfl (by decide) (by decide) (by omega) (by omega) dX8_of_24 ?_
    have b24 : 0 ≤ z 14 t ∧ z 14 t ≤ 300 := hR 14 _
    refine j_reti G hr dX8_of_25 ?_
    refine ⟨?_, rfl, rfl⟩
    unfold ofm
    (repeat' split) <;> first | rfl | omega
  · skip
    refine i_aload_n G dX8_of_10 rfl ?_
    refine i_getr G F_X8_24 0 rfl rfl dX8_of_11 ?_
    refine i_iload_n G dX8_of_14 rfl ?_
    refine j_iald_z G 4 rfl (by decide) (by decide) (by omega) (by omega) dX8_of_15 ?_
    have b15 : 0 ≤ z 13 t ∧ z 13 t ≤ 300 := hR 13 _
    refine i_goto (tgt := 25) G dX8_of_16 (by decide) ?_
    refine j_reti G hr dX8_of_25 ?_
    refine ⟨?_, rfl, rfl⟩
    unfold ofm
    (repeat' split) <;> first | rfl | omega
set_option maxHeartbeats 4000000 in
set_option maxRecDepth 100000 in
theorem m_other (l : Launch) {D : va_G} {aC : Nat → ClassId} {ad : Nat → Nat} (hd : wDi ad shM) {z y : wZ} (hR : Rng z) (hY : Rng y) (t : Int) (f : Int) (ht : 0 ≤ t ∧ t < 24) (hf : -2147483648 ≤ f ∧ f ≤ 2147483647) : cE l D aC ad shM yX8_other cX8_other 3 (.int) (rmL 0) [.ref (ad 40), vi t, vi f] z y (oth z t f) := by
  refine c_i [some (.ref (ad 40)), some (vi (t)), some (vi (f))] (by decide +kernel) rfl (Nat.le_of_ble_eq_true rfl) rfl hd ?_
  intro p e s m args below meth c A G hr
  refine i_aload_n G dX8_other_0 rfl ?_
  refine i_getr G F_X8_17 0 rfl rfl dX8_other_1 ?_
  refine i_iload_n G dX8_other_4 rfl ?_
  refine j_iald_z G 2 rfl (by decide) (by decide) (by omega) (by omega) dX8_other_5 ?_
  have b5 : 0 ≤ z 11 t ∧ z 11 t ≤ 15 := hR 11 _
  refine i_iload_n G dX8_other_6 rfl ?_
  refine i_icmp_ne (tgt := 19) G dX8_other_7 (by decide) (by omega) (by omega) (fun h7 => ?_) (fun h7 => ?_)
  · skip
    refine i_aload_n G dX8_other_19 rfl ?_
    refine i_getr G F_X8_17 0 rfl rfl dX8_other_20 ?_
    refine i_iload_n G dX8_other_23 rfl ?_
    refine j_iald_z G 2 rfl (by decide) (by decide) (by omega) (by omega) dX8_other_24 ?_
    have b24 : 0 ≤ z 11 t ∧ z 11 t ≤ 15 := hR 11 _
    refine j_reti G hr dX8_other_25 ?_
    refine ⟨?_, rfl, rfl⟩
    unfold oth
    (repeat' split) <;> first | rfl | omega
  · skip
    refine i_aload_n G dX8_other_10 rfl ?_
    refine i_getr G F_X8_21 0 rfl rfl dX8_other_11 ?_
    refine i_iload_n G dX8_other_14 rfl ?_
    refine j_iald_z G 3 rfl (by decide) (by decide) (by omega) (by omega) dX8_other_15 ?_
    have b15 : 0 ≤ z 12 t ∧ z 12 t ≤ 15 := hR 12 _
    refine i_goto (tgt := 25) G dX8_other_16 (by decide) ?_
    refine j_reti G hr dX8_other_25 ?_
    refine ⟨?_, rfl, rfl⟩
    unfold oth
    (repeat' split) <;> first | rfl | omega
set_option maxHeartbeats 4000000 in
set_option maxRecDepth 100000 in
theorem m_reckons_0 (l : Launch) {D : va_G} {aC : Nat → ClassId} {ad : Nat → Nat} (hd : wDi ad shM) {z y : wZ} (hR : Rng z) (hY : Rng y) (gl : Int) (hW : WT z) (hgl : 0 ≤ gl ∧ gl < z 0 0) : cYv l D aC ad shM yX8_reckons cX8_reckons 5 (rmL 1) [.ref (ad 40), vi gl, vi 0] z y (fun y2 => Rng y2 ∧ (∀ k', k' ≠ 70 → y2 k' = y k') ∧ ∀ a, 0 ≤ a → a < z 0 0 → y2 70 a = ds z 16 a gl) := by
  refine c_v [some (.ref (ad 40)), some (vi (gl)), some (vi (0)), none, none] (by decide +kernel) rfl (Nat.le_of_ble_eq_true rfl) rfl hd ?_
  intro p e s m args below meth c A G hr
  have q0 : 0 ≤ z 0 0 ∧ z 0 0 ≤ 16 := hR 0 0
  have q1 : 0 ≤ z 1 0 ∧ z 1 0 ≤ 24 := hR 1 0
  refine i_iconst G dX8_reckons_0 ?_
  refine i_istore_n (L' := [some (.ref (ad 40)), some (vi (gl)), some (vi (0)), some (vi (0)), none]) G dX8_reckons_1 (by decide) rfl ?_
  refine i_forget (L' := [some (.ref (ad 40)), some (vi (gl)), some (vi (0)), some (vi (0)), none]) ⟨rfl, ⟨rfl, ⟨rfl, ⟨rfl, trivial⟩⟩⟩⟩ ?_
  have lp2 : ∀ (n2 : Nat) (j : Int) (y2_ : wZ), Rng y2_ → (0 ≤ j) → (j + n2 = z 0 0) → (∀ k', k' ≠ 70 → y2_ k' = y k') → (∀ a, 0 ≤ a → a < j → y2_ 70 a = if a = gl then 0 else 1000000) → JW p l e (rmL 1) s m args below meth c 5 D aC ad A shM (MQ below (cQv D aC ad shM (fun z_ y_ => z_ = z ∧ (fun y2 => Rng y2 ∧ (∀ k', k' ≠ 70 → y2 k' = y k') ∧ ∀ a, 0 ≤ a → a < z 0 0 → y2 70 a = ds z 16 a gl) y_) A) args s 0 0 A) 0 0 (zc z y2_) 2 [some (.ref (ad 40)), some (vi (gl)), some (vi (0)), some (vi (j)), none] [] := by
    intro n2
    induction n2 with
    | zero => 
      intro j y2_ hRy2_ hj hn ho hf
      refine i_iload_n G dX8_reckons_2 rfl ?_
      refine i_aload_n G dX8_reckons_3 rfl ?_
      refine j_getz G F_X8_91 0 rfl rfl (by decide) dX8_reckons_4 ?_
      have b4 : 0 ≤ z 0 0 ∧ z 0 0 ≤ 16 := hR 0 _
      refine i_icmp_ge (tgt := 33) G dX8_reckons_7 (by decide) (by omega) (by omega) (fun h7 => ?_) (fun h7 => ?_)
      · skip
        refine i_iconst G dX8_reckons_33 ?_
        refine i_istore_n (L' := [some (.ref (ad 40)), some (vi (gl)), some (vi (0)), some (vi (0)), none]) G dX8_reckons_34 (by decide) rfl ?_
        refine i_forget (L' := [some (.ref (ad 40)), some (vi (gl)), some (vi (0)), some (vi (0)), none]) ⟨rfl, ⟨rfl, ⟨rfl, ⟨rfl, trivial⟩⟩⟩⟩ ?_
        have lp35 : ∀ (n35 : Nat) (r : Nat) (y35_ : wZ), Rng y35_ → ((r : Int) + n35 = z 0 0) → (∀ k', k' ≠ 70 → y35_ k' = y k') → (rkI z 16 gl r y35_) → JW p l e (rmL 1) s m args below meth c 5 D aC ad A shM (MQ below (cQv D aC ad shM (fun z_ y_ => z_ = z ∧ (fun y2 => Rng y2 ∧ (∀ k', k' ≠ 70 → y2 k' = y k') ∧ ∀ a, 0 ≤ a → a < z 0 0 → y2 70 a = ds z 16 a gl) y_) A) args s 0 0 A) 0 0 (zc z y35_) 35 [some (.ref (ad 40)), some (vi (gl)), some (vi (0)), some (vi ((r : Int))), none] [] := by
          intro n35
          induction n35 with
          | zero => 
            intro r y35_ hRy35_ hn2 ho2 hI
            refine i_iload_n G dX8_reckons_35 rfl ?_
            refine i_aload_n G dX8_reckons_36 rfl ?_
            refine j_getz G F_X8_91 0 rfl rfl (by decide) dX8_reckons_37 ?_
            have b37 : 0 ≤ z 0 0 ∧ z 0 0 ≤ 16 := hR 0 _
            refine i_icmp_ge (tgt := 176) G dX8_reckons_40 (by decide) (by omega) (by omega) (fun h40 => ?_) (fun h40 => ?_)
            · skip
              refine j_retv G hr dX8_reckons_176 ?_
              refine ⟨rfl, ?_⟩
              exact ⟨hRy35_, ho2, fun a h0 h1 => rkI_end hI (by omega) h0 h1⟩
            · skip
              exfalso; omega
          | succ n35 ih35 => 
            intro r y35_ hRy35_ hn2 ho2 hI
            refine i_iload_n G dX8_reckons_35 rfl ?_
            refine i_aload_n G dX8_reckons_36 rfl ?_
            refine j_getz G F_X8_91 0 rfl rfl (by decide) dX8_reckons_37 ?_
            have b37 : 0 ≤ z 0 0 ∧ z 0 0 ≤ 16 := hR 0 _
            refine i_icmp_ge (tgt := 176) G dX8_reckons_40 (by decide) (by omega) (by omega) (fun h40 => ?_) (fun h40 => ?_)
            · skip
              exfalso; omega
            · skip
              refine i_iconst G dX8_reckons_43 ?_
              refine i_istore (L' := [some (.ref (ad 40)), some (vi (gl)), some (vi (0)), some (vi ((r : Int))), some (vi (0))]) G dX8_reckons_44 (by decide) rfl ?_
              have lp46 : ∀ (n46 : Nat) (t : Int) (y46_ : wZ), Rng y46_ → (0 ≤ t) → (t + n46 = z 1 0) → (∀ k', k' ≠ 70 → y46_ k' = y k') → (rkT z 16 gl y35_ t y46_) → JW p l e (rmL 1) s m args below meth c 5 D aC ad A shM (MQ below (cQv D aC ad shM (fun z_ y_ => z_ = z ∧ (fun y2 => Rng y2 ∧ (∀ k', k' ≠ 70 → y2 k' = y k') ∧ ∀ a, 0 ≤ a → a < z 0 0 → y2 70 a = ds z 16 a gl) y_) A) args s 0 0 A) 0 0 (zc z y46_) 46 [some (.ref (ad 40)), some (vi (gl)), some (vi (0)), some (vi ((r : Int))), some (vi (t))] [] := by
                intro n46
                induction n46 with
                | zero => 
                  intro t y46_ hRy46_ ht hm ho3 hT
                  refine i_iload G dX8_reckons_46 rfl ?_
                  refine i_aload_n G dX8_reckons_48 rfl ?_
                  refine j_getz G F_X8_98 0 rfl rfl (by decide) dX8_reckons_49 ?_
                  have b49 : 0 ≤ z 1 0 ∧ z 1 0 ≤ 24 := hR 1 _
                  refine i_icmp_ge (tgt := 170) G dX8_reckons_52 (by decide) (by omega) (by omega) (fun h52 => ?_) (fun h52 => ?_)
                  · skip
                    refine i_iinc (L' := [some (.ref (ad 40)), some (vi (gl)), some (vi (0)), some (vi ((r : Int) + 1)), some (vi (t))]) G dX8_reckons_170 (by decide) rfl rfl ?_
                    refine i_goto (tgt := 35) G dX8_reckons_173 (by decide) ?_
                    refine i_forget (L' := [some (.ref (ad 40)), some (vi (gl)), some (vi (0)), some (vi ((r : Int) + 1)), none]) ⟨rfl, ⟨rfl, ⟨rfl, ⟨rfl, trivial⟩⟩⟩⟩ ?_
                    exact ih35 (r + 1) y46_ hRy46_ (by omega) ho3 (rkT_end hW hR hI (by rw [show z 1 0 = t by omega]; exact hT))
                  · skip
                    exfalso; omega
                | succ n46 ih46 => 
                  intro t y46_ hRy46_ ht hm ho3 hT
                  refine i_iload G dX8_reckons_46 rfl ?_
                  refine i_aload_n G dX8_reckons_48 rfl ?_
                  refine j_getz G F_X8_98 0 rfl rfl (by decide) dX8_reckons_49 ?_
                  have b49 : 0 ≤ z 1 0 ∧ z 1 0 ≤ 24 := hR 1 _
                  refine i_icmp_ge (tgt := 170) G dX8_reckons_52 (by decide) (by omega) (by omega) (fun h52 => ?_) (fun h52 => ?_)
                  · skip
                    exfalso; omega
                  · skip
                    have hw := hW t ht (by omega)
                    refine i_aload_n G dX8_reckons_55 rfl ?_
                    refine i_iload G dX8_reckons_56 rfl ?_
                    refine i_iload_n G dX8_reckons_58 rfl ?_
                    refine j_callE (q0 := 0) (As := [vi (t), vi (0)]) (st := []) G K_X8_124 (m_isShut_0 l hd hR hRy46_ t (by first | assumption | omega)) rfl rfl rfl (rm_ok (by decide) (by decide)) ⟨Nat.le_refl _, Nat.le_refl _⟩ (Nat.le_of_ble_eq_true rfl) dX8_reckons_59 ?_
                    have b59 : 0 ≤ (z 16 t) ∧ (z 16 t) ≤ 1 := hR 16 _
                    refine i_if_eq (tgt := 68) G dX8_reckons_62 (by decide) (by omega) (fun h62 => ?_) (fun h62 => ?_)
                    · skip
                      refine i_aload_n G dX8_reckons_68 rfl ?_
                      refine i_getr G F_X8_85 0 rfl rfl dX8_reckons_69 ?_
                      refine i_aload_n G dX8_reckons_72 rfl ?_
                      refine i_getr G F_X8_17 0 rfl rfl dX8_reckons_73 ?_
                      refine i_iload G dX8_reckons_76 rfl ?_
                      refine j_iald_z G 2 rfl (by decide) (by decide) (by omega) (by omega) dX8_reckons_78 ?_
                      have b78 : 0 ≤ z 11 t ∧ z 11 t ≤ 15 := hR 11 _
                      refine i_aload_n G dX8_reckons_79 rfl ?_
                      refine i_aload_n G dX8_reckons_80 rfl ?_
                      refine i_getr G F_X8_85 0 rfl rfl dX8_reckons_81 ?_
                      refine i_aload_n G dX8_reckons_84 rfl ?_
                      refine i_getr G F_X8_17 0 rfl rfl dX8_reckons_85 ?_
                      refine i_iload G dX8_reckons_88 rfl ?_
                      refine j_iald_z G 2 rfl (by decide) (by decide) (by omega) (by omega) dX8_reckons_90 ?_
                      have b90 : 0 ≤ z 11 t ∧ z 11 t ≤ 15 := hR 11 _
                      refine j_iald_y G 24 rfl (by decide) (by decide) (by omega) (by omega) dX8_reckons_91 ?_
                      have b91 : 0 ≤ y46_ 70 (z 11 t) ∧ y46_ 70 (z 11 t) ≤ 1000000 := hRy46_ 70 _
                      refine i_aload_n G dX8_reckons_92 rfl ?_
                      refine i_getr G F_X8_24 0 rfl rfl dX8_reckons_93 ?_
                      refine i_iload G dX8_reckons_96 rfl ?_
                      refine j_iald_z G 4 rfl (by decide) (by decide) (by omega) (by omega) dX8_reckons_98 ?_
                      have b98 : 0 ≤ z 13 t ∧ z 13 t ≤ 300 := hR 13 _
                      refine i_aload_n G dX8_reckons_99 rfl ?_
                      refine i_getr G F_X8_85 0 rfl rfl dX8_reckons_100 ?_
                      refine i_aload_n G dX8_reckons_103 rfl ?_
                      refine i_getr G F_X8_21 0 rfl rfl dX8_reckons_104 ?_
                      refine i_iload G dX8_reckons_107 rfl ?_
                      refine j_iald_z G 3 rfl (by decide) (by decide) (by omega) (by omega) dX8_reckons_109 ?_
                      have b109 : 0 ≤ z 12 t ∧ z 12 t ≤ 15 := hR 12 _
                      refine j_iald_y G 24 rfl (by decide) (by decide) (by omega) (by omega) dX8_reckons_110 ?_
                      have b110 : 0 ≤ y46_ 70 (z 12 t) ∧ y46_ 70 (z 12 t) ≤ 1000000 := hRy46_ 70 _
                      refine i_iadd G dX8_reckons_111 ?_
                      refine j_callE (q0 := 0) (As := [vi ((y46_ 70 (z 11 t))), vi (((z 13 t) + (y46_ 70 (z 12 t))))]) (st := [vi ((z 11 t)), .ref (ad 64)]) G K_X8_129 (m_least l hd hR hRy46_ (y46_ 70 (z 11 t)) ((z 13 t) + (y46_ 70 (z 12 t))) (by first | assumption | omega) (by first | assumption | omega)) rfl rfl rfl (rm_ok (by decide) (by decide)) ⟨Nat.le_refl _, Nat.le_refl _⟩ (Nat.le_of_ble_eq_true rfl) dX8_reckons_112 ?_
                      obtain ⟨r112, er112⟩ : ∃ x_ : Int, x_ = (if (y46_ 70 (z 11 t)) < ((z 13 t) + (y46_ 70 (z 12 t))) then (y46_ 70 (z 11 t)) else ((z 13 t) + (y46_ 70 (z 12 t)))) := ⟨_, rfl⟩
                      rw [← er112]
                      have b112 : (r112 = (y46_ 70 (z 11 t)) ∧ r112 ≤ ((z 13 t) + (y46_ 70 (z 12 t)))) ∨ (r112 = ((z 13 t) + (y46_ 70 (z 12 t))) ∧ r112 ≤ (y46_ 70 (z 11 t))) := by rw [er112]; split <;> omega
                      refine j_iast_y G 24 rfl (by decide) (by decide) (by omega) (by omega) (by decide) hRy46_ (by show (0 : Int) ≤ _ ∧ _ ≤ (1000000 : Int); omega) dX8_reckons_115 (fun y115 ey115 hRy115 => ?_)
                      refine i_aload_n G dX8_reckons_116 rfl ?_
                      refine i_getr G F_X8_85 0 rfl rfl dX8_reckons_117 ?_
                      refine i_aload_n G dX8_reckons_120 rfl ?_
                      refine i_getr G F_X8_21 0 rfl rfl dX8_reckons_121 ?_
                      refine i_iload G dX8_reckons_124 rfl ?_
                      refine j_iald_z G 3 rfl (by decide) (by decide) (by omega) (by omega) dX8_reckons_126 ?_
                      have b126 : 0 ≤ z 12 t ∧ z 12 t ≤ 15 := hR 12 _
                      refine i_aload_n G dX8_reckons_127 rfl ?_
                      refine i_aload_n G dX8_reckons_128 rfl ?_
                      refine i_getr G F_X8_85 0 rfl rfl dX8_reckons_129 ?_
                      refine i_aload_n G dX8_reckons_132 rfl ?_
                      refine i_getr G F_X8_21 0 rfl rfl dX8_reckons_133 ?_
                      refine i_iload G dX8_reckons_136 rfl ?_
                      refine j_iald_z G 3 rfl (by decide) (by decide) (by omega) (by omega) dX8_reckons_138 ?_
                      have b138 : 0 ≤ z 12 t ∧ z 12 t ≤ 15 := hR 12 _
                      refine j_iald_y G 24 rfl (by decide) (by decide) (by omega) (by omega) dX8_reckons_139 ?_
                      have b139 : 0 ≤ y115 70 (z 12 t) ∧ y115 70 (z 12 t) ≤ 1000000 := hRy115 70 _
                      refine i_aload_n G dX8_reckons_140 rfl ?_
                      refine i_getr G F_X8_27 0 rfl rfl dX8_reckons_141 ?_
                      refine i_iload G dX8_reckons_144 rfl ?_
                      refine j_iald_z G 5 rfl (by decide) (by decide) (by omega) (by omega) dX8_reckons_146 ?_
                      have b146 : 0 ≤ z 14 t ∧ z 14 t ≤ 300 := hR 14 _
                      refine i_aload_n G dX8_reckons_147 rfl ?_
                      refine i_getr G F_X8_85 0 rfl rfl dX8_reckons_148 ?_
                      refine i_aload_n G dX8_reckons_151 rfl ?_
                      refine i_getr G F_X8_17 0 rfl rfl dX8_reckons_152 ?_
                      refine i_iload G dX8_reckons_155 rfl ?_
                      refine j_iald_z G 2 rfl (by decide) (by decide) (by omega) (by omega) dX8_reckons_157 ?_
                      have b157 : 0 ≤ z 11 t ∧ z 11 t ≤ 15 := hR 11 _
                      refine j_iald_y G 24 rfl (by decide) (by decide) (by omega) (by omega) dX8_reckons_158 ?_
                      have b158 : 0 ≤ y115 70 (z 11 t) ∧ y115 70 (z 11 t) ≤ 1000000 := hRy115 70 _
                      refine i_iadd G dX8_reckons_159 ?_
                      refine j_callE (q0 := 0) (As := [vi ((y115 70 (z 12 t))), vi (((z 14 t) + (y115 70 (z 11 t))))]) (st := [vi ((z 12 t)), .ref (ad 64)]) G K_X8_129 (m_least l hd hR hRy115 (y115 70 (z 12 t)) ((z 14 t) + (y115 70 (z 11 t))) (by first | assumption | omega) (by first | assumption | omega)) rfl rfl rfl (rm_ok (by decide) (by decide)) ⟨Nat.le_refl _, Nat.le_refl _⟩ (Nat.le_of_ble_eq_true rfl) dX8_reckons_160 ?_
                      obtain ⟨r160, er160⟩ : ∃ x_ : Int, x_ = (if (y115 70 (z 12 t)) < ((z 14 t) + (y115 70 (z 11 t))) then (y115 70 (z 12 t)) else ((z 14 t) + (y115 70 (z 11 t)))) := ⟨_, rfl⟩
                      rw [← er160]
                      have b160 : (r160 = (y115 70 (z 12 t)) ∧ r160 ≤ ((z 14 t) + (y115 70 (z 11 t)))) ∨ (r160 = ((z 14 t) + (y115 70 (z 11 t))) ∧ r160 ≤ (y115 70 (z 12 t))) := by rw [er160]; split <;> omega
                      refine j_iast_y G 24 rfl (by decide) (by decide) (by omega) (by omega) (by decide) hRy115 (by show (0 : Int) ≤ _ ∧ _ ≤ (1000000 : Int); omega) dX8_reckons_163 (fun y163 ey163 hRy163 => ?_)
                      refine i_iinc (L' := [some (.ref (ad 40)), some (vi (gl)), some (vi (0)), some (vi ((r : Int))), some (vi (t + 1))]) G dX8_reckons_164 (by decide) rfl rfl ?_
                      refine i_goto (tgt := 46) G dX8_reckons_167 (by decide) ?_
                      exact ih46 (t + 1) y163 hRy163 (by omega) (by omega) (fun k' hk => by rw [ey163, zp_nk _ hk, ey115, zp_nk _ hk]; exact ho3 k' hk) (by
                        rw [ey163, ey115]
                        have u1 : y115 70 (z 12 t) = y46_ 70 (z 12 t) := by rw [ey115, zp_ne _ (by omega)]
                        have u2 : y115 70 (z 11 t) = r112 := by rw [ey115, zp_same]
                        exact rkT_step hW hR hT ht (by omega) (by omega) (by omega) (by omega))
                    · skip
                      refine i_goto (tgt := 164) G dX8_reckons_65 (by decide) ?_
                      refine i_iinc (L' := [some (.ref (ad 40)), some (vi (gl)), some (vi (0)), some (vi ((r : Int))), some (vi (t + 1))]) G dX8_reckons_164 (by decide) rfl rfl ?_
                      refine i_goto (tgt := 46) G dX8_reckons_167 (by decide) ?_
                      exact ih46 (t + 1) y46_ hRy46_ (by omega) (by omega) ho3 (rkT_skip hT (by omega))
              exact lp46 (z 1 0).toNat 0 y35_ hRy35_ (by omega) (by omega) ho2 (rkT_0 hI)
        exact lp35 (z 0 0).toNat 0 y2_ hRy2_ (by omega) ho (rkI_0 hW hR hgl (fun a h0 h1 => hf a h0 (by omega)))
      · skip
        exfalso; omega
    | succ n2 ih2 => 
      intro j y2_ hRy2_ hj hn ho hf
      refine i_iload_n G dX8_reckons_2 rfl ?_
      refine i_aload_n G dX8_reckons_3 rfl ?_
      refine j_getz G F_X8_91 0 rfl rfl (by decide) dX8_reckons_4 ?_
      have b4 : 0 ≤ z 0 0 ∧ z 0 0 ≤ 16 := hR 0 _
      refine i_icmp_ge (tgt := 33) G dX8_reckons_7 (by decide) (by omega) (by omega) (fun h7 => ?_) (fun h7 => ?_)
      · skip
        exfalso; omega
      · skip
        refine i_aload_n G dX8_reckons_10 rfl ?_
        refine i_getr G F_X8_85 0 rfl rfl dX8_reckons_11 ?_
        refine i_iload_n G dX8_reckons_14 rfl ?_
        refine i_iload_n G dX8_reckons_15 rfl ?_
        refine i_iload_n G dX8_reckons_16 rfl ?_
        refine i_icmp_ne (tgt := 24) G dX8_reckons_17 (by decide) (by omega) (by omega) (fun h17 => ?_) (fun h17 => ?_)
        · skip
          refine i_ldc G 1000000 kc_X8_128 dX8_reckons_24 ?_
          refine j_iast_y G 24 rfl (by decide) (by decide) (by omega) (by omega) (by decide) hRy2_ (by show (0 : Int) ≤ _ ∧ _ ≤ (1000000 : Int); omega) dX8_reckons_26 (fun y26 ey26 hRy26 => ?_)
          refine i_iinc (L' := [some (.ref (ad 40)), some (vi (gl)), some (vi (0)), some (vi (j + 1)), none]) G dX8_reckons_27 (by decide) rfl rfl ?_
          refine i_goto (tgt := 2) G dX8_reckons_30 (by decide) ?_
          refine i_forget (L' := [some (.ref (ad 40)), some (vi (gl)), some (vi (0)), some (vi (j + 1)), none]) ⟨rfl, ⟨rfl, ⟨rfl, ⟨rfl, trivial⟩⟩⟩⟩ ?_
          exact ih2 (j + 1) y26 hRy26 (by omega) (by omega) (fun k' hk => by rw [ey26, zp_nk _ hk]; exact ho k' hk) (fun a h0 h1 => by
            rw [ey26]
            by_cases c : a = j
            · subst c; rw [zp_same]; first | rw [if_pos (by omega)] | rw [if_neg (by omega)]
            · rw [zp_ne _ (by omega)]; exact hf a h0 (by omega))
        · skip
          refine i_iconst G dX8_reckons_20 ?_
          refine i_goto (tgt := 26) G dX8_reckons_21 (by decide) ?_
          refine j_iast_y G 24 rfl (by decide) (by decide) (by omega) (by omega) (by decide) hRy2_ (by show (0 : Int) ≤ _ ∧ _ ≤ (1000000 : Int); omega) dX8_reckons_26 (fun y26 ey26 hRy26 => ?_)
          refine i_iinc (L' := [some (.ref (ad 40)), some (vi (gl)), some (vi (0)), some (vi (j + 1)), none]) G dX8_reckons_27 (by decide) rfl rfl ?_
          refine i_goto (tgt := 2) G dX8_reckons_30 (by decide) ?_
          refine i_forget (L' := [some (.ref (ad 40)), some (vi (gl)), some (vi (0)), some (vi (j + 1)), none]) ⟨rfl, ⟨rfl, ⟨rfl, ⟨rfl, trivial⟩⟩⟩⟩ ?_
          exact ih2 (j + 1) y26 hRy26 (by omega) (by omega) (fun k' hk => by rw [ey26, zp_nk _ hk]; exact ho k' hk) (fun a h0 h1 => by
            rw [ey26]
            by_cases c : a = j
            · subst c; rw [zp_same]; first | rw [if_pos (by omega)] | rw [if_neg (by omega)]
            · rw [zp_ne _ (by omega)]; exact hf a h0 (by omega))
  exact lp2 (z 0 0).toNat 0 y hY (by omega) (by omega) (fun _ _ => rfl) (fun a h0 h1 => by omega)
set_option maxHeartbeats 4000000 in
set_option maxRecDepth 100000 in
theorem m_reckons_1 (l : Launch) {D : va_G} {aC : Nat → ClassId} {ad : Nat → Nat} (hd : wDi ad shM) {z y : wZ} (hR : Rng z) (hY : Rng y) (gl : Int) (hW : WT z) (hgl : 0 ≤ gl ∧ gl < z 0 0) : cYv l D aC ad shM yX8_reckons cX8_reckons 5 (rmL 1) [.ref (ad 40), vi gl, vi 1] z y (fun y2 => Rng y2 ∧ (∀ k', k' ≠ 70 → y2 k' = y k') ∧ ∀ a, 0 ≤ a → a < z 0 0 → y2 70 a = ds z 15 a gl) := by
  refine c_v [some (.ref (ad 40)), some (vi (gl)), some (vi (1)), none, none] (by decide +kernel) rfl (Nat.le_of_ble_eq_true rfl) rfl hd ?_
  intro p e s m args below meth c A G hr
  have q0 : 0 ≤ z 0 0 ∧ z 0 0 ≤ 16 := hR 0 0
  have q1 : 0 ≤ z 1 0 ∧ z 1 0 ≤ 24 := hR 1 0
  refine i_iconst G dX8_reckons_0 ?_
  refine i_istore_n (L' := [some (.ref (ad 40)), some (vi (gl)), some (vi (1)), some (vi (0)), none]) G dX8_reckons_1 (by decide) rfl ?_
  refine i_forget (L' := [some (.ref (ad 40)), some (vi (gl)), some (vi (1)), some (vi (0)), none]) ⟨rfl, ⟨rfl, ⟨rfl, ⟨rfl, trivial⟩⟩⟩⟩ ?_
  have lp2 : ∀ (n2 : Nat) (j : Int) (y2_ : wZ), Rng y2_ → (0 ≤ j) → (j + n2 = z 0 0) → (∀ k', k' ≠ 70 → y2_ k' = y k') → (∀ a, 0 ≤ a → a < j → y2_ 70 a = if a = gl then 0 else 1000000) → JW p l e (rmL 1) s m args below meth c 5 D aC ad A shM (MQ below (cQv D aC ad shM (fun z_ y_ => z_ = z ∧ (fun y2 => Rng y2 ∧ (∀ k', k' ≠ 70 → y2 k' = y k') ∧ ∀ a, 0 ≤ a → a < z 0 0 → y2 70 a = ds z 15 a gl) y_) A) args s 0 0 A) 0 0 (zc z y2_) 2 [some (.ref (ad 40)), some (vi (gl)), some (vi (1)), some (vi (j)), none] [] := by
    intro n2
    induction n2 with
    | zero => 
      intro j y2_ hRy2_ hj hn ho hf
      refine i_iload_n G dX8_reckons_2 rfl ?_
      refine i_aload_n G dX8_reckons_3 rfl ?_
      refine j_getz G F_X8_91 0 rfl rfl (by decide) dX8_reckons_4 ?_
      have b4 : 0 ≤ z 0 0 ∧ z 0 0 ≤ 16 := hR 0 _
      refine i_icmp_ge (tgt := 33) G dX8_reckons_7 (by decide) (by omega) (by omega) (fun h7 => ?_) (fun h7 => ?_)
      · skip
        refine i_iconst G dX8_reckons_33 ?_
        refine i_istore_n (L' := [some (.ref (ad 40)), some (vi (gl)), some (vi (1)), some (vi (0)), none]) G dX8_reckons_34 (by decide) rfl ?_
        refine i_forget (L' := [some (.ref (ad 40)), some (vi (gl)), some (vi (1)), some (vi (0)), none]) ⟨rfl, ⟨rfl, ⟨rfl, ⟨rfl, trivial⟩⟩⟩⟩ ?_
        have lp35 : ∀ (n35 : Nat) (r : Nat) (y35_ : wZ), Rng y35_ → ((r : Int) + n35 = z 0 0) → (∀ k', k' ≠ 70 → y35_ k' = y k') → (rkI z 15 gl r y35_) → JW p l e (rmL 1) s m args below meth c 5 D aC ad A shM (MQ below (cQv D aC ad shM (fun z_ y_ => z_ = z ∧ (fun y2 => Rng y2 ∧ (∀ k', k' ≠ 70 → y2 k' = y k') ∧ ∀ a, 0 ≤ a → a < z 0 0 → y2 70 a = ds z 15 a gl) y_) A) args s 0 0 A) 0 0 (zc z y35_) 35 [some (.ref (ad 40)), some (vi (gl)), some (vi (1)), some (vi ((r : Int))), none] [] := by
          intro n35
          induction n35 with
          | zero => 
            intro r y35_ hRy35_ hn2 ho2 hI
            refine i_iload_n G dX8_reckons_35 rfl ?_
            refine i_aload_n G dX8_reckons_36 rfl ?_
            refine j_getz G F_X8_91 0 rfl rfl (by decide) dX8_reckons_37 ?_
            have b37 : 0 ≤ z 0 0 ∧ z 0 0 ≤ 16 := hR 0 _
            refine i_icmp_ge (tgt := 176) G dX8_reckons_40 (by decide) (by omega) (by omega) (fun h40 => ?_) (fun h40 => ?_)
            · skip
              refine j_retv G hr dX8_reckons_176 ?_
              refine ⟨rfl, ?_⟩
              exact ⟨hRy35_, ho2, fun a h0 h1 => rkI_end hI (by omega) h0 h1⟩
            · skip
              exfalso; omega
          | succ n35 ih35 => 
            intro r y35_ hRy35_ hn2 ho2 hI
            refine i_iload_n G dX8_reckons_35 rfl ?_
            refine i_aload_n G dX8_reckons_36 rfl ?_
            refine j_getz G F_X8_91 0 rfl rfl (by decide) dX8_reckons_37 ?_
            have b37 : 0 ≤ z 0 0 ∧ z 0 0 ≤ 16 := hR 0 _
            refine i_icmp_ge (tgt := 176) G dX8_reckons_40 (by decide) (by omega) (by omega) (fun h40 => ?_) (fun h40 => ?_)
            · skip
              exfalso; omega
            · skip
              refine i_iconst G dX8_reckons_43 ?_
              refine i_istore (L' := [some (.ref (ad 40)), some (vi (gl)), some (vi (1)), some (vi ((r : Int))), some (vi (0))]) G dX8_reckons_44 (by decide) rfl ?_
              have lp46 : ∀ (n46 : Nat) (t : Int) (y46_ : wZ), Rng y46_ → (0 ≤ t) → (t + n46 = z 1 0) → (∀ k', k' ≠ 70 → y46_ k' = y k') → (rkT z 15 gl y35_ t y46_) → JW p l e (rmL 1) s m args below meth c 5 D aC ad A shM (MQ below (cQv D aC ad shM (fun z_ y_ => z_ = z ∧ (fun y2 => Rng y2 ∧ (∀ k', k' ≠ 70 → y2 k' = y k') ∧ ∀ a, 0 ≤ a → a < z 0 0 → y2 70 a = ds z 15 a gl) y_) A) args s 0 0 A) 0 0 (zc z y46_) 46 [some (.ref (ad 40)), some (vi (gl)), some (vi (1)), some (vi ((r : Int))), some (vi (t))] [] := by
                intro n46
                induction n46 with
                | zero => 
                  intro t y46_ hRy46_ ht hm ho3 hT
                  refine i_iload G dX8_reckons_46 rfl ?_
                  refine i_aload_n G dX8_reckons_48 rfl ?_
                  refine j_getz G F_X8_98 0 rfl rfl (by decide) dX8_reckons_49 ?_
                  have b49 : 0 ≤ z 1 0 ∧ z 1 0 ≤ 24 := hR 1 _
                  refine i_icmp_ge (tgt := 170) G dX8_reckons_52 (by decide) (by omega) (by omega) (fun h52 => ?_) (fun h52 => ?_)
                  · skip
                    refine i_iinc (L' := [some (.ref (ad 40)), some (vi (gl)), some (vi (1)), some (vi ((r : Int) + 1)), some (vi (t))]) G dX8_reckons_170 (by decide) rfl rfl ?_
                    refine i_goto (tgt := 35) G dX8_reckons_173 (by decide) ?_
                    refine i_forget (L' := [some (.ref (ad 40)), some (vi (gl)), some (vi (1)), some (vi ((r : Int) + 1)), none]) ⟨rfl, ⟨rfl, ⟨rfl, ⟨rfl, trivial⟩⟩⟩⟩ ?_
                    exact ih35 (r + 1) y46_ hRy46_ (by omega) ho3 (rkT_end hW hR hI (by rw [show z 1 0 = t by omega]; exact hT))
                  · skip
                    exfalso; omega
                | succ n46 ih46 => 
                  intro t y46_ hRy46_ ht hm ho3 hT
                  refine i_iload G dX8_reckons_46 rfl ?_
                  refine i_aload_n G dX8_reckons_48 rfl ?_
                  refine j_getz G F_X8_98 0 rfl rfl (by decide) dX8_reckons_49 ?_
                  have b49 : 0 ≤ z 1 0 ∧ z 1 0 ≤ 24 := hR 1 _
                  refine i_icmp_ge (tgt := 170) G dX8_reckons_52 (by decide) (by omega) (by omega) (fun h52 => ?_) (fun h52 => ?_)
                  · skip
                    exfalso; omega
                  · skip
                    have hw := hW t ht (by omega)
                    refine i_aload_n G dX8_reckons_55 rfl ?_
                    refine i_iload G dX8_reckons_56 rfl ?_
                    refine i_iload_n G dX8_reckons_58 rfl ?_
                    refine j_callE (q0 := 0) (As := [vi (t), vi (1)]) (st := []) G K_X8_124 (m_isShut_1 l hd hR hRy46_ t (by first | assumption | omega)) rfl rfl rfl (rm_ok (by decide) (by decide)) ⟨Nat.le_refl _, Nat.le_refl _⟩ (Nat.le_of_ble_eq_true rfl) dX8_reckons_59 ?_
                    have b59 : 0 ≤ (z 15 t) ∧ (z 15 t) ≤ 1 := hR 15 _
                    refine i_if_eq (tgt := 68) G dX8_reckons_62 (by decide) (by omega) (fun h62 => ?_) (fun h62 => ?_)
                    · skip
                      refine i_aload_n G dX8_reckons_68 rfl ?_
                      refine i_getr G F_X8_85 0 rfl rfl dX8_reckons_69 ?_
                      refine i_aload_n G dX8_reckons_72 rfl ?_
                      refine i_getr G F_X8_17 0 rfl rfl dX8_reckons_73 ?_
                      refine i_iload G dX8_reckons_76 rfl ?_
                      refine j_iald_z G 2 rfl (by decide) (by decide) (by omega) (by omega) dX8_reckons_78 ?_
                      have b78 : 0 ≤ z 11 t ∧ z 11 t ≤ 15 := hR 11 _
                      refine i_aload_n G dX8_reckons_79 rfl ?_
                      refine i_aload_n G dX8_reckons_80 rfl ?_
                      refine i_getr G F_X8_85 0 rfl rfl dX8_reckons_81 ?_
                      refine i_aload_n G dX8_reckons_84 rfl ?_
                      refine i_getr G F_X8_17 0 rfl rfl dX8_reckons_85 ?_
                      refine i_iload G dX8_reckons_88 rfl ?_
                      refine j_iald_z G 2 rfl (by decide) (by decide) (by omega) (by omega) dX8_reckons_90 ?_
                      have b90 : 0 ≤ z 11 t ∧ z 11 t ≤ 15 := hR 11 _
                      refine j_iald_y G 24 rfl (by decide) (by decide) (by omega) (by omega) dX8_reckons_91 ?_
                      have b91 : 0 ≤ y46_ 70 (z 11 t) ∧ y46_ 70 (z 11 t) ≤ 1000000 := hRy46_ 70 _
                      refine i_aload_n G dX8_reckons_92 rfl ?_
                      refine i_getr G F_X8_24 0 rfl rfl dX8_reckons_93 ?_
                      refine i_iload G dX8_reckons_96 rfl ?_
                      refine j_iald_z G 4 rfl (by decide) (by decide) (by omega) (by omega) dX8_reckons_98 ?_
                      have b98 : 0 ≤ z 13 t ∧ z 13 t ≤ 300 := hR 13 _
                      refine i_aload_n G dX8_reckons_99 rfl ?_
                      refine i_getr G F_X8_85 0 rfl rfl dX8_reckons_100 ?_
                      refine i_aload_n G dX8_reckons_103 rfl ?_
                      refine i_getr G F_X8_21 0 rfl rfl dX8_reckons_104 ?_
                      refine i_iload G dX8_reckons_107 rfl ?_
                      refine j_iald_z G 3 rfl (by decide) (by decide) (by omega) (by omega) dX8_reckons_109 ?_
                      have b109 : 0 ≤ z 12 t ∧ z 12 t ≤ 15 := hR 12 _
                      refine j_iald_y G 24 rfl (by decide) (by decide) (by omega) (by omega) dX8_reckons_110 ?_
                      have b110 : 0 ≤ y46_ 70 (z 12 t) ∧ y46_ 70 (z 12 t) ≤ 1000000 := hRy46_ 70 _
                      refine i_iadd G dX8_reckons_111 ?_
                      refine j_callE (q0 := 0) (As := [vi ((y46_ 70 (z 11 t))), vi (((z 13 t) + (y46_ 70 (z 12 t))))]) (st := [vi ((z 11 t)), .ref (ad 64)]) G K_X8_129 (m_least l hd hR hRy46_ (y46_ 70 (z 11 t)) ((z 13 t) + (y46_ 70 (z 12 t))) (by first | assumption | omega) (by first | assumption | omega)) rfl rfl rfl (rm_ok (by decide) (by decide)) ⟨Nat.le_refl _, Nat.le_refl _⟩ (Nat.le_of_ble_eq_true rfl) dX8_reckons_112 ?_
                      obtain ⟨r112, er112⟩ : ∃ x_ : Int, x_ = (if (y46_ 70 (z 11 t)) < ((z 13 t) + (y46_ 70 (z 12 t))) then (y46_ 70 (z 11 t)) else ((z 13 t) + (y46_ 70 (z 12 t)))) := ⟨_, rfl⟩
                      rw [← er112]
                      have b112 : (r112 = (y46_ 70 (z 11 t)) ∧ r112 ≤ ((z 13 t) + (y46_ 70 (z 12 t)))) ∨ (r112 = ((z 13 t) + (y46_ 70 (z 12 t))) ∧ r112 ≤ (y46_ 70 (z 11 t))) := by rw [er112]; split <;> omega
                      refine j_iast_y G 24 rfl (by decide) (by decide) (by omega) (by omega) (by decide) hRy46_ (by show (0 : Int) ≤ _ ∧ _ ≤ (1000000 : Int); omega) dX8_reckons_115 (fun y115 ey115 hRy115 => ?_)
                      refine i_aload_n G dX8_reckons_116 rfl ?_
                      refine i_getr G F_X8_85 0 rfl rfl dX8_reckons_117 ?_
                      refine i_aload_n G dX8_reckons_120 rfl ?_
                      refine i_getr G F_X8_21 0 rfl rfl dX8_reckons_121 ?_
                      refine i_iload G dX8_reckons_124 rfl ?_
                      refine j_iald_z G 3 rfl (by decide) (by decide) (by omega) (by omega) dX8_reckons_126 ?_
                      have b126 : 0 ≤ z 12 t ∧ z 12 t ≤ 15 := hR 12 _
                      refine i_aload_n G dX8_reckons_127 rfl ?_
                      refine i_aload_n G dX8_reckons_128 rfl ?_
                      refine i_getr G F_X8_85 0 rfl rfl dX8_reckons_129 ?_
                      refine i_aload_n G dX8_reckons_132 rfl ?_
                      refine i_getr G F_X8_21 0 rfl rfl dX8_reckons_133 ?_
                      refine i_iload G dX8_reckons_136 rfl ?_
                      refine j_iald_z G 3 rfl (by decide) (by decide) (by omega) (by omega) dX8_reckons_138 ?_
                      have b138 : 0 ≤ z 12 t ∧ z 12 t ≤ 15 := hR 12 _
                      refine j_iald_y G 24 rfl (by decide) (by decide) (by omega) (by omega) dX8_reckons_139 ?_
                      have b139 : 0 ≤ y115 70 (z 12 t) ∧ y115 70 (z 12 t) ≤ 1000000 := hRy115 70 _
                      refine i_aload_n G dX8_reckons_140 rfl ?_
                      refine i_getr G F_X8_27 0 rfl rfl dX8_reckons_141 ?_
                      refine i_iload G dX8_reckons_144 rfl ?_
                      refine j_iald_z G 5 rfl (by decide) (by decide) (by omega) (by omega) dX8_reckons_146 ?_
                      have b146 : 0 ≤ z 14 t ∧ z 14 t ≤ 300 := hR 14 _
                      refine i_aload_n G dX8_reckons_147 rfl ?_
                      refine i_getr G F_X8_85 0 rfl rfl dX8_reckons_148 ?_
                      refine i_aload_n G dX8_reckons_151 rfl ?_
                      refine i_getr G F_X8_17 0 rfl rfl dX8_reckons_152 ?_
                      refine i_iload G dX8_reckons_155 rfl ?_
                      refine j_iald_z G 2 rfl (by decide) (by decide) (by omega) (by omega) dX8_reckons_157 ?_
                      have b157 : 0 ≤ z 11 t ∧ z 11 t ≤ 15 := hR 11 _
                      refine j_iald_y G 24 rfl (by decide) (by decide) (by omega) (by omega) dX8_reckons_158 ?_
                      have b158 : 0 ≤ y115 70 (z 11 t) ∧ y115 70 (z 11 t) ≤ 1000000 := hRy115 70 _
                      refine i_iadd G dX8_reckons_159 ?_
                      refine j_callE (q0 := 0) (As := [vi ((y115 70 (z 12 t))), vi (((z 14 t) + (y115 70 (z 11 t))))]) (st := [vi ((z 12 t)), .ref (ad 64)]) G K_X8_129 (m_least l hd hR hRy115 (y115 70 (z 12 t)) ((z 14 t) + (y115 70 (z 11 t))) (by first | assumption | omega) (by first | assumption | omega)) rfl rfl rfl (rm_ok (by decide) (by decide)) ⟨Nat.le_refl _, Nat.le_refl _⟩ (Nat.le_of_ble_eq_true rfl) dX8_reckons_160 ?_
                      obtain ⟨r160, er160⟩ : ∃ x_ : Int, x_ = (if (y115 70 (z 12 t)) < ((z 14 t) + (y115 70 (z 11 t))) then (y115 70 (z 12 t)) else ((z 14 t) + (y115 70 (z 11 t)))) := ⟨_, rfl⟩
                      rw [← er160]
                      have b160 : (r160 = (y115 70 (z 12 t)) ∧ r160 ≤ ((z 14 t) + (y115 70 (z 11 t)))) ∨ (r160 = ((z 14 t) + (y115 70 (z 11 t))) ∧ r160 ≤ (y115 70 (z 12 t))) := by rw [er160]; split <;> omega
                      refine j_iast_y G 24 rfl (by decide) (by decide) (by omega) (by omega) (by decide) hRy115 (by show (0 : Int) ≤ _ ∧ _ ≤ (1000000 : Int); omega) dX8_reckons_163 (fun y163 ey163 hRy163 => ?_)
                      refine i_iinc (L' := [some (.ref (ad 40)), some (vi (gl)), some (vi (1)), some (vi ((r : Int))), some (vi (t + 1))]) G dX8_reckons_164 (by decide) rfl rfl ?_
                      refine i_goto (tgt := 46) G dX8_reckons_167 (by decide) ?_
                      exact ih46 (t + 1) y163 hRy163 (by omega) (by omega) (fun k' hk => by rw [ey163, zp_nk _ hk, ey115, zp_nk _ hk]; exact ho3 k' hk) (by
                        rw [ey163, ey115]
                        have u1 : y115 70 (z 12 t) = y46_ 70 (z 12 t) := by rw [ey115, zp_ne _ (by omega)]
                        have u2 : y115 70 (z 11 t) = r112 := by rw [ey115, zp_same]
                        exact rkT_step hW hR hT ht (by omega) (by omega) (by omega) (by omega))
                    · skip
                      refine i_goto (tgt := 164) G dX8_reckons_65 (by decide) ?_
                      refine i_iinc (L' := [some (.ref (ad 40)), some (vi (gl)), some (vi (1)), some (vi ((r : Int))), some (vi (t + 1))]) G dX8_reckons_164 (by decide) rfl rfl ?_
                      refine i_goto (tgt := 46) G dX8_reckons_167 (by decide) ?_
                      exact ih46 (t + 1) y46_ hRy46_ (by omega) (by omega) ho3 (rkT_skip hT (by omega))
              exact lp46 (z 1 0).toNat 0 y35_ hRy35_ (by omega) (by omega) ho2 (rkT_0 hI)
        exact lp35 (z 0 0).toNat 0 y2_ hRy2_ (by omega) ho (rkI_0 hW hR hgl (fun a h0 h1 => hf a h0 (by omega)))
      · skip
        exfalso; omega
    | succ n2 ih2 => 
      intro j y2_ hRy2_ hj hn ho hf
      refine i_iload_n G dX8_reckons_2 rfl ?_
      refine i_aload_n G dX8_reckons_3 rfl ?_
      refine j_getz G F_X8_91 0 rfl rfl (by decide) dX8_reckons_4 ?_
      have b4 : 0 ≤ z 0 0 ∧ z 0 0 ≤ 16 := hR 0 _
      refine i_icmp_ge (tgt := 33) G dX8_reckons_7 (by decide) (by omega) (by omega) (fun h7 => ?_) (fun h7 => ?_)
      · skip
        exfalso; omega
      · skip
        refine i_aload_n G dX8_reckons_10 rfl ?_
        refine i_getr G F_X8_85 0 rfl rfl dX8_reckons_11 ?_
        refine i_iload_n G dX8_reckons_14 rfl ?_
        refine i_iload_n G dX8_reckons_15 rfl ?_
        refine i_iload_n G dX8_reckons_16 rfl ?_
        refine i_icmp_ne (tgt := 24) G dX8_reckons_17 (by decide) (by omega) (by omega) (fun h17 => ?_) (fun h17 => ?_)
        · skip
          refine i_ldc G 1000000 kc_X8_128 dX8_reckons_24 ?_
          refine j_iast_y G 24 rfl (by decide) (by decide) (by omega) (by omega) (by decide) hRy2_ (by show (0 : Int) ≤ _ ∧ _ ≤ (1000000 : Int); omega) dX8_reckons_26 (fun y26 ey26 hRy26 => ?_)
          refine i_iinc (L' := [some (.ref (ad 40)), some (vi (gl)), some (vi (1)), some (vi (j + 1)), none]) G dX8_reckons_27 (by decide) rfl rfl ?_
          refine i_goto (tgt := 2) G dX8_reckons_30 (by decide) ?_
          refine i_forget (L' := [some (.ref (ad 40)), some (vi (gl)), some (vi (1)), some (vi (j + 1)), none]) ⟨rfl, ⟨rfl, ⟨rfl, ⟨rfl, trivial⟩⟩⟩⟩ ?_
          exact ih2 (j + 1) y26 hRy26 (by omega) (by omega) (fun k' hk => by rw [ey26, zp_nk _ hk]; exact ho k' hk) (fun a h0 h1 => by
            rw [ey26]
            by_cases c : a = j
            · subst c; rw [zp_same]; first | rw [if_pos (by omega)] | rw [if_neg (by omega)]
            · rw [zp_ne _ (by omega)]; exact hf a h0 (by omega))
        · skip
          refine i_iconst G dX8_reckons_20 ?_
          refine i_goto (tgt := 26) G dX8_reckons_21 (by decide) ?_
          refine j_iast_y G 24 rfl (by decide) (by decide) (by omega) (by omega) (by decide) hRy2_ (by show (0 : Int) ≤ _ ∧ _ ≤ (1000000 : Int); omega) dX8_reckons_26 (fun y26 ey26 hRy26 => ?_)
          refine i_iinc (L' := [some (.ref (ad 40)), some (vi (gl)), some (vi (1)), some (vi (j + 1)), none]) G dX8_reckons_27 (by decide) rfl rfl ?_
          refine i_goto (tgt := 2) G dX8_reckons_30 (by decide) ?_
          refine i_forget (L' := [some (.ref (ad 40)), some (vi (gl)), some (vi (1)), some (vi (j + 1)), none]) ⟨rfl, ⟨rfl, ⟨rfl, ⟨rfl, trivial⟩⟩⟩⟩ ?_
          exact ih2 (j + 1) y26 hRy26 (by omega) (by omega) (fun k' hk => by rw [ey26, zp_nk _ hk]; exact ho k' hk) (fun a h0 h1 => by
            rw [ey26]
            by_cases c : a = j
            · subst c; rw [zp_same]; first | rw [if_pos (by omega)] | rw [if_neg (by omega)]
            · rw [zp_ne _ (by omega)]; exact hf a h0 (by omega))
  exact lp2 (z 0 0).toNat 0 y hY (by omega) (by omega) (fun _ _ => rfl) (fun a h0 h1 => by omega)
