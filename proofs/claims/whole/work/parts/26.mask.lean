def MI (z y : wZ) : Prop := ∀ i, 0 ≤ i → i < 240 → y 72 i = if z 32 i = 0 then 0 else 3 - z 32 i
theorem MI_y {z y y' : wZ} (h : MI z y) (e : y' 72 = y 72) : MI z y' := fun i h0 h1 => by rw [e]; exact h i h0 h1
theorem MI_z {z z' y : wZ} (h : MI z y) (e : z' 32 = z 32) : MI z' y := fun i h0 h1 => by rw [e]; exact h i h0 h1

set_option maxHeartbeats 4000000 in
set_option maxRecDepth 100000 in
theorem m_trailOf (l : Launch) {D : va_G} {aC : Nat → ClassId} {ad : Nat → Nat} (hd : wDi ad shM) {z y : wZ} (hR : Rng z) (hY : Rng y) (b : Int) (hb : -2147483648 ≤ b ∧ b ≤ 2147483647) : cYi l D aC ad shM yX8_trailOf cX8_trailOf 2 (.int) (rmL 2) [.ref (ad 40), vi b] z y (fun r_ y2 => y2 71 0 = kcB z b ∧ (kcB z b = 0 → r_ = z 19 b) ∧ Rng y2 ∧ ∀ k', k' ≠ 70 → k' ≠ 71 → y2 k' = y k') := by
  refine c_i [some (.ref (ad 40)), some (vi (b))] (by decide +kernel) rfl (Nat.le_of_ble_eq_true rfl) rfl hd ?_
  intro p e s m args below meth c A G hr
  have q2 : 0 ≤ z 2 0 ∧ z 2 0 ≤ 30 := hR 2 0
  refine i_aload_n G dX8_trailOf_0 rfl ?_
  refine i_iload_n G dX8_trailOf_1 rfl ?_
  refine j_callE (q0 := 0) (As := [vi (b)]) (st := []) G K_X8_158 (m_isBoard l hd hR hY b (by first | assumption | omega)) rfl rfl rfl (rm_ok (by decide) (by decide)) ⟨Nat.le_refl _, Nat.le_refl _⟩ (Nat.le_of_ble_eq_true rfl) dX8_trailOf_2 ?_
  obtain ⟨r2, er2⟩ : ∃ x_ : Int, x_ = (if 0 ≤ b ∧ b < z 2 0 then 1 else 0) := ⟨_, rfl⟩
  rw [← er2]
  have b2 : (r2 = 1 ∧ 0 ≤ b ∧ b < z 2 0) ∨ (r2 = 0 ∧ ¬ (0 ≤ b ∧ b < z 2 0)) := by rw [er2]; split <;> omega
  refine i_if_eq (tgt := 21) G dX8_trailOf_5 (by decide) (by omega) (fun h5 => ?_) (fun h5 => ?_)
  · skip
    refine i_aload_n G dX8_trailOf_21 rfl ?_
    refine i_iconst G dX8_trailOf_22 ?_
    refine j_callYi (q0 := 0) (As := [vi (1)]) (st := []) G K_X8_110 (m_fails l hd hR hY 1 (by first | assumption | omega)) rfl rfl rfl (rm_ok (by decide) (by decide)) ⟨Nat.le_refl _, Nat.le_refl _⟩ (Nat.le_of_ble_eq_true rfl) dX8_trailOf_23 (fun r23 y23 q23 => ?_)
    obtain ⟨er23, ey23, hRy23⟩ := q23
    refine j_reti G hr dX8_trailOf_26 ?_
    refine ⟨rfl, ?_⟩
    have e71 : y23 71 0 = kcB z b := by rw [ey23, zp_same]; unfold kcB; (repeat' split) <;> omega
    refine ⟨e71, fun hk => ?_, hRy23, fun k a b => by rw [ey23, zp_nk _ b]⟩
    (rw [ey23, zp_same] at e71) <;> omega
  · skip
    refine i_aload_n G dX8_trailOf_8 rfl ?_
    refine i_aload_n G dX8_trailOf_9 rfl ?_
    refine i_getr G F_X8_42 0 rfl rfl dX8_trailOf_10 ?_
    refine i_iload_n G dX8_trailOf_13 rfl ?_
    refine j_iald_z G 10 rfl (by decide) (by decide) (by omega) (by omega) dX8_trailOf_14 ?_
    have b14 : 0 ≤ z 19 b ∧ z 19 b ≤ 23 := hR 19 _
    refine j_callYi (q0 := 0) (As := [vi ((z 19 b))]) (st := []) G K_X8_114 (m_tells l hd hR hY (z 19 b) ) rfl rfl rfl (rm_ok (by decide) (by decide)) ⟨Nat.le_refl _, Nat.le_refl _⟩ (Nat.le_of_ble_eq_true rfl) dX8_trailOf_15 (fun r15 y15 q15 => ?_)
    obtain ⟨er15, ey15, hRy15⟩ := q15
    refine i_goto (tgt := 26) G dX8_trailOf_18 (by decide) ?_
    refine j_reti G hr dX8_trailOf_26 ?_
    refine ⟨rfl, ?_⟩
    have e71 : y15 71 0 = kcB z b := by rw [ey15, zp_same]; unfold kcB; (repeat' split) <;> omega
    refine ⟨e71, fun hk => ?_, hRy15, fun k a b => by rw [ey15, zp_nk _ b]⟩
    (rw [ey15, zp_same] at e71) <;> omega
set_option maxHeartbeats 4000000 in
set_option maxRecDepth 100000 in
theorem m_told (l : Launch) {D : va_G} {aC : Nat → ClassId} {ad : Nat → Nat} (hd : wDi ad shM) {z y : wZ} (hR : Rng z) (hY : Rng y) (b : Int) (hb : -2147483648 ≤ b ∧ b ≤ 2147483647) : cYi l D aC ad shM yX8_told cX8_told 2 (.int) (rmL 2) [.ref (ad 40), vi b] z y (fun r_ y2 => y2 71 0 = kcB z b ∧ (kcB z b = 0 → r_ = z 20 b) ∧ Rng y2 ∧ ∀ k', k' ≠ 70 → k' ≠ 71 → y2 k' = y k') := by
  refine c_i [some (.ref (ad 40)), some (vi (b))] (by decide +kernel) rfl (Nat.le_of_ble_eq_true rfl) rfl hd ?_
  intro p e s m args below meth c A G hr
  have q2 : 0 ≤ z 2 0 ∧ z 2 0 ≤ 30 := hR 2 0
  refine i_aload_n G dX8_told_0 rfl ?_
  refine i_iload_n G dX8_told_1 rfl ?_
  refine j_callE (q0 := 0) (As := [vi (b)]) (st := []) G K_X8_158 (m_isBoard l hd hR hY b (by first | assumption | omega)) rfl rfl rfl (rm_ok (by decide) (by decide)) ⟨Nat.le_refl _, Nat.le_refl _⟩ (Nat.le_of_ble_eq_true rfl) dX8_told_2 ?_
  obtain ⟨r2, er2⟩ : ∃ x_ : Int, x_ = (if 0 ≤ b ∧ b < z 2 0 then 1 else 0) := ⟨_, rfl⟩
  rw [← er2]
  have b2 : (r2 = 1 ∧ 0 ≤ b ∧ b < z 2 0) ∨ (r2 = 0 ∧ ¬ (0 ≤ b ∧ b < z 2 0)) := by rw [er2]; split <;> omega
  refine i_if_eq (tgt := 21) G dX8_told_5 (by decide) (by omega) (fun h5 => ?_) (fun h5 => ?_)
  · skip
    refine i_aload_n G dX8_told_21 rfl ?_
    refine i_iconst G dX8_told_22 ?_
    refine j_callYi (q0 := 0) (As := [vi (1)]) (st := []) G K_X8_110 (m_fails l hd hR hY 1 (by first | assumption | omega)) rfl rfl rfl (rm_ok (by decide) (by decide)) ⟨Nat.le_refl _, Nat.le_refl _⟩ (Nat.le_of_ble_eq_true rfl) dX8_told_23 (fun r23 y23 q23 => ?_)
    obtain ⟨er23, ey23, hRy23⟩ := q23
    refine j_reti G hr dX8_told_26 ?_
    refine ⟨rfl, ?_⟩
    have e71 : y23 71 0 = kcB z b := by rw [ey23, zp_same]; unfold kcB; (repeat' split) <;> omega
    refine ⟨e71, fun hk => ?_, hRy23, fun k a b => by rw [ey23, zp_nk _ b]⟩
    (rw [ey23, zp_same] at e71) <;> omega
  · skip
    refine i_aload_n G dX8_told_8 rfl ?_
    refine i_aload_n G dX8_told_9 rfl ?_
    refine i_getr G F_X8_45 0 rfl rfl dX8_told_10 ?_
    refine i_iload_n G dX8_told_13 rfl ?_
    refine j_iald_z G 11 rfl (by decide) (by decide) (by omega) (by omega) dX8_told_14 ?_
    have b14 : 0 ≤ z 20 b ∧ z 20 b ≤ 300 := hR 20 _
    refine j_callYi (q0 := 0) (As := [vi ((z 20 b))]) (st := []) G K_X8_114 (m_tells l hd hR hY (z 20 b) ) rfl rfl rfl (rm_ok (by decide) (by decide)) ⟨Nat.le_refl _, Nat.le_refl _⟩ (Nat.le_of_ble_eq_true rfl) dX8_told_15 (fun r15 y15 q15 => ?_)
    obtain ⟨er15, ey15, hRy15⟩ := q15
    refine i_goto (tgt := 26) G dX8_told_18 (by decide) ?_
    refine j_reti G hr dX8_told_26 ?_
    refine ⟨rfl, ?_⟩
    have e71 : y15 71 0 = kcB z b := by rw [ey15, zp_same]; unfold kcB; (repeat' split) <;> omega
    refine ⟨e71, fun hk => ?_, hRy15, fun k a b => by rw [ey15, zp_nk _ b]⟩
    (rw [ey15, zp_same] at e71) <;> omega
set_option maxHeartbeats 4000000 in
set_option maxRecDepth 100000 in
theorem m_isCovered (l : Launch) {D : va_G} {aC : Nat → ClassId} {ad : Nat → Nat} (hd : wDi ad shM) {z y : wZ} (hR : Rng z) (hY : Rng y) (b : Int) (hb : -2147483648 ≤ b ∧ b ≤ 2147483647) : cYi l D aC ad shM yX8_isCovered cX8_isCovered 2 (.boolean) (rmL 2) [.ref (ad 40), vi b] z y (fun r_ y2 => y2 71 0 = kcB z b ∧ (kcB z b = 0 → r_ = z 21 b) ∧ Rng y2 ∧ ∀ k', k' ≠ 70 → k' ≠ 71 → y2 k' = y k') := by
  refine c_i [some (.ref (ad 40)), some (vi (b))] (by decide +kernel) rfl (Nat.le_of_ble_eq_true rfl) rfl hd ?_
  intro p e s m args below meth c A G hr
  have q2 : 0 ≤ z 2 0 ∧ z 2 0 ≤ 30 := hR 2 0
  refine i_aload_n G dX8_isCovered_0 rfl ?_
  refine i_aload_n G dX8_isCovered_1 rfl ?_
  refine i_iload_n G dX8_isCovered_2 rfl ?_
  refine j_callE (q0 := 0) (As := [vi (b)]) (st := [.ref (ad 40)]) G K_X8_158 (m_isBoard l hd hR hY b (by first | assumption | omega)) rfl rfl rfl (rm_ok (by decide) (by decide)) ⟨Nat.le_refl _, Nat.le_refl _⟩ (Nat.le_of_ble_eq_true rfl) dX8_isCovered_3 ?_
  obtain ⟨r3, er3⟩ : ∃ x_ : Int, x_ = (if 0 ≤ b ∧ b < z 2 0 then 1 else 0) := ⟨_, rfl⟩
  rw [← er3]
  have b3 : (r3 = 1 ∧ 0 ≤ b ∧ b < z 2 0) ∨ (r3 = 0 ∧ ¬ (0 ≤ b ∧ b < z 2 0)) := by rw [er3]; split <;> omega
  refine i_if_eq (tgt := 13) G dX8_isCovered_6 (by decide) (by omega) (fun h6 => ?_) (fun h6 => ?_)
  · skip
    refine i_iconst G dX8_isCovered_13 ?_
    refine j_puty G P_X8_88 0 rfl rfl (by decide) (by decide) (by decide) hY (by show (0 : Int) ≤ _ ∧ _ ≤ (5 : Int); omega) dX8_isCovered_14 (fun y14 ey14 hRy14 => ?_)
    have et := congrFun (congrFun ey14 71) 0
    rw [zp_same] at et
    refine i_aload_n G dX8_isCovered_17 rfl ?_
    refine j_gety G F_X8_88 0 rfl rfl (by decide) dX8_isCovered_18 ?_
    have b18 : 0 ≤ y14 71 0 ∧ y14 71 0 ≤ 5 := hRy14 71 _
    refine i_if_ne (tgt := 37) G dX8_isCovered_21 (by decide) (by omega) (fun h21 => ?_) (fun h21 => ?_)
    · skip
      refine i_iconst G dX8_isCovered_37 ?_
      refine j_retz G hr (by omega) dX8_isCovered_38 ?_
      refine ⟨rfl, ?_⟩
      have e71 : y14 71 0 = kcB z b := by rw [ey14, zp_same]; unfold kcB; (repeat' split) <;> omega
      refine ⟨e71, fun hk => ?_, hRy14, fun k a b => by rw [ey14, zp_nk _ b]⟩
      (rw [ey14, zp_same] at e71) <;> omega
    · skip
      refine i_aload_n G dX8_isCovered_24 rfl ?_
      refine i_getr G F_X8_48 0 rfl rfl dX8_isCovered_25 ?_
      refine i_iload_n G dX8_isCovered_28 rfl ?_
      refine j_zald_z G 12 rfl (by decide) (by decide) (by omega) (by omega) dX8_isCovered_29 ?_
      have b29 : 0 ≤ z 21 b ∧ z 21 b ≤ 1 := hR 21 _
      refine i_if_eq (tgt := 37) G dX8_isCovered_30 (by decide) (by omega) (fun h30 => ?_) (fun h30 => ?_)
      · skip
        refine i_iconst G dX8_isCovered_37 ?_
        refine j_retz G hr (by omega) dX8_isCovered_38 ?_
        refine ⟨rfl, ?_⟩
        have e71 : y14 71 0 = kcB z b := by rw [ey14, zp_same]; unfold kcB; (repeat' split) <;> omega
        refine ⟨e71, fun hk => ?_, hRy14, fun k a b => by rw [ey14, zp_nk _ b]⟩
        (rw [ey14, zp_same] at e71) <;> omega
      · skip
        refine i_iconst G dX8_isCovered_33 ?_
        refine i_goto (tgt := 38) G dX8_isCovered_34 (by decide) ?_
        refine j_retz G hr (by omega) dX8_isCovered_38 ?_
        refine ⟨rfl, ?_⟩
        have e71 : y14 71 0 = kcB z b := by rw [ey14, zp_same]; unfold kcB; (repeat' split) <;> omega
        refine ⟨e71, fun hk => ?_, hRy14, fun k a b => by rw [ey14, zp_nk _ b]⟩
        (rw [ey14, zp_same] at e71) <;> omega
  · skip
    refine i_iconst G dX8_isCovered_9 ?_
    refine i_goto (tgt := 14) G dX8_isCovered_10 (by decide) ?_
    refine j_puty G P_X8_88 0 rfl rfl (by decide) (by decide) (by decide) hY (by show (0 : Int) ≤ _ ∧ _ ≤ (5 : Int); omega) dX8_isCovered_14 (fun y14 ey14 hRy14 => ?_)
    have et := congrFun (congrFun ey14 71) 0
    rw [zp_same] at et
    refine i_aload_n G dX8_isCovered_17 rfl ?_
    refine j_gety G F_X8_88 0 rfl rfl (by decide) dX8_isCovered_18 ?_
    have b18 : 0 ≤ y14 71 0 ∧ y14 71 0 ≤ 5 := hRy14 71 _
    refine i_if_ne (tgt := 37) G dX8_isCovered_21 (by decide) (by omega) (fun h21 => ?_) (fun h21 => ?_)
    · skip
      refine i_iconst G dX8_isCovered_37 ?_
      refine j_retz G hr (by omega) dX8_isCovered_38 ?_
      refine ⟨rfl, ?_⟩
      have e71 : y14 71 0 = kcB z b := by rw [ey14, zp_same]; unfold kcB; (repeat' split) <;> omega
      refine ⟨e71, fun hk => ?_, hRy14, fun k a b => by rw [ey14, zp_nk _ b]⟩
      (rw [ey14, zp_same] at e71) <;> omega
    · skip
      refine i_aload_n G dX8_isCovered_24 rfl ?_
      refine i_getr G F_X8_48 0 rfl rfl dX8_isCovered_25 ?_
      refine i_iload_n G dX8_isCovered_28 rfl ?_
      refine j_zald_z G 12 rfl (by decide) (by decide) (by omega) (by omega) dX8_isCovered_29 ?_
      have b29 : 0 ≤ z 21 b ∧ z 21 b ≤ 1 := hR 21 _
      refine i_if_eq (tgt := 37) G dX8_isCovered_30 (by decide) (by omega) (fun h30 => ?_) (fun h30 => ?_)
      · skip
        refine i_iconst G dX8_isCovered_37 ?_
        refine j_retz G hr (by omega) dX8_isCovered_38 ?_
        refine ⟨rfl, ?_⟩
        have e71 : y14 71 0 = kcB z b := by rw [ey14, zp_same]; unfold kcB; (repeat' split) <;> omega
        refine ⟨e71, fun hk => ?_, hRy14, fun k a b => by rw [ey14, zp_nk _ b]⟩
        (rw [ey14, zp_same] at e71) <;> omega
      · skip
        refine i_iconst G dX8_isCovered_33 ?_
        refine i_goto (tgt := 38) G dX8_isCovered_34 (by decide) ?_
        refine j_retz G hr (by omega) dX8_isCovered_38 ?_
        refine ⟨rfl, ?_⟩
        have e71 : y14 71 0 = kcB z b := by rw [ey14, zp_same]; unfold kcB; (repeat' split) <;> omega
        refine ⟨e71, fun hk => ?_, hRy14, fun k a b => by rw [ey14, zp_nk _ b]⟩
        (rw [ey14, zp_same] at e71) <;> omega
set_option maxHeartbeats 4000000 in
set_option maxRecDepth 100000 in
theorem m_trust (l : Launch) {D : va_G} {aC : Nat → ClassId} {ad : Nat → Nat} (hd : wDi ad shM) {z y : wZ} (hR : Rng z) (hY : Rng y) (w : Int) (hw : -2147483648 ≤ w ∧ w ≤ 2147483647) : cYi l D aC ad shM yX8_trust cX8_trust 2 (.int) (rmL 2) [.ref (ad 40), vi w] z y (fun r_ y2 => y2 71 0 = kcW w ∧ (kcW w = 0 → r_ = z 22 w) ∧ Rng y2 ∧ ∀ k', k' ≠ 70 → k' ≠ 71 → y2 k' = y k') := by
  refine c_i [some (.ref (ad 40)), some (vi (w))] (by decide +kernel) rfl (Nat.le_of_ble_eq_true rfl) rfl hd ?_
  intro p e s m args below meth c A G hr
  refine i_aload_n G dX8_trust_0 rfl ?_
  refine i_iload_n G dX8_trust_1 rfl ?_
  refine i_iconst G dX8_trust_2 ?_
  refine i_bipush G dX8_trust_3 (by decide) ?_
  refine j_callE (q0 := 0) (As := [vi (w), vi (0), vi (9)]) (st := []) G K_X8_94 (m_in l hd hR hY w 0 9 (by first | assumption | omega) (by first | assumption | omega) (by first | assumption | omega)) rfl rfl rfl (rm_ok (by decide) (by decide)) ⟨Nat.le_refl _, Nat.le_refl _⟩ (Nat.le_of_ble_eq_true rfl) dX8_trust_5 ?_
  obtain ⟨r5, er5⟩ : ∃ x_ : Int, x_ = (if 0 ≤ w ∧ w ≤ 9 then 1 else 0) := ⟨_, rfl⟩
  rw [← er5]
  have b5 : (r5 = 1 ∧ 0 ≤ w ∧ w ≤ 9) ∨ (r5 = 0 ∧ ¬ (0 ≤ w ∧ w ≤ 9)) := by rw [er5]; split <;> omega
  refine i_if_eq (tgt := 24) G dX8_trust_8 (by decide) (by omega) (fun h8 => ?_) (fun h8 => ?_)
  · skip
    refine i_aload_n G dX8_trust_24 rfl ?_
    refine i_iconst G dX8_trust_25 ?_
    refine j_callYi (q0 := 0) (As := [vi (1)]) (st := []) G K_X8_110 (m_fails l hd hR hY 1 (by first | assumption | omega)) rfl rfl rfl (rm_ok (by decide) (by decide)) ⟨Nat.le_refl _, Nat.le_refl _⟩ (Nat.le_of_ble_eq_true rfl) dX8_trust_26 (fun r26 y26 q26 => ?_)
    obtain ⟨er26, ey26, hRy26⟩ := q26
    refine j_reti G hr dX8_trust_29 ?_
    refine ⟨rfl, ?_⟩
    have e71 : y26 71 0 = kcW w := by rw [ey26, zp_same]; unfold kcW; (repeat' split) <;> omega
    refine ⟨e71, fun hk => ?_, hRy26, fun k a b => by rw [ey26, zp_nk _ b]⟩
    (rw [ey26, zp_same] at e71) <;> omega
  · skip
    refine i_aload_n G dX8_trust_11 rfl ?_
    refine i_aload_n G dX8_trust_12 rfl ?_
    refine i_getr G F_X8_54 0 rfl rfl dX8_trust_13 ?_
    refine i_iload_n G dX8_trust_16 rfl ?_
    refine j_iald_z G 14 rfl (by decide) (by decide) (by omega) (by omega) dX8_trust_17 ?_
    have b17 : 0 ≤ z 22 w ∧ z 22 w ≤ 100 := hR 22 _
    refine j_callYi (q0 := 0) (As := [vi ((z 22 w))]) (st := []) G K_X8_114 (m_tells l hd hR hY (z 22 w) ) rfl rfl rfl (rm_ok (by decide) (by decide)) ⟨Nat.le_refl _, Nat.le_refl _⟩ (Nat.le_of_ble_eq_true rfl) dX8_trust_18 (fun r18 y18 q18 => ?_)
    obtain ⟨er18, ey18, hRy18⟩ := q18
    refine i_goto (tgt := 29) G dX8_trust_21 (by decide) ?_
    refine j_reti G hr dX8_trust_29 ?_
    refine ⟨rfl, ?_⟩
    have e71 : y18 71 0 = kcW w := by rw [ey18, zp_same]; unfold kcW; (repeat' split) <;> omega
    refine ⟨e71, fun hk => ?_, hRy18, fun k a b => by rw [ey18, zp_nk _ b]⟩
    (rw [ey18, zp_same] at e71) <;> omega
set_option maxHeartbeats 4000000 in
set_option maxRecDepth 100000 in
theorem m_kindOf (l : Launch) {D : va_G} {aC : Nat → ClassId} {ad : Nat → Nat} (hd : wDi ad shM) {z y : wZ} (hR : Rng z) (hY : Rng y) (t : Int) (ht : -2147483648 ≤ t ∧ t ≤ 2147483647) : cYi l D aC ad shM yX8_kindOf cX8_kindOf 2 (.char) (rmL 2) [.ref (ad 40), vi t] z y (fun r_ y2 => y2 71 0 = kcK z t ∧ (kcK z t = 0 → r_ = z 23 t) ∧ Rng y2 ∧ ∀ k', k' ≠ 70 → k' ≠ 71 → y2 k' = y k') := by
  refine c_i [some (.ref (ad 40)), some (vi (t))] (by decide +kernel) rfl (Nat.le_of_ble_eq_true rfl) rfl hd ?_
  intro p e s m args below meth c A G hr
  have q3 : 0 ≤ z 3 0 ∧ z 3 0 ≤ 40 := hR 3 0
  refine i_aload_n G dX8_kindOf_0 rfl ?_
  refine i_aload_n G dX8_kindOf_1 rfl ?_
  refine i_iload_n G dX8_kindOf_2 rfl ?_
  refine j_callE (q0 := 0) (As := [vi (t)]) (st := [.ref (ad 40)]) G K_X8_176 (m_isTask l hd hR hY t (by first | assumption | omega)) rfl rfl rfl (rm_ok (by decide) (by decide)) ⟨Nat.le_refl _, Nat.le_refl _⟩ (Nat.le_of_ble_eq_true rfl) dX8_kindOf_3 ?_
  obtain ⟨r3, er3⟩ : ∃ x_ : Int, x_ = (if 0 ≤ t ∧ t < z 3 0 then 1 else 0) := ⟨_, rfl⟩
  rw [← er3]
  have b3 : (r3 = 1 ∧ 0 ≤ t ∧ t < z 3 0) ∨ (r3 = 0 ∧ ¬ (0 ≤ t ∧ t < z 3 0)) := by rw [er3]; split <;> omega
  refine i_if_eq (tgt := 13) G dX8_kindOf_6 (by decide) (by omega) (fun h6 => ?_) (fun h6 => ?_)
  · skip
    refine i_iconst G dX8_kindOf_13 ?_
    refine j_puty G P_X8_88 0 rfl rfl (by decide) (by decide) (by decide) hY (by show (0 : Int) ≤ _ ∧ _ ≤ (5 : Int); omega) dX8_kindOf_14 (fun y14 ey14 hRy14 => ?_)
    have et := congrFun (congrFun ey14 71) 0
    rw [zp_same] at et
    refine i_aload_n G dX8_kindOf_17 rfl ?_
    refine j_gety G F_X8_88 0 rfl rfl (by decide) dX8_kindOf_18 ?_
    have b18 : 0 ≤ y14 71 0 ∧ y14 71 0 ≤ 5 := hRy14 71 _
    refine i_if_ne (tgt := 33) G dX8_kindOf_21 (by decide) (by omega) (fun h21 => ?_) (fun h21 => ?_)
    · skip
      refine i_bipush G dX8_kindOf_33 (by decide) ?_
      refine j_retc G hr (by omega) dX8_kindOf_35 ?_
      refine ⟨rfl, ?_⟩
      have e71 : y14 71 0 = kcK z t := by rw [ey14, zp_same]; unfold kcK; (repeat' split) <;> omega
      refine ⟨e71, fun hk => ?_, hRy14, fun k a b => by rw [ey14, zp_nk _ b]⟩
      (rw [ey14, zp_same] at e71) <;> omega
    · skip
      refine i_aload_n G dX8_kindOf_24 rfl ?_
      refine i_getr G F_X8_57 0 rfl rfl dX8_kindOf_25 ?_
      refine i_iload_n G dX8_kindOf_28 rfl ?_
      refine j_cald_z G 15 rfl (by decide) (by decide) (by omega) (by omega) dX8_kindOf_29 ?_
      have b29 : 0 ≤ z 23 t ∧ z 23 t ≤ 65535 := hR 23 _
      refine i_goto (tgt := 35) G dX8_kindOf_30 (by decide) ?_
      refine j_retc G hr (by omega) dX8_kindOf_35 ?_
      refine ⟨rfl, ?_⟩
      have e71 : y14 71 0 = kcK z t := by rw [ey14, zp_same]; unfold kcK; (repeat' split) <;> omega
      refine ⟨e71, fun hk => ?_, hRy14, fun k a b => by rw [ey14, zp_nk _ b]⟩
      (rw [ey14, zp_same] at e71) <;> omega
  · skip
    refine i_iconst G dX8_kindOf_9 ?_
    refine i_goto (tgt := 14) G dX8_kindOf_10 (by decide) ?_
    refine j_puty G P_X8_88 0 rfl rfl (by decide) (by decide) (by decide) hY (by show (0 : Int) ≤ _ ∧ _ ≤ (5 : Int); omega) dX8_kindOf_14 (fun y14 ey14 hRy14 => ?_)
    have et := congrFun (congrFun ey14 71) 0
    rw [zp_same] at et
    refine i_aload_n G dX8_kindOf_17 rfl ?_
    refine j_gety G F_X8_88 0 rfl rfl (by decide) dX8_kindOf_18 ?_
    have b18 : 0 ≤ y14 71 0 ∧ y14 71 0 ≤ 5 := hRy14 71 _
    refine i_if_ne (tgt := 33) G dX8_kindOf_21 (by decide) (by omega) (fun h21 => ?_) (fun h21 => ?_)
    · skip
      refine i_bipush G dX8_kindOf_33 (by decide) ?_
      refine j_retc G hr (by omega) dX8_kindOf_35 ?_
      refine ⟨rfl, ?_⟩
      have e71 : y14 71 0 = kcK z t := by rw [ey14, zp_same]; unfold kcK; (repeat' split) <;> omega
      refine ⟨e71, fun hk => ?_, hRy14, fun k a b => by rw [ey14, zp_nk _ b]⟩
      (rw [ey14, zp_same] at e71) <;> omega
    · skip
      refine i_aload_n G dX8_kindOf_24 rfl ?_
      refine i_getr G F_X8_57 0 rfl rfl dX8_kindOf_25 ?_
      refine i_iload_n G dX8_kindOf_28 rfl ?_
      refine j_cald_z G 15 rfl (by decide) (by decide) (by omega) (by omega) dX8_kindOf_29 ?_
      have b29 : 0 ≤ z 23 t ∧ z 23 t ≤ 65535 := hR 23 _
      refine i_goto (tgt := 35) G dX8_kindOf_30 (by decide) ?_
      refine j_retc G hr (by omega) dX8_kindOf_35 ?_
      refine ⟨rfl, ?_⟩
      have e71 : y14 71 0 = kcK z t := by rw [ey14, zp_same]; unfold kcK; (repeat' split) <;> omega
      refine ⟨e71, fun hk => ?_, hRy14, fun k a b => by rw [ey14, zp_nk _ b]⟩
      (rw [ey14, zp_same] at e71) <;> omega
set_option maxHeartbeats 4000000 in
set_option maxRecDepth 100000 in
theorem m_numberOf (l : Launch) {D : va_G} {aC : Nat → ClassId} {ad : Nat → Nat} (hd : wDi ad shM) {z y : wZ} (hR : Rng z) (hY : Rng y) (t : Int) (ht : -2147483648 ≤ t ∧ t ≤ 2147483647) : cYi l D aC ad shM yX8_numberOf cX8_numberOf 2 (.int) (rmL 2) [.ref (ad 40), vi t] z y (fun r_ y2 => y2 71 0 = kcK z t ∧ (kcK z t = 0 → r_ = z 24 t) ∧ Rng y2 ∧ ∀ k', k' ≠ 70 → k' ≠ 71 → y2 k' = y k') := by
  refine c_i [some (.ref (ad 40)), some (vi (t))] (by decide +kernel) rfl (Nat.le_of_ble_eq_true rfl) rfl hd ?_
  intro p e s m args below meth c A G hr
  have q3 : 0 ≤ z 3 0 ∧ z 3 0 ≤ 40 := hR 3 0
  refine i_aload_n G dX8_numberOf_0 rfl ?_
  refine i_iload_n G dX8_numberOf_1 rfl ?_
  refine j_callE (q0 := 0) (As := [vi (t)]) (st := []) G K_X8_176 (m_isTask l hd hR hY t (by first | assumption | omega)) rfl rfl rfl (rm_ok (by decide) (by decide)) ⟨Nat.le_refl _, Nat.le_refl _⟩ (Nat.le_of_ble_eq_true rfl) dX8_numberOf_2 ?_
  obtain ⟨r2, er2⟩ : ∃ x_ : Int, x_ = (if 0 ≤ t ∧ t < z 3 0 then 1 else 0) := ⟨_, rfl⟩
  rw [← er2]
  have b2 : (r2 = 1 ∧ 0 ≤ t ∧ t < z 3 0) ∨ (r2 = 0 ∧ ¬ (0 ≤ t ∧ t < z 3 0)) := by rw [er2]; split <;> omega
  refine i_if_eq (tgt := 21) G dX8_numberOf_5 (by decide) (by omega) (fun h5 => ?_) (fun h5 => ?_)
  · skip
    refine i_aload_n G dX8_numberOf_21 rfl ?_
    refine i_iconst G dX8_numberOf_22 ?_
    refine j_callYi (q0 := 0) (As := [vi (1)]) (st := []) G K_X8_110 (m_fails l hd hR hY 1 (by first | assumption | omega)) rfl rfl rfl (rm_ok (by decide) (by decide)) ⟨Nat.le_refl _, Nat.le_refl _⟩ (Nat.le_of_ble_eq_true rfl) dX8_numberOf_23 (fun r23 y23 q23 => ?_)
    obtain ⟨er23, ey23, hRy23⟩ := q23
    refine j_reti G hr dX8_numberOf_26 ?_
    refine ⟨rfl, ?_⟩
    have e71 : y23 71 0 = kcK z t := by rw [ey23, zp_same]; unfold kcK; (repeat' split) <;> omega
    refine ⟨e71, fun hk => ?_, hRy23, fun k a b => by rw [ey23, zp_nk _ b]⟩
    (rw [ey23, zp_same] at e71) <;> omega
  · skip
    refine i_aload_n G dX8_numberOf_8 rfl ?_
    refine i_aload_n G dX8_numberOf_9 rfl ?_
    refine i_getr G F_X8_61 0 rfl rfl dX8_numberOf_10 ?_
    refine i_iload_n G dX8_numberOf_13 rfl ?_
    refine j_iald_z G 16 rfl (by decide) (by decide) (by omega) (by omega) dX8_numberOf_14 ?_
    have b14 : 0 ≤ z 24 t ∧ z 24 t ≤ 29 := hR 24 _
    refine j_callYi (q0 := 0) (As := [vi ((z 24 t))]) (st := []) G K_X8_114 (m_tells l hd hR hY (z 24 t) ) rfl rfl rfl (rm_ok (by decide) (by decide)) ⟨Nat.le_refl _, Nat.le_refl _⟩ (Nat.le_of_ble_eq_true rfl) dX8_numberOf_15 (fun r15 y15 q15 => ?_)
    obtain ⟨er15, ey15, hRy15⟩ := q15
    refine i_goto (tgt := 26) G dX8_numberOf_18 (by decide) ?_
    refine j_reti G hr dX8_numberOf_26 ?_
    refine ⟨rfl, ?_⟩
    have e71 : y15 71 0 = kcK z t := by rw [ey15, zp_same]; unfold kcK; (repeat' split) <;> omega
    refine ⟨e71, fun hk => ?_, hRy15, fun k a b => by rw [ey15, zp_nk _ b]⟩
    (rw [ey15, zp_same] at e71) <;> omega
set_option maxHeartbeats 4000000 in
set_option maxRecDepth 100000 in
theorem m_doneBy (l : Launch) {D : va_G} {aC : Nat → ClassId} {ad : Nat → Nat} (hd : wDi ad shM) {z y : wZ} (hR : Rng z) (hY : Rng y) (t : Int) (ht : -2147483648 ≤ t ∧ t ≤ 2147483647) : cYi l D aC ad shM yX8_doneBy cX8_doneBy 2 (.int) (rmL 2) [.ref (ad 40), vi t] z y (fun r_ y2 => y2 71 0 = kcDB z t ∧ (kcDB z t = 0 → r_ = z 26 t) ∧ Rng y2 ∧ ∀ k', k' ≠ 70 → k' ≠ 71 → y2 k' = y k') := by
  refine c_i [some (.ref (ad 40)), some (vi (t))] (by decide +kernel) rfl (Nat.le_of_ble_eq_true rfl) rfl hd ?_
  intro p e s m args below meth c A G hr
  have q3 : 0 ≤ z 3 0 ∧ z 3 0 ≤ 40 := hR 3 0
  refine i_aload_n G dX8_doneBy_0 rfl ?_
  refine i_iload_n G dX8_doneBy_1 rfl ?_
  refine j_callE (q0 := 0) (As := [vi (t)]) (st := []) G K_X8_176 (m_isTask l hd hR hY t (by first | assumption | omega)) rfl rfl rfl (rm_ok (by decide) (by decide)) ⟨Nat.le_refl _, Nat.le_refl _⟩ (Nat.le_of_ble_eq_true rfl) dX8_doneBy_2 ?_
  obtain ⟨r2, er2⟩ : ∃ x_ : Int, x_ = (if 0 ≤ t ∧ t < z 3 0 then 1 else 0) := ⟨_, rfl⟩
  rw [← er2]
  have b2 : (r2 = 1 ∧ 0 ≤ t ∧ t < z 3 0) ∨ (r2 = 0 ∧ ¬ (0 ≤ t ∧ t < z 3 0)) := by rw [er2]; split <;> omega
  refine i_if_ne (tgt := 16) G dX8_doneBy_5 (by decide) (by omega) (fun h5 => ?_) (fun h5 => ?_)
  · skip
    refine i_aload_n G dX8_doneBy_16 rfl ?_
    refine i_getr G F_X8_67 0 rfl rfl dX8_doneBy_17 ?_
    refine i_iload_n G dX8_doneBy_20 rfl ?_
    refine j_iald_z G 18 rfl (by decide) (by decide) (by omega) (by omega) dX8_doneBy_21 ?_
    have b21 : -1 ≤ z 26 t ∧ z 26 t ≤ 3 := hR 26 _
    refine i_iconst G dX8_doneBy_22 ?_
    refine i_icmp_ne (tgt := 34) G dX8_doneBy_23 (by decide) (by omega) (by omega) (fun h23 => ?_) (fun h23 => ?_)
    · skip
      refine i_aload_n G dX8_doneBy_34 rfl ?_
      refine i_aload_n G dX8_doneBy_35 rfl ?_
      refine i_getr G F_X8_67 0 rfl rfl dX8_doneBy_36 ?_
      refine i_iload_n G dX8_doneBy_39 rfl ?_
      refine j_iald_z G 18 rfl (by decide) (by decide) (by omega) (by omega) dX8_doneBy_40 ?_
      have b40 : -1 ≤ z 26 t ∧ z 26 t ≤ 3 := hR 26 _
      refine j_callYi (q0 := 0) (As := [vi ((z 26 t))]) (st := []) G K_X8_114 (m_tells l hd hR hY (z 26 t) ) rfl rfl rfl (rm_ok (by decide) (by decide)) ⟨Nat.le_refl _, Nat.le_refl _⟩ (Nat.le_of_ble_eq_true rfl) dX8_doneBy_41 (fun r41 y41 q41 => ?_)
      obtain ⟨er41, ey41, hRy41⟩ := q41
      refine j_reti G hr dX8_doneBy_44 ?_
      refine ⟨rfl, ?_⟩
      have e71 : y41 71 0 = kcDB z t := by rw [ey41, zp_same]; unfold kcDB; (repeat' split) <;> omega
      refine ⟨e71, fun hk => ?_, hRy41, fun k a b => by rw [ey41, zp_nk _ b]⟩
      (rw [ey41, zp_same] at e71) <;> omega
    · skip
      refine i_aload_n G dX8_doneBy_26 rfl ?_
      refine i_iconst G dX8_doneBy_27 ?_
      refine j_callYi (q0 := 0) (As := [vi (2)]) (st := []) G K_X8_110 (m_fails l hd hR hY 2 (by first | assumption | omega)) rfl rfl rfl (rm_ok (by decide) (by decide)) ⟨Nat.le_refl _, Nat.le_refl _⟩ (Nat.le_of_ble_eq_true rfl) dX8_doneBy_28 (fun r28 y28 q28 => ?_)
      obtain ⟨er28, ey28, hRy28⟩ := q28
      refine i_goto (tgt := 44) G dX8_doneBy_31 (by decide) ?_
      refine j_reti G hr dX8_doneBy_44 ?_
      refine ⟨rfl, ?_⟩
      have e71 : y28 71 0 = kcDB z t := by rw [ey28, zp_same]; unfold kcDB; (repeat' split) <;> omega
      refine ⟨e71, fun hk => ?_, hRy28, fun k a b => by rw [ey28, zp_nk _ b]⟩
      (rw [ey28, zp_same] at e71) <;> omega
  · skip
    refine i_aload_n G dX8_doneBy_8 rfl ?_
    refine i_iconst G dX8_doneBy_9 ?_
    refine j_callYi (q0 := 0) (As := [vi (1)]) (st := []) G K_X8_110 (m_fails l hd hR hY 1 (by first | assumption | omega)) rfl rfl rfl (rm_ok (by decide) (by decide)) ⟨Nat.le_refl _, Nat.le_refl _⟩ (Nat.le_of_ble_eq_true rfl) dX8_doneBy_10 (fun r10 y10 q10 => ?_)
    obtain ⟨er10, ey10, hRy10⟩ := q10
    refine i_goto (tgt := 44) G dX8_doneBy_13 (by decide) ?_
    refine j_reti G hr dX8_doneBy_44 ?_
    refine ⟨rfl, ?_⟩
    have e71 : y10 71 0 = kcDB z t := by rw [ey10, zp_same]; unfold kcDB; (repeat' split) <;> omega
    refine ⟨e71, fun hk => ?_, hRy10, fun k a b => by rw [ey10, zp_nk _ b]⟩
    (rw [ey10, zp_same] at e71) <;> omega
set_option maxHeartbeats 4000000 in
set_option maxRecDepth 100000 in
theorem m_forkOf (l : Launch) {D : va_G} {aC : Nat → ClassId} {ad : Nat → Nat} (hd : wDi ad shM) {z y : wZ} (hR : Rng z) (hY : Rng y) (r : Int) (hr : -2147483648 ≤ r ∧ r ≤ 2147483647) : cYi l D aC ad shM yX8_forkOf cX8_forkOf 2 (.int) (rmL 2) [.ref (ad 40), vi r] z y (fun r_ y2 => y2 71 0 = kcR z r ∧ (kcR z r = 0 → r_ = z 27 r) ∧ Rng y2 ∧ ∀ k', k' ≠ 70 → k' ≠ 71 → y2 k' = y k') := by
  refine c_i [some (.ref (ad 40)), some (vi (r))] (by decide +kernel) rfl (Nat.le_of_ble_eq_true rfl) rfl hd ?_
  intro p e s m args below meth c A G hr
  have q4 : 0 ≤ z 4 0 ∧ z 4 0 ≤ 4 := hR 4 0
  refine i_aload_n G dX8_forkOf_0 rfl ?_
  refine i_iload_n G dX8_forkOf_1 rfl ?_
  refine j_callE (q0 := 0) (As := [vi (r)]) (st := []) G K_X8_179 (m_isRanger l hd hR hY r (by first | assumption | omega)) rfl rfl rfl (rm_ok (by decide) (by decide)) ⟨Nat.le_refl _, Nat.le_refl _⟩ (Nat.le_of_ble_eq_true rfl) dX8_forkOf_2 ?_
  obtain ⟨r2, er2⟩ : ∃ x_ : Int, x_ = (if 0 ≤ r ∧ r < z 4 0 then 1 else 0) := ⟨_, rfl⟩
  rw [← er2]
  have b2 : (r2 = 1 ∧ 0 ≤ r ∧ r < z 4 0) ∨ (r2 = 0 ∧ ¬ (0 ≤ r ∧ r < z 4 0)) := by rw [er2]; split <;> omega
  refine i_if_eq (tgt := 21) G dX8_forkOf_5 (by decide) (by omega) (fun h5 => ?_) (fun h5 => ?_)
  · skip
    refine i_aload_n G dX8_forkOf_21 rfl ?_
    refine i_iconst G dX8_forkOf_22 ?_
    refine j_callYi (q0 := 0) (As := [vi (1)]) (st := []) G K_X8_110 (m_fails l hd hR hY 1 (by first | assumption | omega)) rfl rfl rfl (rm_ok (by decide) (by decide)) ⟨Nat.le_refl _, Nat.le_refl _⟩ (Nat.le_of_ble_eq_true rfl) dX8_forkOf_23 (fun r23 y23 q23 => ?_)
    obtain ⟨er23, ey23, hRy23⟩ := q23
    refine j_reti G hr dX8_forkOf_26 ?_
    refine ⟨rfl, ?_⟩
    have e71 : y23 71 0 = kcR z r := by rw [ey23, zp_same]; unfold kcR; (repeat' split) <;> omega
    refine ⟨e71, fun hk => ?_, hRy23, fun k a b => by rw [ey23, zp_nk _ b]⟩
    (rw [ey23, zp_same] at e71) <;> omega
  · skip
    refine i_aload_n G dX8_forkOf_8 rfl ?_
    refine i_aload_n G dX8_forkOf_9 rfl ?_
    refine i_getr G F_X8_70 0 rfl rfl dX8_forkOf_10 ?_
    refine i_iload_n G dX8_forkOf_13 rfl ?_
    refine j_iald_z G 19 rfl (by decide) (by decide) (by omega) (by omega) dX8_forkOf_14 ?_
    have b14 : 0 ≤ z 27 r ∧ z 27 r ≤ 15 := hR 27 _
    refine j_callYi (q0 := 0) (As := [vi ((z 27 r))]) (st := []) G K_X8_114 (m_tells l hd hR hY (z 27 r) ) rfl rfl rfl (rm_ok (by decide) (by decide)) ⟨Nat.le_refl _, Nat.le_refl _⟩ (Nat.le_of_ble_eq_true rfl) dX8_forkOf_15 (fun r15 y15 q15 => ?_)
    obtain ⟨er15, ey15, hRy15⟩ := q15
    refine i_goto (tgt := 26) G dX8_forkOf_18 (by decide) ?_
    refine j_reti G hr dX8_forkOf_26 ?_
    refine ⟨rfl, ?_⟩
    have e71 : y15 71 0 = kcR z r := by rw [ey15, zp_same]; unfold kcR; (repeat' split) <;> omega
    refine ⟨e71, fun hk => ?_, hRy15, fun k a b => by rw [ey15, zp_nk _ b]⟩
    (rw [ey15, zp_same] at e71) <;> omega
set_option maxHeartbeats 4000000 in
set_option maxRecDepth 100000 in
theorem m_worked (l : Launch) {D : va_G} {aC : Nat → ClassId} {ad : Nat → Nat} (hd : wDi ad shM) {z y : wZ} (hR : Rng z) (hY : Rng y) (r : Int) (hr : -2147483648 ≤ r ∧ r ≤ 2147483647) : cYi l D aC ad shM yX8_worked cX8_worked 2 (.int) (rmL 2) [.ref (ad 40), vi r] z y (fun r_ y2 => y2 71 0 = kcR z r ∧ (kcR z r = 0 → r_ = z 29 r) ∧ Rng y2 ∧ ∀ k', k' ≠ 70 → k' ≠ 71 → y2 k' = y k') := by
  refine c_i [some (.ref (ad 40)), some (vi (r))] (by decide +kernel) rfl (Nat.le_of_ble_eq_true rfl) rfl hd ?_
  intro p e s m args below meth c A G hr
  have q4 : 0 ≤ z 4 0 ∧ z 4 0 ≤ 4 := hR 4 0
  refine i_aload_n G dX8_worked_0 rfl ?_
  refine i_iload_n G dX8_worked_1 rfl ?_
  refine j_callE (q0 := 0) (As := [vi (r)]) (st := []) G K_X8_179 (m_isRanger l hd hR hY r (by first | assumption | omega)) rfl rfl rfl (rm_ok (by decide) (by decide)) ⟨Nat.le_refl _, Nat.le_refl _⟩ (Nat.le_of_ble_eq_true rfl) dX8_worked_2 ?_
  obtain ⟨r2, er2⟩ : ∃ x_ : Int, x_ = (if 0 ≤ r ∧ r < z 4 0 then 1 else 0) := ⟨_, rfl⟩
  rw [← er2]
  have b2 : (r2 = 1 ∧ 0 ≤ r ∧ r < z 4 0) ∨ (r2 = 0 ∧ ¬ (0 ≤ r ∧ r < z 4 0)) := by rw [er2]; split <;> omega
  refine i_if_eq (tgt := 21) G dX8_worked_5 (by decide) (by omega) (fun h5 => ?_) (fun h5 => ?_)
  · skip
    refine i_aload_n G dX8_worked_21 rfl ?_
    refine i_iconst G dX8_worked_22 ?_
    refine j_callYi (q0 := 0) (As := [vi (1)]) (st := []) G K_X8_110 (m_fails l hd hR hY 1 (by first | assumption | omega)) rfl rfl rfl (rm_ok (by decide) (by decide)) ⟨Nat.le_refl _, Nat.le_refl _⟩ (Nat.le_of_ble_eq_true rfl) dX8_worked_23 (fun r23 y23 q23 => ?_)
    obtain ⟨er23, ey23, hRy23⟩ := q23
    refine j_reti G hr dX8_worked_26 ?_
    refine ⟨rfl, ?_⟩
    have e71 : y23 71 0 = kcR z r := by rw [ey23, zp_same]; unfold kcR; (repeat' split) <;> omega
    refine ⟨e71, fun hk => ?_, hRy23, fun k a b => by rw [ey23, zp_nk _ b]⟩
    (rw [ey23, zp_same] at e71) <;> omega
  · skip
    refine i_aload_n G dX8_worked_8 rfl ?_
    refine i_aload_n G dX8_worked_9 rfl ?_
    refine i_getr G F_X8_76 0 rfl rfl dX8_worked_10 ?_
    refine i_iload_n G dX8_worked_13 rfl ?_
    refine j_iald_z G 21 rfl (by decide) (by decide) (by omega) (by omega) dX8_worked_14 ?_
    have b14 : 0 ≤ z 29 r ∧ z 29 r ≤ 60000 := hR 29 _
    refine j_callYi (q0 := 0) (As := [vi ((z 29 r))]) (st := []) G K_X8_114 (m_tells l hd hR hY (z 29 r) ) rfl rfl rfl (rm_ok (by decide) (by decide)) ⟨Nat.le_refl _, Nat.le_refl _⟩ (Nat.le_of_ble_eq_true rfl) dX8_worked_15 (fun r15 y15 q15 => ?_)
    obtain ⟨er15, ey15, hRy15⟩ := q15
    refine i_goto (tgt := 26) G dX8_worked_18 (by decide) ?_
    refine j_reti G hr dX8_worked_26 ?_
    refine ⟨rfl, ?_⟩
    have e71 : y15 71 0 = kcR z r := by rw [ey15, zp_same]; unfold kcR; (repeat' split) <;> omega
    refine ⟨e71, fun hk => ?_, hRy15, fun k a b => by rw [ey15, zp_nk _ b]⟩
    (rw [ey15, zp_same] at e71) <;> omega
set_option maxHeartbeats 4000000 in
set_option maxRecDepth 100000 in
theorem m_shows (l : Launch) {D : va_G} {aC : Nat → ClassId} {ad : Nat → Nat} (hd : wDi ad shM) {z y : wZ} (hR : Rng z) (hY : Rng y) (mp : Int) (t : Int) (hmp : -2147483648 ≤ mp ∧ mp ≤ 2147483647) (ht : -2147483648 ≤ t ∧ t ≤ 2147483647) : cYi l D aC ad shM yX8_shows cX8_shows 3 (.boolean) (rmL 2) [.ref (ad 40), vi mp, vi t] z y (fun r_ y2 => y2 71 0 = kcSh z mp t ∧ (kcSh z mp t = 0 → r_ = z 30 (mp * 24 + t)) ∧ Rng y2 ∧ ∀ k', k' ≠ 70 → k' ≠ 71 → y2 k' = y k') := by
  refine c_i [some (.ref (ad 40)), some (vi (mp)), some (vi (t))] (by decide +kernel) rfl (Nat.le_of_ble_eq_true rfl) rfl hd ?_
  intro p e s m args below meth c A G hr
  have q5 : 0 ≤ z 5 0 ∧ z 5 0 ≤ 10 := hR 5 0
  have q1 : 0 ≤ z 1 0 ∧ z 1 0 ≤ 24 := hR 1 0
  refine i_aload_n G dX8_shows_0 rfl ?_
  refine i_aload_n G dX8_shows_1 rfl ?_
  refine i_iload_n G dX8_shows_2 rfl ?_
  refine j_callE (q0 := 0) (As := [vi (mp)]) (st := [.ref (ad 40)]) G K_X8_220 (m_isMap l hd hR hY mp (by first | assumption | omega)) rfl rfl rfl (rm_ok (by decide) (by decide)) ⟨Nat.le_refl _, Nat.le_refl _⟩ (Nat.le_of_ble_eq_true rfl) dX8_shows_3 ?_
  obtain ⟨r3, er3⟩ : ∃ x_ : Int, x_ = (if 0 ≤ mp ∧ mp < z 5 0 then 1 else 0) := ⟨_, rfl⟩
  rw [← er3]
  have b3 : (r3 = 1 ∧ 0 ≤ mp ∧ mp < z 5 0) ∨ (r3 = 0 ∧ ¬ (0 ≤ mp ∧ mp < z 5 0)) := by rw [er3]; split <;> omega
  refine i_if_eq (tgt := 21) G dX8_shows_6 (by decide) (by omega) (fun h6 => ?_) (fun h6 => ?_)
  · skip
    refine i_iconst G dX8_shows_21 ?_
    refine j_puty G P_X8_88 0 rfl rfl (by decide) (by decide) (by decide) hY (by show (0 : Int) ≤ _ ∧ _ ≤ (5 : Int); omega) dX8_shows_22 (fun y22 ey22 hRy22 => ?_)
    have et := congrFun (congrFun ey22 71) 0
    rw [zp_same] at et
    refine i_aload_n G dX8_shows_25 rfl ?_
    refine j_gety G F_X8_88 0 rfl rfl (by decide) dX8_shows_26 ?_
    have b26 : 0 ≤ y22 71 0 ∧ y22 71 0 ≤ 5 := hRy22 71 _
    refine i_if_ne (tgt := 50) G dX8_shows_29 (by decide) (by omega) (fun h29 => ?_) (fun h29 => ?_)
    · skip
      refine i_iconst G dX8_shows_50 ?_
      refine j_retz G hr (by omega) dX8_shows_51 ?_
      refine ⟨rfl, ?_⟩
      have e71 : y22 71 0 = kcSh z mp t := by rw [ey22, zp_same]; unfold kcSh; (repeat' split) <;> omega
      refine ⟨e71, fun hk => ?_, hRy22, fun k a b => by rw [ey22, zp_nk _ b]⟩
      (rw [ey22, zp_same] at e71) <;> omega
    · skip
      refine i_aload_n G dX8_shows_32 rfl ?_
      refine i_getr G F_X8_79 0 rfl rfl dX8_shows_33 ?_
      refine i_iload_n G dX8_shows_36 rfl ?_
      refine i_bipush G dX8_shows_37 (by decide) ?_
      refine i_imul G dX8_shows_39 ?_
      refine i_iload_n G dX8_shows_40 rfl ?_
      refine i_iadd G dX8_shows_41 ?_
      refine j_zald_z G 22 rfl (by decide) (by decide) (by omega) (by omega) dX8_shows_42 ?_
      have b42 : 0 ≤ z 30 ((mp * 24) + t) ∧ z 30 ((mp * 24) + t) ≤ 1 := hR 30 _
      refine i_if_eq (tgt := 50) G dX8_shows_43 (by decide) (by omega) (fun h43 => ?_) (fun h43 => ?_)
      · skip
        refine i_iconst G dX8_shows_50 ?_
        refine j_retz G hr (by omega) dX8_shows_51 ?_
        refine ⟨rfl, ?_⟩
        have e71 : y22 71 0 = kcSh z mp t := by rw [ey22, zp_same]; unfold kcSh; (repeat' split) <;> omega
        refine ⟨e71, fun hk => ?_, hRy22, fun k a b => by rw [ey22, zp_nk _ b]⟩
        (rw [ey22, zp_same] at e71) <;> omega
      · skip
        refine i_iconst G dX8_shows_46 ?_
        refine i_goto (tgt := 51) G dX8_shows_47 (by decide) ?_
        refine j_retz G hr (by omega) dX8_shows_51 ?_
        refine ⟨rfl, ?_⟩
        have e71 : y22 71 0 = kcSh z mp t := by rw [ey22, zp_same]; unfold kcSh; (repeat' split) <;> omega
        refine ⟨e71, fun hk => ?_, hRy22, fun k a b => by rw [ey22, zp_nk _ b]⟩
        (rw [ey22, zp_same] at e71) <;> omega
  · skip
    refine i_aload_n G dX8_shows_9 rfl ?_
    refine i_iload_n G dX8_shows_10 rfl ?_
    refine j_callE (q0 := 0) (As := [vi (t)]) (st := [.ref (ad 40)]) G K_X8_121 (m_isTrail l hd hR hY t (by first | assumption | omega)) rfl rfl rfl (rm_ok (by decide) (by decide)) ⟨Nat.le_refl _, Nat.le_refl _⟩ (Nat.le_of_ble_eq_true rfl) dX8_shows_11 ?_
    obtain ⟨r11, er11⟩ : ∃ x_ : Int, x_ = (if 0 ≤ t ∧ t < z 1 0 then 1 else 0) := ⟨_, rfl⟩
    rw [← er11]
    have b11 : (r11 = 1 ∧ 0 ≤ t ∧ t < z 1 0) ∨ (r11 = 0 ∧ ¬ (0 ≤ t ∧ t < z 1 0)) := by rw [er11]; split <;> omega
    refine i_if_eq (tgt := 21) G dX8_shows_14 (by decide) (by omega) (fun h14 => ?_) (fun h14 => ?_)
    · skip
      refine i_iconst G dX8_shows_21 ?_
      refine j_puty G P_X8_88 0 rfl rfl (by decide) (by decide) (by decide) hY (by show (0 : Int) ≤ _ ∧ _ ≤ (5 : Int); omega) dX8_shows_22 (fun y22 ey22 hRy22 => ?_)
      have et := congrFun (congrFun ey22 71) 0
      rw [zp_same] at et
      refine i_aload_n G dX8_shows_25 rfl ?_
      refine j_gety G F_X8_88 0 rfl rfl (by decide) dX8_shows_26 ?_
      have b26 : 0 ≤ y22 71 0 ∧ y22 71 0 ≤ 5 := hRy22 71 _
      refine i_if_ne (tgt := 50) G dX8_shows_29 (by decide) (by omega) (fun h29 => ?_) (fun h29 => ?_)
      · skip
        refine i_iconst G dX8_shows_50 ?_
        refine j_retz G hr (by omega) dX8_shows_51 ?_
        refine ⟨rfl, ?_⟩
        have e71 : y22 71 0 = kcSh z mp t := by rw [ey22, zp_same]; unfold kcSh; (repeat' split) <;> omega
        refine ⟨e71, fun hk => ?_, hRy22, fun k a b => by rw [ey22, zp_nk _ b]⟩
        (rw [ey22, zp_same] at e71) <;> omega
      · skip
        refine i_aload_n G dX8_shows_32 rfl ?_
        refine i_getr G F_X8_79 0 rfl rfl dX8_shows_33 ?_
        refine i_iload_n G dX8_shows_36 rfl ?_
        refine i_bipush G dX8_shows_37 (by decide) ?_
        refine i_imul G dX8_shows_39 ?_
        refine i_iload_n G dX8_shows_40 rfl ?_
        refine i_iadd G dX8_shows_41 ?_
        refine j_zald_z G 22 rfl (by decide) (by decide) (by omega) (by omega) dX8_shows_42 ?_
        have b42 : 0 ≤ z 30 ((mp * 24) + t) ∧ z 30 ((mp * 24) + t) ≤ 1 := hR 30 _
        refine i_if_eq (tgt := 50) G dX8_shows_43 (by decide) (by omega) (fun h43 => ?_) (fun h43 => ?_)
        · skip
          refine i_iconst G dX8_shows_50 ?_
          refine j_retz G hr (by omega) dX8_shows_51 ?_
          refine ⟨rfl, ?_⟩
          have e71 : y22 71 0 = kcSh z mp t := by rw [ey22, zp_same]; unfold kcSh; (repeat' split) <;> omega
          refine ⟨e71, fun hk => ?_, hRy22, fun k a b => by rw [ey22, zp_nk _ b]⟩
          (rw [ey22, zp_same] at e71) <;> omega
        · skip
          refine i_iconst G dX8_shows_46 ?_
          refine i_goto (tgt := 51) G dX8_shows_47 (by decide) ?_
          refine j_retz G hr (by omega) dX8_shows_51 ?_
          refine ⟨rfl, ?_⟩
          have e71 : y22 71 0 = kcSh z mp t := by rw [ey22, zp_same]; unfold kcSh; (repeat' split) <;> omega
          refine ⟨e71, fun hk => ?_, hRy22, fun k a b => by rw [ey22, zp_nk _ b]⟩
          (rw [ey22, zp_same] at e71) <;> omega
    · skip
      refine i_iconst G dX8_shows_17 ?_
      refine i_goto (tgt := 22) G dX8_shows_18 (by decide) ?_
      refine j_puty G P_X8_88 0 rfl rfl (by decide) (by decide) (by decide) hY (by show (0 : Int) ≤ _ ∧ _ ≤ (5 : Int); omega) dX8_shows_22 (fun y22 ey22 hRy22 => ?_)
      have et := congrFun (congrFun ey22 71) 0
      rw [zp_same] at et
      refine i_aload_n G dX8_shows_25 rfl ?_
      refine j_gety G F_X8_88 0 rfl rfl (by decide) dX8_shows_26 ?_
      have b26 : 0 ≤ y22 71 0 ∧ y22 71 0 ≤ 5 := hRy22 71 _
      refine i_if_ne (tgt := 50) G dX8_shows_29 (by decide) (by omega) (fun h29 => ?_) (fun h29 => ?_)
      · skip
        refine i_iconst G dX8_shows_50 ?_
        refine j_retz G hr (by omega) dX8_shows_51 ?_
        refine ⟨rfl, ?_⟩
        have e71 : y22 71 0 = kcSh z mp t := by rw [ey22, zp_same]; unfold kcSh; (repeat' split) <;> omega
        refine ⟨e71, fun hk => ?_, hRy22, fun k a b => by rw [ey22, zp_nk _ b]⟩
        (rw [ey22, zp_same] at e71) <;> omega
      · skip
        refine i_aload_n G dX8_shows_32 rfl ?_
        refine i_getr G F_X8_79 0 rfl rfl dX8_shows_33 ?_
        refine i_iload_n G dX8_shows_36 rfl ?_
        refine i_bipush G dX8_shows_37 (by decide) ?_
        refine i_imul G dX8_shows_39 ?_
        refine i_iload_n G dX8_shows_40 rfl ?_
        refine i_iadd G dX8_shows_41 ?_
        refine j_zald_z G 22 rfl (by decide) (by decide) (by omega) (by omega) dX8_shows_42 ?_
        have b42 : 0 ≤ z 30 ((mp * 24) + t) ∧ z 30 ((mp * 24) + t) ≤ 1 := hR 30 _
        refine i_if_eq (tgt := 50) G dX8_shows_43 (by decide) (by omega) (fun h43 => ?_) (fun h43 => ?_)
        · skip
          refine i_iconst G dX8_shows_50 ?_
          refine j_retz G hr (by omega) dX8_shows_51 ?_
          refine ⟨rfl, ?_⟩
          have e71 : y22 71 0 = kcSh z mp t := by rw [ey22, zp_same]; unfold kcSh; (repeat' split) <;> omega
          refine ⟨e71, fun hk => ?_, hRy22, fun k a b => by rw [ey22, zp_nk _ b]⟩
          (rw [ey22, zp_same] at e71) <;> omega
        · skip
          refine i_iconst G dX8_shows_46 ?_
          refine i_goto (tgt := 51) G dX8_shows_47 (by decide) ?_
          refine j_retz G hr (by omega) dX8_shows_51 ?_
          refine ⟨rfl, ?_⟩
          have e71 : y22 71 0 = kcSh z mp t := by rw [ey22, zp_same]; unfold kcSh; (repeat' split) <;> omega
          refine ⟨e71, fun hk => ?_, hRy22, fun k a b => by rw [ey22, zp_nk _ b]⟩
          (rw [ey22, zp_same] at e71) <;> omega
set_option maxHeartbeats 4000000 in
set_option maxRecDepth 100000 in
theorem m_age (l : Launch) {D : va_G} {aC : Nat → ClassId} {ad : Nat → Nat} (hd : wDi ad shM) {z y : wZ} (hR : Rng z) (hY : Rng y) (mp : Int) (hmp : -2147483648 ≤ mp ∧ mp ≤ 2147483647) : cYi l D aC ad shM yX8_age cX8_age 2 (.int) (rmL 2) [.ref (ad 40), vi mp] z y (fun r_ y2 => y2 71 0 = kcM z mp ∧ (kcM z mp = 0 → r_ = z 7 0 - z 31 mp) ∧ Rng y2 ∧ ∀ k', k' ≠ 70 → k' ≠ 71 → y2 k' = y k') := by
  refine c_i [some (.ref (ad 40)), some (vi (mp))] (by decide +kernel) rfl (Nat.le_of_ble_eq_true rfl) rfl hd ?_
  intro p e s m args below meth c A G hr
  have q5 : 0 ≤ z 5 0 ∧ z 5 0 ≤ 10 := hR 5 0
  have q7 : 0 ≤ z 7 0 ∧ z 7 0 ≤ 50 := hR 7 0
  refine i_aload_n G dX8_age_0 rfl ?_
  refine i_iload_n G dX8_age_1 rfl ?_
  refine j_callE (q0 := 0) (As := [vi (mp)]) (st := []) G K_X8_220 (m_isMap l hd hR hY mp (by first | assumption | omega)) rfl rfl rfl (rm_ok (by decide) (by decide)) ⟨Nat.le_refl _, Nat.le_refl _⟩ (Nat.le_of_ble_eq_true rfl) dX8_age_2 ?_
  obtain ⟨r2, er2⟩ : ∃ x_ : Int, x_ = (if 0 ≤ mp ∧ mp < z 5 0 then 1 else 0) := ⟨_, rfl⟩
  rw [← er2]
  have b2 : (r2 = 1 ∧ 0 ≤ mp ∧ mp < z 5 0) ∨ (r2 = 0 ∧ ¬ (0 ≤ mp ∧ mp < z 5 0)) := by rw [er2]; split <;> omega
  refine i_if_eq (tgt := 26) G dX8_age_5 (by decide) (by omega) (fun h5 => ?_) (fun h5 => ?_)
  · skip
    refine i_aload_n G dX8_age_26 rfl ?_
    refine i_iconst G dX8_age_27 ?_
    refine j_callYi (q0 := 0) (As := [vi (1)]) (st := []) G K_X8_110 (m_fails l hd hR hY 1 (by first | assumption | omega)) rfl rfl rfl (rm_ok (by decide) (by decide)) ⟨Nat.le_refl _, Nat.le_refl _⟩ (Nat.le_of_ble_eq_true rfl) dX8_age_28 (fun r28 y28 q28 => ?_)
    obtain ⟨er28, ey28, hRy28⟩ := q28
    refine j_reti G hr dX8_age_31 ?_
    refine ⟨rfl, ?_⟩
    have e71 : y28 71 0 = kcM z mp := by rw [ey28, zp_same]; unfold kcM; (repeat' split) <;> omega
    refine ⟨e71, fun hk => ?_, hRy28, fun k a b => by rw [ey28, zp_nk _ b]⟩
    (rw [ey28, zp_same] at e71) <;> omega
  · skip
    refine i_aload_n G dX8_age_8 rfl ?_
    refine i_aload_n G dX8_age_9 rfl ?_
    refine j_getz G F_X8_204 0 rfl rfl (by decide) dX8_age_10 ?_
    have b10 : 0 ≤ z 7 0 ∧ z 7 0 ≤ 50 := hR 7 _
    refine i_aload_n G dX8_age_13 rfl ?_
    refine i_getr G F_X8_82 0 rfl rfl dX8_age_14 ?_
    refine i_iload_n G dX8_age_17 rfl ?_
    refine j_iald_z G 23 rfl (by decide) (by decide) (by omega) (by omega) dX8_age_18 ?_
    have b18 : 0 ≤ z 31 mp ∧ z 31 mp ≤ 50 := hR 31 _
    refine i_isub G dX8_age_19 ?_
    refine j_callYi (q0 := 0) (As := [vi (((z 7 0) - (z 31 mp)))]) (st := []) G K_X8_114 (m_tells l hd hR hY ((z 7 0) - (z 31 mp)) ) rfl rfl rfl (rm_ok (by decide) (by decide)) ⟨Nat.le_refl _, Nat.le_refl _⟩ (Nat.le_of_ble_eq_true rfl) dX8_age_20 (fun r20 y20 q20 => ?_)
    obtain ⟨er20, ey20, hRy20⟩ := q20
    refine i_goto (tgt := 31) G dX8_age_23 (by decide) ?_
    refine j_reti G hr dX8_age_31 ?_
    refine ⟨rfl, ?_⟩
    have e71 : y20 71 0 = kcM z mp := by rw [ey20, zp_same]; unfold kcM; (repeat' split) <;> omega
    refine ⟨e71, fun hk => ?_, hRy20, fun k a b => by rw [ey20, zp_nk _ b]⟩
    (rw [ey20, zp_same] at e71) <;> omega
set_option maxHeartbeats 4000000 in
set_option maxRecDepth 100000 in
theorem m_firstTrail (l : Launch) {D : va_G} {aC : Nat → ClassId} {ad : Nat → Nat} (hd : wDi ad shM) {z y : wZ} (hR : Rng z) (hY : Rng y) (a : Int) (b : Int) (ha : -2147483648 ≤ a ∧ a ≤ 2147483647) (hb : -2147483648 ≤ b ∧ b ≤ 2147483647) (hF : WF z) : cYi l D aC ad shM yX8_firstTrail cX8_firstTrail 4 (.int) (rmL 3) [.ref (ad 40), vi a, vi b] z y (fun r_ y2 => y2 71 0 = kcFT z a b ∧ (kcFT z a b = 0 → r_ = nxt z a b) ∧ Rng y2 ∧ ∀ k', k' ≠ 70 → k' ≠ 71 → y2 k' = y k') := by
  refine c_i [some (.ref (ad 40)), some (vi (a)), some (vi (b)), none] (by decide +kernel) rfl (Nat.le_of_ble_eq_true rfl) rfl hd ?_
  intro p e s m args below meth c A G hr
  have q0 : 0 ≤ z 0 0 ∧ z 0 0 ≤ 16 := hR 0 0
  have q1 : 0 ≤ z 1 0 ∧ z 1 0 ≤ 24 := hR 1 0
  have hW := hF.1
  refine i_aload_n G dX8_firstTrail_0 rfl ?_
  refine i_iload_n G dX8_firstTrail_1 rfl ?_
  refine j_callE (q0 := 0) (As := [vi (a)]) (st := []) G K_X8_117 (m_isFork l hd hR hY a (by first | assumption | omega)) rfl rfl rfl (rm_ok (by decide) (by decide)) ⟨Nat.le_refl _, Nat.le_refl _⟩ (Nat.le_of_ble_eq_true rfl) dX8_firstTrail_2 ?_
  obtain ⟨r2, er2⟩ : ∃ x_ : Int, x_ = (if 0 ≤ a ∧ a < z 0 0 then 1 else 0) := ⟨_, rfl⟩
  rw [← er2]
  have b2 : (r2 = 1 ∧ 0 ≤ a ∧ a < z 0 0) ∨ (r2 = 0 ∧ ¬ (0 ≤ a ∧ a < z 0 0)) := by rw [er2]; split <;> omega
  refine i_if_eq (tgt := 16) G dX8_firstTrail_5 (by decide) (by omega) (fun h5 => ?_) (fun h5 => ?_)
  · skip
    refine i_aload_n G dX8_firstTrail_16 rfl ?_
    refine i_iconst G dX8_firstTrail_17 ?_
    refine j_callYi (q0 := 0) (As := [vi (1)]) (st := []) G K_X8_110 (m_fails l hd hR hY 1 (by first | assumption | omega)) rfl rfl rfl (rm_ok (by decide) (by decide)) ⟨Nat.le_refl _, Nat.le_refl _⟩ (Nat.le_of_ble_eq_true rfl) dX8_firstTrail_18 (fun r18 y18 q18 => ?_)
    obtain ⟨er18, ey18, hRy18⟩ := q18
    refine j_reti G hr dX8_firstTrail_21 ?_
    refine ⟨rfl, ?_⟩
    have e71 : y18 71 0 = kcFT z a b := by rw [ey18, zp_same]; unfold kcFT; (repeat' split) <;> omega
    refine ⟨e71, fun hk => ?_, hRy18, fun k a b => by rw [ey18, zp_nk _ b] <;> first | rfl | exact ho25 k a⟩
    (rw [ey18, zp_same] at e71) <;> omega
  · skip
    refine i_aload_n G dX8_firstTrail_8 rfl ?_
    refine i_iload_n G dX8_firstTrail_9 rfl ?_
    refine j_callE (q0 := 0) (As := [vi (b)]) (st := []) G K_X8_117 (m_isFork l hd hR hY b (by first | assumption | omega)) rfl rfl rfl (rm_ok (by decide) (by decide)) ⟨Nat.le_refl _, Nat.le_refl _⟩ (Nat.le_of_ble_eq_true rfl) dX8_firstTrail_10 ?_
    obtain ⟨r10, er10⟩ : ∃ x_ : Int, x_ = (if 0 ≤ b ∧ b < z 0 0 then 1 else 0) := ⟨_, rfl⟩
    rw [← er10]
    have b10 : (r10 = 1 ∧ 0 ≤ b ∧ b < z 0 0) ∨ (r10 = 0 ∧ ¬ (0 ≤ b ∧ b < z 0 0)) := by rw [er10]; split <;> omega
    refine i_if_ne (tgt := 22) G dX8_firstTrail_13 (by decide) (by omega) (fun h13 => ?_) (fun h13 => ?_)
    · skip
      refine i_aload_n G dX8_firstTrail_22 rfl ?_
      refine i_iload_n G dX8_firstTrail_23 rfl ?_
      refine i_iload_n G dX8_firstTrail_24 rfl ?_
      refine j_callYi (q0 := 0) (As := [vi (a), vi (b)]) (st := []) G K_X8_147 (m_next l hd hR hY a b (by first | assumption | omega) (by first | assumption | omega) (by first | assumption | omega)) rfl rfl rfl (rm_ok (by decide) (by decide)) ⟨Nat.le_refl _, Nat.le_refl _⟩ (Nat.le_of_ble_eq_true rfl) dX8_firstTrail_25 (fun r25 y25 q25 => ?_)
      obtain ⟨er25, br25, hRy25, ho25⟩ := q25
      refine i_istore_n (L' := [some (.ref (ad 40)), some (vi (a)), some (vi (b)), some (vi (r25))]) G dX8_firstTrail_28 (by decide) rfl ?_
      refine i_iload_n G dX8_firstTrail_29 rfl ?_
      refine i_iconst G dX8_firstTrail_30 ?_
      refine i_icmp_ne (tgt := 42) G dX8_firstTrail_31 (by decide) (by omega) (by omega) (fun h31 => ?_) (fun h31 => ?_)
      · skip
        refine i_aload_n G dX8_firstTrail_42 rfl ?_
        refine i_iload_n G dX8_firstTrail_43 rfl ?_
        refine j_callYi (q0 := 0) (As := [vi (r25)]) (st := []) G K_X8_114 (m_tells l hd hR hRy25 r25 ) rfl rfl rfl (rm_ok (by decide) (by decide)) ⟨Nat.le_refl _, Nat.le_refl _⟩ (Nat.le_of_ble_eq_true rfl) dX8_firstTrail_44 (fun r44 y44 q44 => ?_)
        obtain ⟨er44, ey44, hRy44⟩ := q44
        refine j_reti G hr dX8_firstTrail_47 ?_
        refine ⟨rfl, ?_⟩
        have e71 : y44 71 0 = kcFT z a b := by rw [ey44, zp_same]; unfold kcFT; (repeat' split) <;> omega
        refine ⟨e71, fun hk => ?_, hRy44, fun k a b => by rw [ey44, zp_nk _ b] <;> first | rfl | exact ho25 k a⟩
        (rw [ey44, zp_same] at e71) <;> omega
      · skip
        refine i_aload_n G dX8_firstTrail_34 rfl ?_
        refine i_iconst G dX8_firstTrail_35 ?_
        refine j_callYi (q0 := 0) (As := [vi (2)]) (st := []) G K_X8_110 (m_fails l hd hR hRy25 2 (by first | assumption | omega)) rfl rfl rfl (rm_ok (by decide) (by decide)) ⟨Nat.le_refl _, Nat.le_refl _⟩ (Nat.le_of_ble_eq_true rfl) dX8_firstTrail_36 (fun r36 y36 q36 => ?_)
        obtain ⟨er36, ey36, hRy36⟩ := q36
        refine i_goto (tgt := 47) G dX8_firstTrail_39 (by decide) ?_
        refine j_reti G hr dX8_firstTrail_47 ?_
        refine ⟨rfl, ?_⟩
        have e71 : y36 71 0 = kcFT z a b := by rw [ey36, zp_same]; unfold kcFT; (repeat' split) <;> omega
        refine ⟨e71, fun hk => ?_, hRy36, fun k a b => by rw [ey36, zp_nk _ b] <;> first | rfl | exact ho25 k a⟩
        (rw [ey36, zp_same] at e71) <;> omega
    · skip
      refine i_aload_n G dX8_firstTrail_16 rfl ?_
      refine i_iconst G dX8_firstTrail_17 ?_
      refine j_callYi (q0 := 0) (As := [vi (1)]) (st := []) G K_X8_110 (m_fails l hd hR hY 1 (by first | assumption | omega)) rfl rfl rfl (rm_ok (by decide) (by decide)) ⟨Nat.le_refl _, Nat.le_refl _⟩ (Nat.le_of_ble_eq_true rfl) dX8_firstTrail_18 (fun r18 y18 q18 => ?_)
      obtain ⟨er18, ey18, hRy18⟩ := q18
      refine j_reti G hr dX8_firstTrail_21 ?_
      refine ⟨rfl, ?_⟩
      have e71 : y18 71 0 = kcFT z a b := by rw [ey18, zp_same]; unfold kcFT; (repeat' split) <;> omega
      refine ⟨e71, fun hk => ?_, hRy18, fun k a b => by rw [ey18, zp_nk _ b] <;> first | rfl | exact ho25 k a⟩
      (rw [ey18, zp_same] at e71) <;> omega
set_option maxHeartbeats 4000000 in
set_option maxRecDepth 100000 in
theorem m_isGone_0 (l : Launch) {D : va_G} {aC : Nat → ClassId} {ad : Nat → Nat} (hd : wDi ad shM) {z y : wZ} (hR : Rng z) (hY : Rng y) (t : Int) (ht : -2147483648 ≤ t ∧ t ≤ 2147483647) : cYi l D aC ad shM yX8_isGone cX8_isGone 3 (.boolean) (rmL 2) [.ref (ad 40), vi t, vi 0] z y (fun r_ y2 => y2 71 0 = kcT z t ∧ (kcT z t = 0 → r_ = z 16 t) ∧ Rng y2 ∧ ∀ k', k' ≠ 70 → k' ≠ 71 → y2 k' = y k') := by
  refine c_i [some (.ref (ad 40)), some (vi (t)), some (vi (0))] (by decide +kernel) rfl (Nat.le_of_ble_eq_true rfl) rfl hd ?_
  intro p e s m args below meth c A G hr
  have q1 : 0 ≤ z 1 0 ∧ z 1 0 ≤ 24 := hR 1 0
  refine i_aload_n G dX8_isGone_0 rfl ?_
  refine i_aload_n G dX8_isGone_1 rfl ?_
  refine i_iload_n G dX8_isGone_2 rfl ?_
  refine j_callE (q0 := 0) (As := [vi (t)]) (st := [.ref (ad 40)]) G K_X8_121 (m_isTrail l hd hR hY t (by first | assumption | omega)) rfl rfl rfl (rm_ok (by decide) (by decide)) ⟨Nat.le_refl _, Nat.le_refl _⟩ (Nat.le_of_ble_eq_true rfl) dX8_isGone_3 ?_
  obtain ⟨r3, er3⟩ : ∃ x_ : Int, x_ = (if 0 ≤ t ∧ t < z 1 0 then 1 else 0) := ⟨_, rfl⟩
  rw [← er3]
  have b3 : (r3 = 1 ∧ 0 ≤ t ∧ t < z 1 0) ∨ (r3 = 0 ∧ ¬ (0 ≤ t ∧ t < z 1 0)) := by rw [er3]; split <;> omega
  refine i_if_eq (tgt := 13) G dX8_isGone_6 (by decide) (by omega) (fun h6 => ?_) (fun h6 => ?_)
  · skip
    refine i_iconst G dX8_isGone_13 ?_
    refine j_puty G P_X8_88 0 rfl rfl (by decide) (by decide) (by decide) hY (by show (0 : Int) ≤ _ ∧ _ ≤ (5 : Int); omega) dX8_isGone_14 (fun y14 ey14 hRy14 => ?_)
    have et := congrFun (congrFun ey14 71) 0
    rw [zp_same] at et
    refine i_aload_n G dX8_isGone_17 rfl ?_
    refine j_gety G F_X8_88 0 rfl rfl (by decide) dX8_isGone_18 ?_
    have b18 : 0 ≤ y14 71 0 ∧ y14 71 0 ≤ 5 := hRy14 71 _
    refine i_if_ne (tgt := 37) G dX8_isGone_21 (by decide) (by omega) (fun h21 => ?_) (fun h21 => ?_)
    · skip
      refine i_iconst G dX8_isGone_37 ?_
      refine j_retz G hr (by omega) dX8_isGone_38 ?_
      refine ⟨rfl, ?_⟩
      have e71 : y14 71 0 = kcT z t := by rw [ey14, zp_same]; unfold kcT; (repeat' split) <;> omega
      refine ⟨e71, fun hk => ?_, hRy14, fun k a b => by rw [ey14, zp_nk _ b]⟩
      (rw [ey14, zp_same] at e71) <;> omega
    · skip
      refine i_aload_n G dX8_isGone_24 rfl ?_
      refine i_iload_n G dX8_isGone_25 rfl ?_
      refine i_iload_n G dX8_isGone_26 rfl ?_
      refine j_callE (q0 := 0) (As := [vi (t), vi (0)]) (st := []) G K_X8_124 (m_isShut_0 l hd hR hRy14 t (by first | assumption | omega)) rfl rfl rfl (rm_ok (by decide) (by decide)) ⟨Nat.le_refl _, Nat.le_refl _⟩ (Nat.le_of_ble_eq_true rfl) dX8_isGone_27 ?_
      have b27 : 0 ≤ (z 16 t) ∧ (z 16 t) ≤ 1 := hR 16 _
      refine i_if_eq (tgt := 37) G dX8_isGone_30 (by decide) (by omega) (fun h30 => ?_) (fun h30 => ?_)
      · skip
        refine i_iconst G dX8_isGone_37 ?_
        refine j_retz G hr (by omega) dX8_isGone_38 ?_
        refine ⟨rfl, ?_⟩
        have e71 : y14 71 0 = kcT z t := by rw [ey14, zp_same]; unfold kcT; (repeat' split) <;> omega
        refine ⟨e71, fun hk => ?_, hRy14, fun k a b => by rw [ey14, zp_nk _ b]⟩
        (rw [ey14, zp_same] at e71) <;> omega
      · skip
        refine i_iconst G dX8_isGone_33 ?_
        refine i_goto (tgt := 38) G dX8_isGone_34 (by decide) ?_
        refine j_retz G hr (by omega) dX8_isGone_38 ?_
        refine ⟨rfl, ?_⟩
        have e71 : y14 71 0 = kcT z t := by rw [ey14, zp_same]; unfold kcT; (repeat' split) <;> omega
        refine ⟨e71, fun hk => ?_, hRy14, fun k a b => by rw [ey14, zp_nk _ b]⟩
        (rw [ey14, zp_same] at e71) <;> omega
  · skip
    refine i_iconst G dX8_isGone_9 ?_
    refine i_goto (tgt := 14) G dX8_isGone_10 (by decide) ?_
    refine j_puty G P_X8_88 0 rfl rfl (by decide) (by decide) (by decide) hY (by show (0 : Int) ≤ _ ∧ _ ≤ (5 : Int); omega) dX8_isGone_14 (fun y14 ey14 hRy14 => ?_)
    have et := congrFun (congrFun ey14 71) 0
    rw [zp_same] at et
    refine i_aload_n G dX8_isGone_17 rfl ?_
    refine j_gety G F_X8_88 0 rfl rfl (by decide) dX8_isGone_18 ?_
    have b18 : 0 ≤ y14 71 0 ∧ y14 71 0 ≤ 5 := hRy14 71 _
    refine i_if_ne (tgt := 37) G dX8_isGone_21 (by decide) (by omega) (fun h21 => ?_) (fun h21 => ?_)
    · skip
      refine i_iconst G dX8_isGone_37 ?_
      refine j_retz G hr (by omega) dX8_isGone_38 ?_
      refine ⟨rfl, ?_⟩
      have e71 : y14 71 0 = kcT z t := by rw [ey14, zp_same]; unfold kcT; (repeat' split) <;> omega
      refine ⟨e71, fun hk => ?_, hRy14, fun k a b => by rw [ey14, zp_nk _ b]⟩
      (rw [ey14, zp_same] at e71) <;> omega
    · skip
      refine i_aload_n G dX8_isGone_24 rfl ?_
      refine i_iload_n G dX8_isGone_25 rfl ?_
      refine i_iload_n G dX8_isGone_26 rfl ?_
      refine j_callE (q0 := 0) (As := [vi (t), vi (0)]) (st := []) G K_X8_124 (m_isShut_0 l hd hR hRy14 t (by first | assumption | omega)) rfl rfl rfl (rm_ok (by decide) (by decide)) ⟨Nat.le_refl _, Nat.le_refl _⟩ (Nat.le_of_ble_eq_true rfl) dX8_isGone_27 ?_
      have b27 : 0 ≤ (z 16 t) ∧ (z 16 t) ≤ 1 := hR 16 _
      refine i_if_eq (tgt := 37) G dX8_isGone_30 (by decide) (by omega) (fun h30 => ?_) (fun h30 => ?_)
      · skip
        refine i_iconst G dX8_isGone_37 ?_
        refine j_retz G hr (by omega) dX8_isGone_38 ?_
        refine ⟨rfl, ?_⟩
        have e71 : y14 71 0 = kcT z t := by rw [ey14, zp_same]; unfold kcT; (repeat' split) <;> omega
        refine ⟨e71, fun hk => ?_, hRy14, fun k a b => by rw [ey14, zp_nk _ b]⟩
        (rw [ey14, zp_same] at e71) <;> omega
      · skip
        refine i_iconst G dX8_isGone_33 ?_
        refine i_goto (tgt := 38) G dX8_isGone_34 (by decide) ?_
        refine j_retz G hr (by omega) dX8_isGone_38 ?_
        refine ⟨rfl, ?_⟩
        have e71 : y14 71 0 = kcT z t := by rw [ey14, zp_same]; unfold kcT; (repeat' split) <;> omega
        refine ⟨e71, fun hk => ?_, hRy14, fun k a b => by rw [ey14, zp_nk _ b]⟩
        (rw [ey14, zp_same] at e71) <;> omega
set_option maxHeartbeats 4000000 in
set_option maxRecDepth 100000 in
theorem m_minutes_0 (l : Launch) {D : va_G} {aC : Nat → ClassId} {ad : Nat → Nat} (hd : wDi ad shM) {z y : wZ} (hR : Rng z) (hY : Rng y) (a : Int) (b : Int) (ha : -2147483648 ≤ a ∧ a ≤ 2147483647) (hb : -2147483648 ≤ b ∧ b ≤ 2147483647) (hF : WF z) : cYi l D aC ad shM yX8_minutes cX8_minutes 5 (.int) (rmL 3) [.ref (ad 40), vi a, vi b, vi 0] z y (fun r_ y2 => y2 71 0 = kcMn z 16 a b ∧ (kcMn z 16 a b = 0 → r_ = ds z 16 a b) ∧ Rng y2 ∧ ∀ k', k' ≠ 70 → k' ≠ 71 → y2 k' = y k') := by
  refine c_i [some (.ref (ad 40)), some (vi (a)), some (vi (b)), some (vi (0)), none] (by decide +kernel) rfl (Nat.le_of_ble_eq_true rfl) rfl hd ?_
  intro p e s m args below meth c A G hr
  have q0 : 0 ≤ z 0 0 ∧ z 0 0 ≤ 16 := hR 0 0
  have hW := hF.1
  refine i_aload_n G dX8_minutes_0 rfl ?_
  refine i_iload_n G dX8_minutes_1 rfl ?_
  refine j_callE (q0 := 0) (As := [vi (a)]) (st := []) G K_X8_117 (m_isFork l hd hR hY a (by first | assumption | omega)) rfl rfl rfl (rm_ok (by decide) (by decide)) ⟨Nat.le_refl _, Nat.le_refl _⟩ (Nat.le_of_ble_eq_true rfl) dX8_minutes_2 ?_
  obtain ⟨r2, er2⟩ : ∃ x_ : Int, x_ = (if 0 ≤ a ∧ a < z 0 0 then 1 else 0) := ⟨_, rfl⟩
  rw [← er2]
  have b2 : (r2 = 1 ∧ 0 ≤ a ∧ a < z 0 0) ∨ (r2 = 0 ∧ ¬ (0 ≤ a ∧ a < z 0 0)) := by rw [er2]; split <;> omega
  refine i_if_eq (tgt := 16) G dX8_minutes_5 (by decide) (by omega) (fun h5 => ?_) (fun h5 => ?_)
  · skip
    refine i_aload_n G dX8_minutes_16 rfl ?_
    refine i_iconst G dX8_minutes_17 ?_
    refine j_callYi (q0 := 0) (As := [vi (1)]) (st := []) G K_X8_110 (m_fails l hd hR hY 1 (by first | assumption | omega)) rfl rfl rfl (rm_ok (by decide) (by decide)) ⟨Nat.le_refl _, Nat.le_refl _⟩ (Nat.le_of_ble_eq_true rfl) dX8_minutes_18 (fun r18 y18 q18 => ?_)
    obtain ⟨er18, ey18, hRy18⟩ := q18
    refine j_reti G hr dX8_minutes_21 ?_
    refine ⟨rfl, ?_⟩
    have e71 : y18 71 0 = kcMn z 16 a b := by rw [ey18, zp_same]; unfold kcMn; (repeat' split) <;> omega
    refine ⟨e71, fun hk => ?_, hRy18, fun k a b => by rw [ey18, zp_nk _ b] <;> first | rfl | exact ho26 k a⟩
    (rw [ey18, zp_same] at e71) <;> omega
  · skip
    refine i_aload_n G dX8_minutes_8 rfl ?_
    refine i_iload_n G dX8_minutes_9 rfl ?_
    refine j_callE (q0 := 0) (As := [vi (b)]) (st := []) G K_X8_117 (m_isFork l hd hR hY b (by first | assumption | omega)) rfl rfl rfl (rm_ok (by decide) (by decide)) ⟨Nat.le_refl _, Nat.le_refl _⟩ (Nat.le_of_ble_eq_true rfl) dX8_minutes_10 ?_
    obtain ⟨r10, er10⟩ : ∃ x_ : Int, x_ = (if 0 ≤ b ∧ b < z 0 0 then 1 else 0) := ⟨_, rfl⟩
    rw [← er10]
    have b10 : (r10 = 1 ∧ 0 ≤ b ∧ b < z 0 0) ∨ (r10 = 0 ∧ ¬ (0 ≤ b ∧ b < z 0 0)) := by rw [er10]; split <;> omega
    refine i_if_ne (tgt := 22) G dX8_minutes_13 (by decide) (by omega) (fun h13 => ?_) (fun h13 => ?_)
    · skip
      refine i_aload_n G dX8_minutes_22 rfl ?_
      refine i_iload_n G dX8_minutes_23 rfl ?_
      refine i_iload_n G dX8_minutes_24 rfl ?_
      refine i_iload_n G dX8_minutes_25 rfl ?_
      refine j_callYi (q0 := 0) (As := [vi (a), vi (b), vi (0)]) (st := []) G K_X8_143 (m_way_0 l hd hR hY a b (by first | assumption | omega) (by first | assumption | omega) (by first | assumption | omega)) rfl rfl rfl (rm_ok (by decide) (by decide)) ⟨Nat.le_refl _, Nat.le_refl _⟩ (Nat.le_of_ble_eq_true rfl) dX8_minutes_26 (fun r26 y26 q26 => ?_)
      obtain ⟨er26, br26, hRy26, ho26⟩ := q26
      refine i_istore (L' := [some (.ref (ad 40)), some (vi (a)), some (vi (b)), some (vi (0)), some (vi (r26))]) G dX8_minutes_29 (by decide) rfl ?_
      refine i_iload G dX8_minutes_31 rfl ?_
      refine i_ldc G 1000000 kc_X8_128 dX8_minutes_33 ?_
      refine i_icmp_lt (tgt := 46) G dX8_minutes_35 (by decide) (by omega) (by omega) (fun h35 => ?_) (fun h35 => ?_)
      · skip
        refine i_aload_n G dX8_minutes_46 rfl ?_
        refine i_iload G dX8_minutes_47 rfl ?_
        refine j_callYi (q0 := 0) (As := [vi (r26)]) (st := []) G K_X8_114 (m_tells l hd hR hRy26 r26 ) rfl rfl rfl (rm_ok (by decide) (by decide)) ⟨Nat.le_refl _, Nat.le_refl _⟩ (Nat.le_of_ble_eq_true rfl) dX8_minutes_49 (fun r49 y49 q49 => ?_)
        obtain ⟨er49, ey49, hRy49⟩ := q49
        refine j_reti G hr dX8_minutes_52 ?_
        refine ⟨rfl, ?_⟩
        have e71 : y49 71 0 = kcMn z 16 a b := by rw [ey49, zp_same]; unfold kcMn; (repeat' split) <;> omega
        refine ⟨e71, fun hk => ?_, hRy49, fun k a b => by rw [ey49, zp_nk _ b] <;> first | rfl | exact ho26 k a⟩
        (rw [ey49, zp_same] at e71) <;> omega
      · skip
        refine i_aload_n G dX8_minutes_38 rfl ?_
        refine i_iconst G dX8_minutes_39 ?_
        refine j_callYi (q0 := 0) (As := [vi (2)]) (st := []) G K_X8_110 (m_fails l hd hR hRy26 2 (by first | assumption | omega)) rfl rfl rfl (rm_ok (by decide) (by decide)) ⟨Nat.le_refl _, Nat.le_refl _⟩ (Nat.le_of_ble_eq_true rfl) dX8_minutes_40 (fun r40 y40 q40 => ?_)
        obtain ⟨er40, ey40, hRy40⟩ := q40
        refine i_goto (tgt := 52) G dX8_minutes_43 (by decide) ?_
        refine j_reti G hr dX8_minutes_52 ?_
        refine ⟨rfl, ?_⟩
        have e71 : y40 71 0 = kcMn z 16 a b := by rw [ey40, zp_same]; unfold kcMn; (repeat' split) <;> omega
        refine ⟨e71, fun hk => ?_, hRy40, fun k a b => by rw [ey40, zp_nk _ b] <;> first | rfl | exact ho26 k a⟩
        (rw [ey40, zp_same] at e71) <;> omega
    · skip
      refine i_aload_n G dX8_minutes_16 rfl ?_
      refine i_iconst G dX8_minutes_17 ?_
      refine j_callYi (q0 := 0) (As := [vi (1)]) (st := []) G K_X8_110 (m_fails l hd hR hY 1 (by first | assumption | omega)) rfl rfl rfl (rm_ok (by decide) (by decide)) ⟨Nat.le_refl _, Nat.le_refl _⟩ (Nat.le_of_ble_eq_true rfl) dX8_minutes_18 (fun r18 y18 q18 => ?_)
      obtain ⟨er18, ey18, hRy18⟩ := q18
      refine j_reti G hr dX8_minutes_21 ?_
      refine ⟨rfl, ?_⟩
      have e71 : y18 71 0 = kcMn z 16 a b := by rw [ey18, zp_same]; unfold kcMn; (repeat' split) <;> omega
      refine ⟨e71, fun hk => ?_, hRy18, fun k a b => by rw [ey18, zp_nk _ b] <;> first | rfl | exact ho26 k a⟩
      (rw [ey18, zp_same] at e71) <;> omega
set_option maxHeartbeats 4000000 in
set_option maxRecDepth 100000 in
theorem m_danger_0 (l : Launch) {D : va_G} {aC : Nat → ClassId} {ad : Nat → Nat} (hd : wDi ad shM) {z y : wZ} (hR : Rng z) (hY : Rng y) (b : Int) (hb : -2147483648 ≤ b ∧ b ≤ 2147483647) (hF : WF z) : cYi l D aC ad shM yX8_danger cX8_danger 3 (.int) (rmL 4) [.ref (ad 40), vi b, vi 0] z y (fun r_ y2 => y2 71 0 = kcB z b ∧ (kcB z b = 0 → r_ = dgC z 16 (ds z 16) b) ∧ Rng y2 ∧ ∀ k', k' ≠ 70 → k' ≠ 71 → y2 k' = y k') := by
  refine c_i [some (.ref (ad 40)), some (vi (b)), some (vi (0))] (by decide +kernel) rfl (Nat.le_of_ble_eq_true rfl) rfl hd ?_
  intro p e s m args below meth c A G hr
  have q2 : 0 ≤ z 2 0 ∧ z 2 0 ≤ 30 := hR 2 0
  have hW := hF.1
  refine i_aload_n G dX8_danger_0 rfl ?_
  refine i_iload_n G dX8_danger_1 rfl ?_
  refine j_callE (q0 := 0) (As := [vi (b)]) (st := []) G K_X8_158 (m_isBoard l hd hR hY b (by first | assumption | omega)) rfl rfl rfl (rm_ok (by decide) (by decide)) ⟨Nat.le_refl _, Nat.le_refl _⟩ (Nat.le_of_ble_eq_true rfl) dX8_danger_2 ?_
  obtain ⟨r2, er2⟩ : ∃ x_ : Int, x_ = (if 0 ≤ b ∧ b < z 2 0 then 1 else 0) := ⟨_, rfl⟩
  rw [← er2]
  have b2 : (r2 = 1 ∧ 0 ≤ b ∧ b < z 2 0) ∨ (r2 = 0 ∧ ¬ (0 ≤ b ∧ b < z 2 0)) := by rw [er2]; split <;> omega
  refine i_if_eq (tgt := 21) G dX8_danger_5 (by decide) (by omega) (fun h5 => ?_) (fun h5 => ?_)
  · skip
    refine i_aload_n G dX8_danger_21 rfl ?_
    refine i_iconst G dX8_danger_22 ?_
    refine j_callYi (q0 := 0) (As := [vi (1)]) (st := []) G K_X8_110 (m_fails l hd hR hY 1 (by first | assumption | omega)) rfl rfl rfl (rm_ok (by decide) (by decide)) ⟨Nat.le_refl _, Nat.le_refl _⟩ (Nat.le_of_ble_eq_true rfl) dX8_danger_23 (fun r23 y23 q23 => ?_)
    obtain ⟨er23, ey23, hRy23⟩ := q23
    refine j_reti G hr dX8_danger_26 ?_
    refine ⟨rfl, ?_⟩
    have e71 : y23 71 0 = kcB z b := by rw [ey23, zp_same]; unfold kcB; (repeat' split) <;> omega
    refine ⟨e71, fun hk => ?_, hRy23, fun k a b => by rw [ey23, zp_nk _ b] <;> first | rfl | exact ho12 k a⟩
    (rw [ey23, zp_same] at e71) <;> omega
  · skip
    refine i_aload_n G dX8_danger_8 rfl ?_
    refine i_aload_n G dX8_danger_9 rfl ?_
    refine i_iload_n G dX8_danger_10 rfl ?_
    refine i_iload_n G dX8_danger_11 rfl ?_
    refine j_callYi (q0 := 0) (As := [vi (b), vi (0)]) (st := [.ref (ad 40)]) G K_X8_161 (m_dangerOf_0 l hd hR hY b (by first | assumption | omega) (by first | assumption | omega)) rfl rfl rfl (rm_ok (by decide) (by decide)) ⟨Nat.le_refl _, Nat.le_refl _⟩ (Nat.le_of_ble_eq_true rfl) dX8_danger_12 (fun r12 y12 q12 => ?_)
    obtain ⟨er12, br12, hRy12, ho12⟩ := q12
    refine j_callYi (q0 := 0) (As := [vi (r12)]) (st := []) G K_X8_114 (m_tells l hd hR hRy12 r12 ) rfl rfl rfl (rm_ok (by decide) (by decide)) ⟨Nat.le_refl _, Nat.le_refl _⟩ (Nat.le_of_ble_eq_true rfl) dX8_danger_15 (fun r15 y15 q15 => ?_)
    obtain ⟨er15, ey15, hRy15⟩ := q15
    refine i_goto (tgt := 26) G dX8_danger_18 (by decide) ?_
    refine j_reti G hr dX8_danger_26 ?_
    refine ⟨rfl, ?_⟩
    have e71 : y15 71 0 = kcB z b := by rw [ey15, zp_same]; unfold kcB; (repeat' split) <;> omega
    refine ⟨e71, fun hk => ?_, hRy15, fun k a b => by rw [ey15, zp_nk _ b] <;> first | rfl | exact ho12 k a⟩
    (rw [ey15, zp_same] at e71) <;> omega
set_option maxHeartbeats 4000000 in
set_option maxRecDepth 100000 in
theorem m_isGone_1 (l : Launch) {D : va_G} {aC : Nat → ClassId} {ad : Nat → Nat} (hd : wDi ad shM) {z y : wZ} (hR : Rng z) (hY : Rng y) (t : Int) (ht : -2147483648 ≤ t ∧ t ≤ 2147483647) : cYi l D aC ad shM yX8_isGone cX8_isGone 3 (.boolean) (rmL 2) [.ref (ad 40), vi t, vi 1] z y (fun r_ y2 => y2 71 0 = kcT z t ∧ (kcT z t = 0 → r_ = z 15 t) ∧ Rng y2 ∧ ∀ k', k' ≠ 70 → k' ≠ 71 → y2 k' = y k') := by
  refine c_i [some (.ref (ad 40)), some (vi (t)), some (vi (1))] (by decide +kernel) rfl (Nat.le_of_ble_eq_true rfl) rfl hd ?_
  intro p e s m args below meth c A G hr
  have q1 : 0 ≤ z 1 0 ∧ z 1 0 ≤ 24 := hR 1 0
  refine i_aload_n G dX8_isGone_0 rfl ?_
  refine i_aload_n G dX8_isGone_1 rfl ?_
  refine i_iload_n G dX8_isGone_2 rfl ?_
  refine j_callE (q0 := 0) (As := [vi (t)]) (st := [.ref (ad 40)]) G K_X8_121 (m_isTrail l hd hR hY t (by first | assumption | omega)) rfl rfl rfl (rm_ok (by decide) (by decide)) ⟨Nat.le_refl _, Nat.le_refl _⟩ (Nat.le_of_ble_eq_true rfl) dX8_isGone_3 ?_
  obtain ⟨r3, er3⟩ : ∃ x_ : Int, x_ = (if 0 ≤ t ∧ t < z 1 0 then 1 else 0) := ⟨_, rfl⟩
  rw [← er3]
  have b3 : (r3 = 1 ∧ 0 ≤ t ∧ t < z 1 0) ∨ (r3 = 0 ∧ ¬ (0 ≤ t ∧ t < z 1 0)) := by rw [er3]; split <;> omega
  refine i_if_eq (tgt := 13) G dX8_isGone_6 (by decide) (by omega) (fun h6 => ?_) (fun h6 => ?_)
  · skip
    refine i_iconst G dX8_isGone_13 ?_
    refine j_puty G P_X8_88 0 rfl rfl (by decide) (by decide) (by decide) hY (by show (0 : Int) ≤ _ ∧ _ ≤ (5 : Int); omega) dX8_isGone_14 (fun y14 ey14 hRy14 => ?_)
    have et := congrFun (congrFun ey14 71) 0
    rw [zp_same] at et
    refine i_aload_n G dX8_isGone_17 rfl ?_
    refine j_gety G F_X8_88 0 rfl rfl (by decide) dX8_isGone_18 ?_
    have b18 : 0 ≤ y14 71 0 ∧ y14 71 0 ≤ 5 := hRy14 71 _
    refine i_if_ne (tgt := 37) G dX8_isGone_21 (by decide) (by omega) (fun h21 => ?_) (fun h21 => ?_)
    · skip
      refine i_iconst G dX8_isGone_37 ?_
      refine j_retz G hr (by omega) dX8_isGone_38 ?_
      refine ⟨rfl, ?_⟩
      have e71 : y14 71 0 = kcT z t := by rw [ey14, zp_same]; unfold kcT; (repeat' split) <;> omega
      refine ⟨e71, fun hk => ?_, hRy14, fun k a b => by rw [ey14, zp_nk _ b]⟩
      (rw [ey14, zp_same] at e71) <;> omega
    · skip
      refine i_aload_n G dX8_isGone_24 rfl ?_
      refine i_iload_n G dX8_isGone_25 rfl ?_
      refine i_iload_n G dX8_isGone_26 rfl ?_
      refine j_callE (q0 := 0) (As := [vi (t), vi (1)]) (st := []) G K_X8_124 (m_isShut_1 l hd hR hRy14 t (by first | assumption | omega)) rfl rfl rfl (rm_ok (by decide) (by decide)) ⟨Nat.le_refl _, Nat.le_refl _⟩ (Nat.le_of_ble_eq_true rfl) dX8_isGone_27 ?_
      have b27 : 0 ≤ (z 15 t) ∧ (z 15 t) ≤ 1 := hR 15 _
      refine i_if_eq (tgt := 37) G dX8_isGone_30 (by decide) (by omega) (fun h30 => ?_) (fun h30 => ?_)
      · skip
        refine i_iconst G dX8_isGone_37 ?_
        refine j_retz G hr (by omega) dX8_isGone_38 ?_
        refine ⟨rfl, ?_⟩
        have e71 : y14 71 0 = kcT z t := by rw [ey14, zp_same]; unfold kcT; (repeat' split) <;> omega
        refine ⟨e71, fun hk => ?_, hRy14, fun k a b => by rw [ey14, zp_nk _ b]⟩
        (rw [ey14, zp_same] at e71) <;> omega
      · skip
        refine i_iconst G dX8_isGone_33 ?_
        refine i_goto (tgt := 38) G dX8_isGone_34 (by decide) ?_
        refine j_retz G hr (by omega) dX8_isGone_38 ?_
        refine ⟨rfl, ?_⟩
        have e71 : y14 71 0 = kcT z t := by rw [ey14, zp_same]; unfold kcT; (repeat' split) <;> omega
        refine ⟨e71, fun hk => ?_, hRy14, fun k a b => by rw [ey14, zp_nk _ b]⟩
        (rw [ey14, zp_same] at e71) <;> omega
  · skip
    refine i_iconst G dX8_isGone_9 ?_
    refine i_goto (tgt := 14) G dX8_isGone_10 (by decide) ?_
    refine j_puty G P_X8_88 0 rfl rfl (by decide) (by decide) (by decide) hY (by show (0 : Int) ≤ _ ∧ _ ≤ (5 : Int); omega) dX8_isGone_14 (fun y14 ey14 hRy14 => ?_)
    have et := congrFun (congrFun ey14 71) 0
    rw [zp_same] at et
    refine i_aload_n G dX8_isGone_17 rfl ?_
    refine j_gety G F_X8_88 0 rfl rfl (by decide) dX8_isGone_18 ?_
    have b18 : 0 ≤ y14 71 0 ∧ y14 71 0 ≤ 5 := hRy14 71 _
    refine i_if_ne (tgt := 37) G dX8_isGone_21 (by decide) (by omega) (fun h21 => ?_) (fun h21 => ?_)
    · skip
      refine i_iconst G dX8_isGone_37 ?_
      refine j_retz G hr (by omega) dX8_isGone_38 ?_
      refine ⟨rfl, ?_⟩
      have e71 : y14 71 0 = kcT z t := by rw [ey14, zp_same]; unfold kcT; (repeat' split) <;> omega
      refine ⟨e71, fun hk => ?_, hRy14, fun k a b => by rw [ey14, zp_nk _ b]⟩
      (rw [ey14, zp_same] at e71) <;> omega
    · skip
      refine i_aload_n G dX8_isGone_24 rfl ?_
      refine i_iload_n G dX8_isGone_25 rfl ?_
      refine i_iload_n G dX8_isGone_26 rfl ?_
      refine j_callE (q0 := 0) (As := [vi (t), vi (1)]) (st := []) G K_X8_124 (m_isShut_1 l hd hR hRy14 t (by first | assumption | omega)) rfl rfl rfl (rm_ok (by decide) (by decide)) ⟨Nat.le_refl _, Nat.le_refl _⟩ (Nat.le_of_ble_eq_true rfl) dX8_isGone_27 ?_
      have b27 : 0 ≤ (z 15 t) ∧ (z 15 t) ≤ 1 := hR 15 _
      refine i_if_eq (tgt := 37) G dX8_isGone_30 (by decide) (by omega) (fun h30 => ?_) (fun h30 => ?_)
      · skip
        refine i_iconst G dX8_isGone_37 ?_
        refine j_retz G hr (by omega) dX8_isGone_38 ?_
        refine ⟨rfl, ?_⟩
        have e71 : y14 71 0 = kcT z t := by rw [ey14, zp_same]; unfold kcT; (repeat' split) <;> omega
        refine ⟨e71, fun hk => ?_, hRy14, fun k a b => by rw [ey14, zp_nk _ b]⟩
        (rw [ey14, zp_same] at e71) <;> omega
      · skip
        refine i_iconst G dX8_isGone_33 ?_
        refine i_goto (tgt := 38) G dX8_isGone_34 (by decide) ?_
        refine j_retz G hr (by omega) dX8_isGone_38 ?_
        refine ⟨rfl, ?_⟩
        have e71 : y14 71 0 = kcT z t := by rw [ey14, zp_same]; unfold kcT; (repeat' split) <;> omega
        refine ⟨e71, fun hk => ?_, hRy14, fun k a b => by rw [ey14, zp_nk _ b]⟩
        (rw [ey14, zp_same] at e71) <;> omega
set_option maxHeartbeats 4000000 in
set_option maxRecDepth 100000 in
theorem m_minutes_1 (l : Launch) {D : va_G} {aC : Nat → ClassId} {ad : Nat → Nat} (hd : wDi ad shM) {z y : wZ} (hR : Rng z) (hY : Rng y) (a : Int) (b : Int) (ha : -2147483648 ≤ a ∧ a ≤ 2147483647) (hb : -2147483648 ≤ b ∧ b ≤ 2147483647) (hF : WF z) : cYi l D aC ad shM yX8_minutes cX8_minutes 5 (.int) (rmL 3) [.ref (ad 40), vi a, vi b, vi 1] z y (fun r_ y2 => y2 71 0 = kcMn z 15 a b ∧ (kcMn z 15 a b = 0 → r_ = ds z 15 a b) ∧ Rng y2 ∧ ∀ k', k' ≠ 70 → k' ≠ 71 → y2 k' = y k') := by
  refine c_i [some (.ref (ad 40)), some (vi (a)), some (vi (b)), some (vi (1)), none] (by decide +kernel) rfl (Nat.le_of_ble_eq_true rfl) rfl hd ?_
  intro p e s m args below meth c A G hr
  have q0 : 0 ≤ z 0 0 ∧ z 0 0 ≤ 16 := hR 0 0
  have hW := hF.1
  refine i_aload_n G dX8_minutes_0 rfl ?_
  refine i_iload_n G dX8_minutes_1 rfl ?_
  refine j_callE (q0 := 0) (As := [vi (a)]) (st := []) G K_X8_117 (m_isFork l hd hR hY a (by first | assumption | omega)) rfl rfl rfl (rm_ok (by decide) (by decide)) ⟨Nat.le_refl _, Nat.le_refl _⟩ (Nat.le_of_ble_eq_true rfl) dX8_minutes_2 ?_
  obtain ⟨r2, er2⟩ : ∃ x_ : Int, x_ = (if 0 ≤ a ∧ a < z 0 0 then 1 else 0) := ⟨_, rfl⟩
  rw [← er2]
  have b2 : (r2 = 1 ∧ 0 ≤ a ∧ a < z 0 0) ∨ (r2 = 0 ∧ ¬ (0 ≤ a ∧ a < z 0 0)) := by rw [er2]; split <;> omega
  refine i_if_eq (tgt := 16) G dX8_minutes_5 (by decide) (by omega) (fun h5 => ?_) (fun h5 => ?_)
  · skip
    refine i_aload_n G dX8_minutes_16 rfl ?_
    refine i_iconst G dX8_minutes_17 ?_
    refine j_callYi (q0 := 0) (As := [vi (1)]) (st := []) G K_X8_110 (m_fails l hd hR hY 1 (by first | assumption | omega)) rfl rfl rfl (rm_ok (by decide) (by decide)) ⟨Nat.le_refl _, Nat.le_refl _⟩ (Nat.le_of_ble_eq_true rfl) dX8_minutes_18 (fun r18 y18 q18 => ?_)
    obtain ⟨er18, ey18, hRy18⟩ := q18
    refine j_reti G hr dX8_minutes_21 ?_
    refine ⟨rfl, ?_⟩
    have e71 : y18 71 0 = kcMn z 15 a b := by rw [ey18, zp_same]; unfold kcMn; (repeat' split) <;> omega
    refine ⟨e71, fun hk => ?_, hRy18, fun k a b => by rw [ey18, zp_nk _ b] <;> first | rfl | exact ho26 k a⟩
    (rw [ey18, zp_same] at e71) <;> omega
  · skip
    refine i_aload_n G dX8_minutes_8 rfl ?_
    refine i_iload_n G dX8_minutes_9 rfl ?_
    refine j_callE (q0 := 0) (As := [vi (b)]) (st := []) G K_X8_117 (m_isFork l hd hR hY b (by first | assumption | omega)) rfl rfl rfl (rm_ok (by decide) (by decide)) ⟨Nat.le_refl _, Nat.le_refl _⟩ (Nat.le_of_ble_eq_true rfl) dX8_minutes_10 ?_
    obtain ⟨r10, er10⟩ : ∃ x_ : Int, x_ = (if 0 ≤ b ∧ b < z 0 0 then 1 else 0) := ⟨_, rfl⟩
    rw [← er10]
    have b10 : (r10 = 1 ∧ 0 ≤ b ∧ b < z 0 0) ∨ (r10 = 0 ∧ ¬ (0 ≤ b ∧ b < z 0 0)) := by rw [er10]; split <;> omega
    refine i_if_ne (tgt := 22) G dX8_minutes_13 (by decide) (by omega) (fun h13 => ?_) (fun h13 => ?_)
    · skip
      refine i_aload_n G dX8_minutes_22 rfl ?_
      refine i_iload_n G dX8_minutes_23 rfl ?_
      refine i_iload_n G dX8_minutes_24 rfl ?_
      refine i_iload_n G dX8_minutes_25 rfl ?_
      refine j_callYi (q0 := 0) (As := [vi (a), vi (b), vi (1)]) (st := []) G K_X8_143 (m_way_1 l hd hR hY a b (by first | assumption | omega) (by first | assumption | omega) (by first | assumption | omega)) rfl rfl rfl (rm_ok (by decide) (by decide)) ⟨Nat.le_refl _, Nat.le_refl _⟩ (Nat.le_of_ble_eq_true rfl) dX8_minutes_26 (fun r26 y26 q26 => ?_)
      obtain ⟨er26, br26, hRy26, ho26⟩ := q26
      refine i_istore (L' := [some (.ref (ad 40)), some (vi (a)), some (vi (b)), some (vi (1)), some (vi (r26))]) G dX8_minutes_29 (by decide) rfl ?_
      refine i_iload G dX8_minutes_31 rfl ?_
      refine i_ldc G 1000000 kc_X8_128 dX8_minutes_33 ?_
      refine i_icmp_lt (tgt := 46) G dX8_minutes_35 (by decide) (by omega) (by omega) (fun h35 => ?_) (fun h35 => ?_)
      · skip
        refine i_aload_n G dX8_minutes_46 rfl ?_
        refine i_iload G dX8_minutes_47 rfl ?_
        refine j_callYi (q0 := 0) (As := [vi (r26)]) (st := []) G K_X8_114 (m_tells l hd hR hRy26 r26 ) rfl rfl rfl (rm_ok (by decide) (by decide)) ⟨Nat.le_refl _, Nat.le_refl _⟩ (Nat.le_of_ble_eq_true rfl) dX8_minutes_49 (fun r49 y49 q49 => ?_)
        obtain ⟨er49, ey49, hRy49⟩ := q49
        refine j_reti G hr dX8_minutes_52 ?_
        refine ⟨rfl, ?_⟩
        have e71 : y49 71 0 = kcMn z 15 a b := by rw [ey49, zp_same]; unfold kcMn; (repeat' split) <;> omega
        refine ⟨e71, fun hk => ?_, hRy49, fun k a b => by rw [ey49, zp_nk _ b] <;> first | rfl | exact ho26 k a⟩
        (rw [ey49, zp_same] at e71) <;> omega
      · skip
        refine i_aload_n G dX8_minutes_38 rfl ?_
        refine i_iconst G dX8_minutes_39 ?_
        refine j_callYi (q0 := 0) (As := [vi (2)]) (st := []) G K_X8_110 (m_fails l hd hR hRy26 2 (by first | assumption | omega)) rfl rfl rfl (rm_ok (by decide) (by decide)) ⟨Nat.le_refl _, Nat.le_refl _⟩ (Nat.le_of_ble_eq_true rfl) dX8_minutes_40 (fun r40 y40 q40 => ?_)
        obtain ⟨er40, ey40, hRy40⟩ := q40
        refine i_goto (tgt := 52) G dX8_minutes_43 (by decide) ?_
        refine j_reti G hr dX8_minutes_52 ?_
        refine ⟨rfl, ?_⟩
        have e71 : y40 71 0 = kcMn z 15 a b := by rw [ey40, zp_same]; unfold kcMn; (repeat' split) <;> omega
        refine ⟨e71, fun hk => ?_, hRy40, fun k a b => by rw [ey40, zp_nk _ b] <;> first | rfl | exact ho26 k a⟩
        (rw [ey40, zp_same] at e71) <;> omega
    · skip
      refine i_aload_n G dX8_minutes_16 rfl ?_
      refine i_iconst G dX8_minutes_17 ?_
      refine j_callYi (q0 := 0) (As := [vi (1)]) (st := []) G K_X8_110 (m_fails l hd hR hY 1 (by first | assumption | omega)) rfl rfl rfl (rm_ok (by decide) (by decide)) ⟨Nat.le_refl _, Nat.le_refl _⟩ (Nat.le_of_ble_eq_true rfl) dX8_minutes_18 (fun r18 y18 q18 => ?_)
      obtain ⟨er18, ey18, hRy18⟩ := q18
      refine j_reti G hr dX8_minutes_21 ?_
      refine ⟨rfl, ?_⟩
      have e71 : y18 71 0 = kcMn z 15 a b := by rw [ey18, zp_same]; unfold kcMn; (repeat' split) <;> omega
      refine ⟨e71, fun hk => ?_, hRy18, fun k a b => by rw [ey18, zp_nk _ b] <;> first | rfl | exact ho26 k a⟩
      (rw [ey18, zp_same] at e71) <;> omega
set_option maxHeartbeats 4000000 in
set_option maxRecDepth 100000 in
theorem m_danger_1 (l : Launch) {D : va_G} {aC : Nat → ClassId} {ad : Nat → Nat} (hd : wDi ad shM) {z y : wZ} (hR : Rng z) (hY : Rng y) (b : Int) (hb : -2147483648 ≤ b ∧ b ≤ 2147483647) (hF : WF z) : cYi l D aC ad shM yX8_danger cX8_danger 3 (.int) (rmL 4) [.ref (ad 40), vi b, vi 1] z y (fun r_ y2 => y2 71 0 = kcB z b ∧ (kcB z b = 0 → r_ = dgC z 15 (ds z 15) b) ∧ Rng y2 ∧ ∀ k', k' ≠ 70 → k' ≠ 71 → y2 k' = y k') := by
  refine c_i [some (.ref (ad 40)), some (vi (b)), some (vi (1))] (by decide +kernel) rfl (Nat.le_of_ble_eq_true rfl) rfl hd ?_
  intro p e s m args below meth c A G hr
  have q2 : 0 ≤ z 2 0 ∧ z 2 0 ≤ 30 := hR 2 0
  have hW := hF.1
  refine i_aload_n G dX8_danger_0 rfl ?_
  refine i_iload_n G dX8_danger_1 rfl ?_
  refine j_callE (q0 := 0) (As := [vi (b)]) (st := []) G K_X8_158 (m_isBoard l hd hR hY b (by first | assumption | omega)) rfl rfl rfl (rm_ok (by decide) (by decide)) ⟨Nat.le_refl _, Nat.le_refl _⟩ (Nat.le_of_ble_eq_true rfl) dX8_danger_2 ?_
  obtain ⟨r2, er2⟩ : ∃ x_ : Int, x_ = (if 0 ≤ b ∧ b < z 2 0 then 1 else 0) := ⟨_, rfl⟩
  rw [← er2]
  have b2 : (r2 = 1 ∧ 0 ≤ b ∧ b < z 2 0) ∨ (r2 = 0 ∧ ¬ (0 ≤ b ∧ b < z 2 0)) := by rw [er2]; split <;> omega
  refine i_if_eq (tgt := 21) G dX8_danger_5 (by decide) (by omega) (fun h5 => ?_) (fun h5 => ?_)
  · skip
    refine i_aload_n G dX8_danger_21 rfl ?_
    refine i_iconst G dX8_danger_22 ?_
    refine j_callYi (q0 := 0) (As := [vi (1)]) (st := []) G K_X8_110 (m_fails l hd hR hY 1 (by first | assumption | omega)) rfl rfl rfl (rm_ok (by decide) (by decide)) ⟨Nat.le_refl _, Nat.le_refl _⟩ (Nat.le_of_ble_eq_true rfl) dX8_danger_23 (fun r23 y23 q23 => ?_)
    obtain ⟨er23, ey23, hRy23⟩ := q23
    refine j_reti G hr dX8_danger_26 ?_
    refine ⟨rfl, ?_⟩
    have e71 : y23 71 0 = kcB z b := by rw [ey23, zp_same]; unfold kcB; (repeat' split) <;> omega
    refine ⟨e71, fun hk => ?_, hRy23, fun k a b => by rw [ey23, zp_nk _ b] <;> first | rfl | exact ho12 k a⟩
    (rw [ey23, zp_same] at e71) <;> omega
  · skip
    refine i_aload_n G dX8_danger_8 rfl ?_
    refine i_aload_n G dX8_danger_9 rfl ?_
    refine i_iload_n G dX8_danger_10 rfl ?_
    refine i_iload_n G dX8_danger_11 rfl ?_
    refine j_callYi (q0 := 0) (As := [vi (b), vi (1)]) (st := [.ref (ad 40)]) G K_X8_161 (m_dangerOf_1 l hd hR hY b (by first | assumption | omega) (by first | assumption | omega)) rfl rfl rfl (rm_ok (by decide) (by decide)) ⟨Nat.le_refl _, Nat.le_refl _⟩ (Nat.le_of_ble_eq_true rfl) dX8_danger_12 (fun r12 y12 q12 => ?_)
    obtain ⟨er12, br12, hRy12, ho12⟩ := q12
    refine j_callYi (q0 := 0) (As := [vi (r12)]) (st := []) G K_X8_114 (m_tells l hd hR hRy12 r12 ) rfl rfl rfl (rm_ok (by decide) (by decide)) ⟨Nat.le_refl _, Nat.le_refl _⟩ (Nat.le_of_ble_eq_true rfl) dX8_danger_15 (fun r15 y15 q15 => ?_)
    obtain ⟨er15, ey15, hRy15⟩ := q15
    refine i_goto (tgt := 26) G dX8_danger_18 (by decide) ?_
    refine j_reti G hr dX8_danger_26 ?_
    refine ⟨rfl, ?_⟩
    have e71 : y15 71 0 = kcB z b := by rw [ey15, zp_same]; unfold kcB; (repeat' split) <;> omega
    refine ⟨e71, fun hk => ?_, hRy15, fun k a b => by rw [ey15, zp_nk _ b] <;> first | rfl | exact ho12 k a⟩
    (rw [ey15, zp_same] at e71) <;> omega
set_option maxHeartbeats 4000000 in
set_option maxRecDepth 100000 in
theorem m_thrown (l : Launch) {D : va_G} {aC : Nat → ClassId} {ad : Nat → Nat} (hd : wDi ad shM) {z y : wZ} (hR : Rng z) (hY : Rng y)   : cE l D aC ad shM yX8_thrown cX8_thrown 1 (.int) (rmL 0) [.ref (ad 40)] z y (y 71 0) := by
  refine c_i [some (.ref (ad 40))] (by decide +kernel) rfl (Nat.le_of_ble_eq_true rfl) rfl hd ?_
  intro p e s m args below meth c A G hr
  refine i_aload_n G dX8_thrown_0 rfl ?_
  refine j_gety G F_X8_88 0 rfl rfl (by decide) dX8_thrown_1 ?_
  have b1 : 0 ≤ y 71 0 ∧ y 71 0 ≤ 5 := hY 71 _
  refine j_reti G hr dX8_thrown_4 ?_
  exact ⟨rfl, rfl, rfl⟩
set_option maxHeartbeats 4000000 in
set_option maxRecDepth 100000 in
theorem m_isSound (l : Launch) {D : va_G} {aC : Nat → ClassId} {ad : Nat → Nat} (hd : wDi ad shM) {z y : wZ} (hR : Rng z) (hY : Rng y)   : cYi l D aC ad shM yX8_isSound cX8_isSound 1 (.boolean) (rmL 0) [.ref (ad 40)] z y (fun r_ y2 => r_ = 1 ∧ Rng y2 ∧ ∀ k', k' ≠ 71 → y2 k' = y k') := by
  refine c_i [some (.ref (ad 40))] (by decide +kernel) rfl (Nat.le_of_ble_eq_true rfl) rfl hd ?_
  intro p e s m args below meth c A G hr
  refine i_aload_n G dX8_isSound_0 rfl ?_
  refine i_iconst G dX8_isSound_1 ?_
  refine j_puty G P_X8_88 0 rfl rfl (by decide) (by decide) (by decide) hY (by show (0 : Int) ≤ _ ∧ _ ≤ (5 : Int); omega) dX8_isSound_2 (fun y2 ey2 hRy2 => ?_)
  refine i_iconst G dX8_isSound_5 ?_
  refine j_retz G hr (by omega) dX8_isSound_6 ?_
  refine ⟨rfl, ?_⟩
  exact ⟨rfl, hRy2, fun k a => by rw [ey2, zp_nk _ a]⟩
set_option maxHeartbeats 4000000 in
set_option maxRecDepth 100000 in
theorem m_openTasks (l : Launch) {D : va_G} {aC : Nat → ClassId} {ad : Nat → Nat} (hd : wDi ad shM) {z y : wZ} (hR : Rng z) (hY : Rng y)   : cYi l D aC ad shM yX8_openTasks cX8_openTasks 3 (.int) (rmL 1) [.ref (ad 40)] z y (fun r_ y2 => r_ = opL z (z 3 0).toNat 0 0 ∧ Rng y2 ∧ ∀ k', k' ≠ 71 → y2 k' = y k') := by
  refine c_i [some (.ref (ad 40)), none, none] (by decide +kernel) rfl (Nat.le_of_ble_eq_true rfl) rfl hd ?_
  intro p e s m args below meth c A G hr
  have q3 : 0 ≤ z 3 0 ∧ z 3 0 ≤ 40 := hR 3 0
  refine i_iconst G dX8_openTasks_0 ?_
  refine i_istore_n (L' := [some (.ref (ad 40)), some (vi (0)), none]) G dX8_openTasks_1 (by decide) rfl ?_
  refine i_iconst G dX8_openTasks_2 ?_
  refine i_istore_n (L' := [some (.ref (ad 40)), some (vi (0)), some (vi (0))]) G dX8_openTasks_3 (by decide) rfl ?_
  have lp4 : ∀ (n4 : Nat) (acc t : Int), (0 ≤ t) → (t + n4 = z 3 0) → (0 ≤ acc ∧ acc ≤ t) → (opL z n4 t acc = opL z (z 3 0).toNat 0 0) → JW p l e (rmL 1) s m args below meth c 3 D aC ad A shM (MQ below (cQi D aC ad shM (fun r_ z_ y_ => z_ = z ∧ (fun r_ y2 => r_ = opL z (z 3 0).toNat 0 0 ∧ Rng y2 ∧ ∀ k', k' ≠ 71 → y2 k' = y k') r_ y_) A) args s 0 0 A) 0 0 (zc z y) 4 [some (.ref (ad 40)), some (vi (acc)), some (vi (t))] [] := by
    intro n4
    induction n4 with
    | zero => 
      intro acc t ht hn hac hF
      refine i_iload_n G dX8_openTasks_4 rfl ?_
      refine i_aload_n G dX8_openTasks_5 rfl ?_
      refine j_getz G F_X8_104 0 rfl rfl (by decide) dX8_openTasks_6 ?_
      have b6 : 0 ≤ z 3 0 ∧ z 3 0 ≤ 40 := hR 3 _
      refine i_icmp_ge (tgt := 36) G dX8_openTasks_9 (by decide) (by omega) (by omega) (fun h9 => ?_) (fun h9 => ?_)
      · skip
        refine i_aload_n G dX8_openTasks_36 rfl ?_
        refine i_iload_n G dX8_openTasks_37 rfl ?_
        refine j_callYi (q0 := 0) (As := [vi (acc)]) (st := []) G K_X8_114 (m_tells l hd hR hY acc ) rfl rfl rfl (rm_ok (by decide) (by decide)) ⟨Nat.le_refl _, Nat.le_refl _⟩ (Nat.le_of_ble_eq_true rfl) dX8_openTasks_38 (fun r38 y38 q38 => ?_)
        obtain ⟨er38, ey38, hRy38⟩ := q38
        refine j_reti G hr dX8_openTasks_41 ?_
        refine ⟨rfl, ?_⟩
        refine ⟨?_, hRy38, fun k a => by rw [ey38, zp_nk _ a]⟩
        rw [er38, ← hF]; rfl
      · skip
        exfalso; omega
    | succ n4 ih4 => 
      intro acc t ht hn hac hF
      refine i_iload_n G dX8_openTasks_4 rfl ?_
      refine i_aload_n G dX8_openTasks_5 rfl ?_
      refine j_getz G F_X8_104 0 rfl rfl (by decide) dX8_openTasks_6 ?_
      have b6 : 0 ≤ z 3 0 ∧ z 3 0 ≤ 40 := hR 3 _
      refine i_icmp_ge (tgt := 36) G dX8_openTasks_9 (by decide) (by omega) (by omega) (fun h9 => ?_) (fun h9 => ?_)
      · skip
        exfalso; omega
      · skip
        refine i_iload_n G dX8_openTasks_12 rfl ?_
        refine i_aload_n G dX8_openTasks_13 rfl ?_
        refine i_getr G F_X8_67 0 rfl rfl dX8_openTasks_14 ?_
        refine i_iload_n G dX8_openTasks_17 rfl ?_
        refine j_iald_z G 18 rfl (by decide) (by decide) (by omega) (by omega) dX8_openTasks_18 ?_
        have b18 : -1 ≤ z 26 t ∧ z 26 t ≤ 3 := hR 26 _
        refine i_iconst G dX8_openTasks_19 ?_
        refine i_icmp_ne (tgt := 27) G dX8_openTasks_20 (by decide) (by omega) (by omega) (fun h20 => ?_) (fun h20 => ?_)
        · skip
          refine i_iconst G dX8_openTasks_27 ?_
          refine i_iadd G dX8_openTasks_28 ?_
          refine i_istore_n (L' := [some (.ref (ad 40)), some (vi ((acc + 0))), some (vi (t))]) G dX8_openTasks_29 (by decide) rfl ?_
          refine i_iinc (L' := [some (.ref (ad 40)), some (vi ((acc + 0))), some (vi (t + 1))]) G dX8_openTasks_30 (by decide) rfl rfl ?_
          refine i_goto (tgt := 4) G dX8_openTasks_33 (by decide) ?_
          exact ih4 _ (t + 1) (by omega) (by omega) (by omega) (by rw [← hF, opL]; first | rw [if_pos (by omega)] | (rw [if_neg (by omega)]; rw [show (acc + 0) = acc by omega]))
        · skip
          refine i_iconst G dX8_openTasks_23 ?_
          refine i_goto (tgt := 28) G dX8_openTasks_24 (by decide) ?_
          refine i_iadd G dX8_openTasks_28 ?_
          refine i_istore_n (L' := [some (.ref (ad 40)), some (vi ((acc + 1))), some (vi (t))]) G dX8_openTasks_29 (by decide) rfl ?_
          refine i_iinc (L' := [some (.ref (ad 40)), some (vi ((acc + 1))), some (vi (t + 1))]) G dX8_openTasks_30 (by decide) rfl rfl ?_
          refine i_goto (tgt := 4) G dX8_openTasks_33 (by decide) ?_
          exact ih4 _ (t + 1) (by omega) (by omega) (by omega) (by rw [← hF, opL]; first | rw [if_pos (by omega)] | (rw [if_neg (by omega)]; rw [show (acc + 1) = acc by omega]))
  exact lp4 (z 3 0).toNat 0 0 (by omega) (by omega) (by omega) rfl
set_option maxHeartbeats 4000000 in
set_option maxRecDepth 100000 in
theorem m_unsafe_0 (l : Launch) {D : va_G} {aC : Nat → ClassId} {ad : Nat → Nat} (hd : wDi ad shM) {z y : wZ} (hR : Rng z) (hY : Rng y)  (hF : WF z) : cYi l D aC ad shM yX8_unsafe cX8_unsafe 4 (.int) (rmL 4) [.ref (ad 40), vi 0] z y (fun r_ y2 => r_ = unL z 16 (z 2 0).toNat 0 0 ∧ Rng y2 ∧ ∀ k', k' ≠ 70 → k' ≠ 71 → y2 k' = y k') := by
  refine c_i [some (.ref (ad 40)), some (vi (0)), none, none] (by decide +kernel) rfl (Nat.le_of_ble_eq_true rfl) rfl hd ?_
  intro p e s m args below meth c A G hr
  have q2 : 0 ≤ z 2 0 ∧ z 2 0 ≤ 30 := hR 2 0
  refine i_iconst G dX8_unsafe_0 ?_
  refine i_istore_n (L' := [some (.ref (ad 40)), some (vi (0)), some (vi (0)), none]) G dX8_unsafe_1 (by decide) rfl ?_
  refine i_iconst G dX8_unsafe_2 ?_
  refine i_istore_n (L' := [some (.ref (ad 40)), some (vi (0)), some (vi (0)), some (vi (0))]) G dX8_unsafe_3 (by decide) rfl ?_
  have lp4 : ∀ (n4 : Nat) (acc b : Int) (y4_ : wZ), Rng y4_ → (0 ≤ b) → (b + n4 = z 2 0) → (0 ≤ acc ∧ acc ≤ b) → (∀ k', k' ≠ 70 → y4_ k' = y k') → (unL z 16 n4 b acc = unL z 16 (z 2 0).toNat 0 0) → JW p l e (rmL 4) s m args below meth c 4 D aC ad A shM (MQ below (cQi D aC ad shM (fun r_ z_ y_ => z_ = z ∧ (fun r_ y2 => r_ = unL z 16 (z 2 0).toNat 0 0 ∧ Rng y2 ∧ ∀ k', k' ≠ 70 → k' ≠ 71 → y2 k' = y k') r_ y_) A) args s 0 0 A) 0 0 (zc z y4_) 4 [some (.ref (ad 40)), some (vi (0)), some (vi (acc)), some (vi (b))] [] := by
    intro n4
    induction n4 with
    | zero => 
      intro acc b y4_ hRy4_ hb hn hac ho hu
      refine i_iload_n G dX8_unsafe_4 rfl ?_
      refine i_aload_n G dX8_unsafe_5 rfl ?_
      refine j_getz G F_X8_101 0 rfl rfl (by decide) dX8_unsafe_6 ?_
      have b6 : 0 ≤ z 2 0 ∧ z 2 0 ≤ 30 := hR 2 _
      refine i_icmp_ge (tgt := 47) G dX8_unsafe_9 (by decide) (by omega) (by omega) (fun h9 => ?_) (fun h9 => ?_)
      · skip
        refine i_aload_n G dX8_unsafe_47 rfl ?_
        refine i_iload_n G dX8_unsafe_48 rfl ?_
        refine j_callYi (q0 := 0) (As := [vi (acc)]) (st := []) G K_X8_114 (m_tells l hd hR hRy4_ acc ) rfl rfl rfl (rm_ok (by decide) (by decide)) ⟨Nat.le_refl _, Nat.le_refl _⟩ (Nat.le_of_ble_eq_true rfl) dX8_unsafe_49 (fun r49 y49 q49 => ?_)
        obtain ⟨er49, ey49, hRy49⟩ := q49
        refine j_reti G hr dX8_unsafe_52 ?_
        refine ⟨rfl, ?_⟩
        refine ⟨?_, hRy49, fun k a b => by rw [ey49, zp_nk _ b]; exact ho k a⟩
        rw [er49, ← hu]; rfl
      · skip
        exfalso; omega
    | succ n4 ih4 => 
      intro acc b y4_ hRy4_ hb hn hac ho hu
      refine i_iload_n G dX8_unsafe_4 rfl ?_
      refine i_aload_n G dX8_unsafe_5 rfl ?_
      refine j_getz G F_X8_101 0 rfl rfl (by decide) dX8_unsafe_6 ?_
      have b6 : 0 ≤ z 2 0 ∧ z 2 0 ≤ 30 := hR 2 _
      refine i_icmp_ge (tgt := 47) G dX8_unsafe_9 (by decide) (by omega) (by omega) (fun h9 => ?_) (fun h9 => ?_)
      · skip
        exfalso; omega
      · skip
        refine i_iload_n G dX8_unsafe_12 rfl ?_
        refine i_aload_n G dX8_unsafe_13 rfl ?_
        refine i_getr G F_X8_48 0 rfl rfl dX8_unsafe_14 ?_
        refine i_iload_n G dX8_unsafe_17 rfl ?_
        refine j_zald_z G 12 rfl (by decide) (by decide) (by omega) (by omega) dX8_unsafe_18 ?_
        have b18 : 0 ≤ z 21 b ∧ z 21 b ≤ 1 := hR 21 _
        refine i_if_ne (tgt := 38) G dX8_unsafe_19 (by decide) (by omega) (fun h19 => ?_) (fun h19 => ?_)
        · skip
          refine i_iconst G dX8_unsafe_38 ?_
          refine i_iadd G dX8_unsafe_39 ?_
          refine i_istore_n (L' := [some (.ref (ad 40)), some (vi (0)), some (vi ((acc + 0))), some (vi (b))]) G dX8_unsafe_40 (by decide) rfl ?_
          refine i_iinc (L' := [some (.ref (ad 40)), some (vi (0)), some (vi ((acc + 0))), some (vi (b + 1))]) G dX8_unsafe_41 (by decide) rfl rfl ?_
          refine i_goto (tgt := 4) G dX8_unsafe_44 (by decide) ?_
          exact ih4 _ (b + 1) y4_ hRy4_ (by omega) (by omega) (by omega) (fun k a => by first | exact ho k a | exact (ho25 k a).trans (ho k a)) (by rw [← hu, unL]; first | rw [if_pos (by omega)] | (rw [if_neg (by omega)]; rw [show (acc + 0) = acc by omega]))
        · skip
          refine i_aload_n G dX8_unsafe_22 rfl ?_
          refine i_iload_n G dX8_unsafe_23 rfl ?_
          refine i_iload_n G dX8_unsafe_24 rfl ?_
          refine j_callYi (q0 := 0) (As := [vi (b), vi (0)]) (st := [vi (acc)]) G K_X8_161 (m_dangerOf_0 l hd hR hRy4_ b (by first | assumption | omega) (by first | assumption | omega)) rfl rfl rfl (rm_ok (by decide) (by decide)) ⟨Nat.le_refl _, Nat.le_refl _⟩ (Nat.le_of_ble_eq_true rfl) dX8_unsafe_25 (fun r25 y25 q25 => ?_)
          obtain ⟨er25, br25, hRy25, ho25⟩ := q25
          refine i_sipush G dX8_unsafe_28 (by decide) ?_
          refine i_icmp_ne (tgt := 38) G dX8_unsafe_31 (by decide) (by omega) (by omega) (fun h31 => ?_) (fun h31 => ?_)
          · skip
            refine i_iconst G dX8_unsafe_38 ?_
            refine i_iadd G dX8_unsafe_39 ?_
            refine i_istore_n (L' := [some (.ref (ad 40)), some (vi (0)), some (vi ((acc + 0))), some (vi (b))]) G dX8_unsafe_40 (by decide) rfl ?_
            refine i_iinc (L' := [some (.ref (ad 40)), some (vi (0)), some (vi ((acc + 0))), some (vi (b + 1))]) G dX8_unsafe_41 (by decide) rfl rfl ?_
            refine i_goto (tgt := 4) G dX8_unsafe_44 (by decide) ?_
            exact ih4 _ (b + 1) y25 hRy25 (by omega) (by omega) (by omega) (fun k a => by first | exact ho k a | exact (ho25 k a).trans (ho k a)) (by rw [← hu, unL]; first | rw [if_pos (by omega)] | (rw [if_neg (by omega)]; rw [show (acc + 0) = acc by omega]))
          · skip
            refine i_iconst G dX8_unsafe_34 ?_
            refine i_goto (tgt := 39) G dX8_unsafe_35 (by decide) ?_
            refine i_iadd G dX8_unsafe_39 ?_
            refine i_istore_n (L' := [some (.ref (ad 40)), some (vi (0)), some (vi ((acc + 1))), some (vi (b))]) G dX8_unsafe_40 (by decide) rfl ?_
            refine i_iinc (L' := [some (.ref (ad 40)), some (vi (0)), some (vi ((acc + 1))), some (vi (b + 1))]) G dX8_unsafe_41 (by decide) rfl rfl ?_
            refine i_goto (tgt := 4) G dX8_unsafe_44 (by decide) ?_
            exact ih4 _ (b + 1) y25 hRy25 (by omega) (by omega) (by omega) (fun k a => by first | exact ho k a | exact (ho25 k a).trans (ho k a)) (by rw [← hu, unL]; first | rw [if_pos (by omega)] | (rw [if_neg (by omega)]; rw [show (acc + 1) = acc by omega]))
  exact lp4 (z 2 0).toNat 0 0 y hY (by omega) (by omega) (by omega) (fun _ _ => rfl) rfl
set_option maxHeartbeats 4000000 in
set_option maxRecDepth 100000 in
theorem m_unsafe_1 (l : Launch) {D : va_G} {aC : Nat → ClassId} {ad : Nat → Nat} (hd : wDi ad shM) {z y : wZ} (hR : Rng z) (hY : Rng y)  (hF : WF z) : cYi l D aC ad shM yX8_unsafe cX8_unsafe 4 (.int) (rmL 4) [.ref (ad 40), vi 1] z y (fun r_ y2 => r_ = unL z 15 (z 2 0).toNat 0 0 ∧ Rng y2 ∧ ∀ k', k' ≠ 70 → k' ≠ 71 → y2 k' = y k') := by
  refine c_i [some (.ref (ad 40)), some (vi (1)), none, none] (by decide +kernel) rfl (Nat.le_of_ble_eq_true rfl) rfl hd ?_
  intro p e s m args below meth c A G hr
  have q2 : 0 ≤ z 2 0 ∧ z 2 0 ≤ 30 := hR 2 0
  refine i_iconst G dX8_unsafe_0 ?_
  refine i_istore_n (L' := [some (.ref (ad 40)), some (vi (1)), some (vi (0)), none]) G dX8_unsafe_1 (by decide) rfl ?_
  refine i_iconst G dX8_unsafe_2 ?_
  refine i_istore_n (L' := [some (.ref (ad 40)), some (vi (1)), some (vi (0)), some (vi (0))]) G dX8_unsafe_3 (by decide) rfl ?_
  have lp4 : ∀ (n4 : Nat) (acc b : Int) (y4_ : wZ), Rng y4_ → (0 ≤ b) → (b + n4 = z 2 0) → (0 ≤ acc ∧ acc ≤ b) → (∀ k', k' ≠ 70 → y4_ k' = y k') → (unL z 15 n4 b acc = unL z 15 (z 2 0).toNat 0 0) → JW p l e (rmL 4) s m args below meth c 4 D aC ad A shM (MQ below (cQi D aC ad shM (fun r_ z_ y_ => z_ = z ∧ (fun r_ y2 => r_ = unL z 15 (z 2 0).toNat 0 0 ∧ Rng y2 ∧ ∀ k', k' ≠ 70 → k' ≠ 71 → y2 k' = y k') r_ y_) A) args s 0 0 A) 0 0 (zc z y4_) 4 [some (.ref (ad 40)), some (vi (1)), some (vi (acc)), some (vi (b))] [] := by
    intro n4
    induction n4 with
    | zero => 
      intro acc b y4_ hRy4_ hb hn hac ho hu
      refine i_iload_n G dX8_unsafe_4 rfl ?_
      refine i_aload_n G dX8_unsafe_5 rfl ?_
      refine j_getz G F_X8_101 0 rfl rfl (by decide) dX8_unsafe_6 ?_
      have b6 : 0 ≤ z 2 0 ∧ z 2 0 ≤ 30 := hR 2 _
      refine i_icmp_ge (tgt := 47) G dX8_unsafe_9 (by decide) (by omega) (by omega) (fun h9 => ?_) (fun h9 => ?_)
      · skip
        refine i_aload_n G dX8_unsafe_47 rfl ?_
        refine i_iload_n G dX8_unsafe_48 rfl ?_
        refine j_callYi (q0 := 0) (As := [vi (acc)]) (st := []) G K_X8_114 (m_tells l hd hR hRy4_ acc ) rfl rfl rfl (rm_ok (by decide) (by decide)) ⟨Nat.le_refl _, Nat.le_refl _⟩ (Nat.le_of_ble_eq_true rfl) dX8_unsafe_49 (fun r49 y49 q49 => ?_)
        obtain ⟨er49, ey49, hRy49⟩ := q49
        refine j_reti G hr dX8_unsafe_52 ?_
        refine ⟨rfl, ?_⟩
        refine ⟨?_, hRy49, fun k a b => by rw [ey49, zp_nk _ b]; exact ho k a⟩
        rw [er49, ← hu]; rfl
      · skip
        exfalso; omega
    | succ n4 ih4 => 
      intro acc b y4_ hRy4_ hb hn hac ho hu
      refine i_iload_n G dX8_unsafe_4 rfl ?_
      refine i_aload_n G dX8_unsafe_5 rfl ?_
      refine j_getz G F_X8_101 0 rfl rfl (by decide) dX8_unsafe_6 ?_
      have b6 : 0 ≤ z 2 0 ∧ z 2 0 ≤ 30 := hR 2 _
      refine i_icmp_ge (tgt := 47) G dX8_unsafe_9 (by decide) (by omega) (by omega) (fun h9 => ?_) (fun h9 => ?_)
      · skip
        exfalso; omega
      · skip
        refine i_iload_n G dX8_unsafe_12 rfl ?_
        refine i_aload_n G dX8_unsafe_13 rfl ?_
        refine i_getr G F_X8_48 0 rfl rfl dX8_unsafe_14 ?_
        refine i_iload_n G dX8_unsafe_17 rfl ?_
        refine j_zald_z G 12 rfl (by decide) (by decide) (by omega) (by omega) dX8_unsafe_18 ?_
        have b18 : 0 ≤ z 21 b ∧ z 21 b ≤ 1 := hR 21 _
        refine i_if_ne (tgt := 38) G dX8_unsafe_19 (by decide) (by omega) (fun h19 => ?_) (fun h19 => ?_)
        · skip
          refine i_iconst G dX8_unsafe_38 ?_
          refine i_iadd G dX8_unsafe_39 ?_
          refine i_istore_n (L' := [some (.ref (ad 40)), some (vi (1)), some (vi ((acc + 0))), some (vi (b))]) G dX8_unsafe_40 (by decide) rfl ?_
          refine i_iinc (L' := [some (.ref (ad 40)), some (vi (1)), some (vi ((acc + 0))), some (vi (b + 1))]) G dX8_unsafe_41 (by decide) rfl rfl ?_
          refine i_goto (tgt := 4) G dX8_unsafe_44 (by decide) ?_
          exact ih4 _ (b + 1) y4_ hRy4_ (by omega) (by omega) (by omega) (fun k a => by first | exact ho k a | exact (ho25 k a).trans (ho k a)) (by rw [← hu, unL]; first | rw [if_pos (by omega)] | (rw [if_neg (by omega)]; rw [show (acc + 0) = acc by omega]))
        · skip
          refine i_aload_n G dX8_unsafe_22 rfl ?_
          refine i_iload_n G dX8_unsafe_23 rfl ?_
          refine i_iload_n G dX8_unsafe_24 rfl ?_
          refine j_callYi (q0 := 0) (As := [vi (b), vi (1)]) (st := [vi (acc)]) G K_X8_161 (m_dangerOf_1 l hd hR hRy4_ b (by first | assumption | omega) (by first | assumption | omega)) rfl rfl rfl (rm_ok (by decide) (by decide)) ⟨Nat.le_refl _, Nat.le_refl _⟩ (Nat.le_of_ble_eq_true rfl) dX8_unsafe_25 (fun r25 y25 q25 => ?_)
          obtain ⟨er25, br25, hRy25, ho25⟩ := q25
          refine i_sipush G dX8_unsafe_28 (by decide) ?_
          refine i_icmp_ne (tgt := 38) G dX8_unsafe_31 (by decide) (by omega) (by omega) (fun h31 => ?_) (fun h31 => ?_)
          · skip
            refine i_iconst G dX8_unsafe_38 ?_
            refine i_iadd G dX8_unsafe_39 ?_
            refine i_istore_n (L' := [some (.ref (ad 40)), some (vi (1)), some (vi ((acc + 0))), some (vi (b))]) G dX8_unsafe_40 (by decide) rfl ?_
            refine i_iinc (L' := [some (.ref (ad 40)), some (vi (1)), some (vi ((acc + 0))), some (vi (b + 1))]) G dX8_unsafe_41 (by decide) rfl rfl ?_
            refine i_goto (tgt := 4) G dX8_unsafe_44 (by decide) ?_
            exact ih4 _ (b + 1) y25 hRy25 (by omega) (by omega) (by omega) (fun k a => by first | exact ho k a | exact (ho25 k a).trans (ho k a)) (by rw [← hu, unL]; first | rw [if_pos (by omega)] | (rw [if_neg (by omega)]; rw [show (acc + 0) = acc by omega]))
          · skip
            refine i_iconst G dX8_unsafe_34 ?_
            refine i_goto (tgt := 39) G dX8_unsafe_35 (by decide) ?_
            refine i_iadd G dX8_unsafe_39 ?_
            refine i_istore_n (L' := [some (.ref (ad 40)), some (vi (1)), some (vi ((acc + 1))), some (vi (b))]) G dX8_unsafe_40 (by decide) rfl ?_
            refine i_iinc (L' := [some (.ref (ad 40)), some (vi (1)), some (vi ((acc + 1))), some (vi (b + 1))]) G dX8_unsafe_41 (by decide) rfl rfl ?_
            refine i_goto (tgt := 4) G dX8_unsafe_44 (by decide) ?_
            exact ih4 _ (b + 1) y25 hRy25 (by omega) (by omega) (by omega) (fun k a => by first | exact ho k a | exact (ho25 k a).trans (ho k a)) (by rw [← hu, unL]; first | rw [if_pos (by omega)] | (rw [if_neg (by omega)]; rw [show (acc + 1) = acc by omega]))
  exact lp4 (z 2 0).toNat 0 0 y hY (by omega) (by omega) (by omega) (fun _ _ => rfl) rfl
set_option maxHeartbeats 4000000 in
set_option maxRecDepth 100000 in
theorem m_reports (l : Launch) {D : va_G} {aC : Nat → ClassId} {ad : Nat → Nat} (hd : wDi ad shM) {z y : wZ} (hR : Rng z) (hY : Rng y) (t : Int) (ht : -2147483648 ≤ t ∧ t ≤ 2147483647) (hM : MI z y) : cYi l D aC ad shM yX8_reports cX8_reports 4 (.int) (rmL 2) [.ref (ad 40), vi t] z y (fun r_ y2 => y2 71 0 = kcT z t ∧ (kcT z t = 0 → r_ = cntL z t 10 0 0) ∧ Rng y2 ∧ ∀ k', k' ≠ 70 → k' ≠ 71 → y2 k' = y k') := by
  refine c_i [some (.ref (ad 40)), some (vi (t)), none, none] (by decide +kernel) rfl (Nat.le_of_ble_eq_true rfl) rfl hd ?_
  intro p e s m args below meth c A G hr
  have q1 : 0 ≤ z 1 0 ∧ z 1 0 ≤ 24 := hR 1 0
  refine i_aload_n G dX8_reports_0 rfl ?_
  refine i_iload_n G dX8_reports_1 rfl ?_
  refine j_callE (q0 := 0) (As := [vi (t)]) (st := []) G K_X8_121 (m_isTrail l hd hR hY t (by first | assumption | omega)) rfl rfl rfl (rm_ok (by decide) (by decide)) ⟨Nat.le_refl _, Nat.le_refl _⟩ (Nat.le_of_ble_eq_true rfl) dX8_reports_2 ?_
  obtain ⟨r2, er2⟩ : ∃ x_ : Int, x_ = (if 0 ≤ t ∧ t < z 1 0 then 1 else 0) := ⟨_, rfl⟩
  rw [← er2]
  have b2 : (r2 = 1 ∧ 0 ≤ t ∧ t < z 1 0) ∨ (r2 = 0 ∧ ¬ (0 ≤ t ∧ t < z 1 0)) := by rw [er2]; split <;> omega
  refine i_if_ne (tgt := 14) G dX8_reports_5 (by decide) (by omega) (fun h5 => ?_) (fun h5 => ?_)
  · skip
    refine i_iconst G dX8_reports_14 ?_
    refine i_istore_n (L' := [some (.ref (ad 40)), some (vi (t)), some (vi (0)), none]) G dX8_reports_15 (by decide) rfl ?_
    refine i_iconst G dX8_reports_16 ?_
    refine i_istore_n (L' := [some (.ref (ad 40)), some (vi (t)), some (vi (0)), some (vi (0))]) G dX8_reports_17 (by decide) rfl ?_
    have lp18 : ∀ (n18 : Nat) (acc w : Int), (0 ≤ w) → (w + n18 = 10) → (0 ≤ acc ∧ acc ≤ w) → (cntL z t n18 w acc = cntL z t 10 0 0) → JW p l e (rmL 2) s m args below meth c 4 D aC ad A shM (MQ below (cQi D aC ad shM (fun r_ z_ y_ => z_ = z ∧ (fun r_ y2 => y2 71 0 = kcT z t ∧ (kcT z t = 0 → r_ = cntL z t 10 0 0) ∧ Rng y2 ∧ ∀ k', k' ≠ 70 → k' ≠ 71 → y2 k' = y k') r_ y_) A) args s 0 0 A) 0 0 (zc z y) 18 [some (.ref (ad 40)), some (vi (t)), some (vi (acc)), some (vi (w))] [] := by
      intro n18
      induction n18 with
      | zero => 
        intro acc w hw hn hac hF
        refine i_iload_n G dX8_reports_18 rfl ?_
        refine i_bipush G dX8_reports_19 (by decide) ?_
        refine i_icmp_ge (tgt := 52) G dX8_reports_21 (by decide) (by omega) (by omega) (fun h21 => ?_) (fun h21 => ?_)
        · skip
          refine i_aload_n G dX8_reports_52 rfl ?_
          refine i_iload_n G dX8_reports_53 rfl ?_
          refine j_callYi (q0 := 0) (As := [vi (acc)]) (st := []) G K_X8_114 (m_tells l hd hR hY acc ) rfl rfl rfl (rm_ok (by decide) (by decide)) ⟨Nat.le_refl _, Nat.le_refl _⟩ (Nat.le_of_ble_eq_true rfl) dX8_reports_54 (fun r54 y54 q54 => ?_)
          obtain ⟨er54, ey54, hRy54⟩ := q54
          refine j_reti G hr dX8_reports_57 ?_
          refine ⟨rfl, ?_⟩
          have e71 : y54 71 0 = kcT z t := by rw [ey54, zp_same]; unfold kcT; (repeat' split) <;> omega
          refine ⟨e71, fun hk => ?_, hRy54, fun k a b => by rw [ey54, zp_nk _ b]⟩
          rw [er54, ← hF]; rfl
        · skip
          exfalso; omega
      | succ n18 ih18 => 
        intro acc w hw hn hac hF
        refine i_iload_n G dX8_reports_18 rfl ?_
        refine i_bipush G dX8_reports_19 (by decide) ?_
        refine i_icmp_ge (tgt := 52) G dX8_reports_21 (by decide) (by omega) (by omega) (fun h21 => ?_) (fun h21 => ?_)
        · skip
          exfalso; omega
        · skip
          refine i_iload_n G dX8_reports_24 rfl ?_
          refine i_aload_n G dX8_reports_25 rfl ?_
          refine i_getr G F_X8_51 0 rfl rfl dX8_reports_26 ?_
          refine i_iload_n G dX8_reports_29 rfl ?_
          refine i_bipush G dX8_reports_30 (by decide) ?_
          refine i_imul G dX8_reports_32 ?_
          refine i_iload_n G dX8_reports_33 rfl ?_
          refine i_iadd G dX8_reports_34 ?_
          refine j_iald_y G 13 rfl (by decide) (by decide) (by omega) (by omega) dX8_reports_35 ?_
          have b35 : 0 ≤ y 72 ((t * 10) + w) ∧ y 72 ((t * 10) + w) ≤ 2 := hY 72 _
          refine i_if_le (tgt := 43) G dX8_reports_36 (by decide) (by omega) (fun h36 => ?_) (fun h36 => ?_)
          · skip
            refine i_iconst G dX8_reports_43 ?_
            refine i_iadd G dX8_reports_44 ?_
            refine i_istore_n (L' := [some (.ref (ad 40)), some (vi (t)), some (vi ((acc + 0))), some (vi (w))]) G dX8_reports_45 (by decide) rfl ?_
            refine i_iinc (L' := [some (.ref (ad 40)), some (vi (t)), some (vi ((acc + 0))), some (vi (w + 1))]) G dX8_reports_46 (by decide) rfl rfl ?_
            refine i_goto (tgt := 18) G dX8_reports_49 (by decide) ?_
            have hm := hM (t * 10 + w) (by omega) (by omega)
            have q32 : 0 ≤ z 32 (t * 10 + w) ∧ z 32 (t * 10 + w) ≤ 2 := hR 32 _
            have hm2 : (z 32 (t * 10 + w) = 0 → y 72 (t * 10 + w) = 0) ∧ (z 32 (t * 10 + w) ≠ 0 → 1 ≤ y 72 (t * 10 + w)) := ⟨fun c => by rw [hm, if_pos c], fun c => by rw [hm, if_neg c]; omega⟩
            exact ih18 _ (w + 1) (by omega) (by omega) (by omega) (by rw [← hF, cntL]; first | rw [if_neg (by omega)] | (rw [if_pos (by omega)]; rw [show (acc + 0) = acc by omega]))
          · skip
            refine i_iconst G dX8_reports_39 ?_
            refine i_goto (tgt := 44) G dX8_reports_40 (by decide) ?_
            refine i_iadd G dX8_reports_44 ?_
            refine i_istore_n (L' := [some (.ref (ad 40)), some (vi (t)), some (vi ((acc + 1))), some (vi (w))]) G dX8_reports_45 (by decide) rfl ?_
            refine i_iinc (L' := [some (.ref (ad 40)), some (vi (t)), some (vi ((acc + 1))), some (vi (w + 1))]) G dX8_reports_46 (by decide) rfl rfl ?_
            refine i_goto (tgt := 18) G dX8_reports_49 (by decide) ?_
            have hm := hM (t * 10 + w) (by omega) (by omega)
            have q32 : 0 ≤ z 32 (t * 10 + w) ∧ z 32 (t * 10 + w) ≤ 2 := hR 32 _
            have hm2 : (z 32 (t * 10 + w) = 0 → y 72 (t * 10 + w) = 0) ∧ (z 32 (t * 10 + w) ≠ 0 → 1 ≤ y 72 (t * 10 + w)) := ⟨fun c => by rw [hm, if_pos c], fun c => by rw [hm, if_neg c]; omega⟩
            exact ih18 _ (w + 1) (by omega) (by omega) (by omega) (by rw [← hF, cntL]; first | rw [if_neg (by omega)] | (rw [if_pos (by omega)]; rw [show (acc + 1) = acc by omega]))
    exact lp18 10 0 0 (by omega) (by omega) (by omega) rfl
  · skip
    refine i_aload_n G dX8_reports_8 rfl ?_
    refine i_iconst G dX8_reports_9 ?_
    refine j_callYi (q0 := 0) (As := [vi (1)]) (st := []) G K_X8_110 (m_fails l hd hR hY 1 (by first | assumption | omega)) rfl rfl rfl (rm_ok (by decide) (by decide)) ⟨Nat.le_refl _, Nat.le_refl _⟩ (Nat.le_of_ble_eq_true rfl) dX8_reports_10 (fun r10 y10 q10 => ?_)
    obtain ⟨er10, ey10, hRy10⟩ := q10
    refine j_reti G hr dX8_reports_13 ?_
    refine ⟨rfl, ?_⟩
    have e71 : y10 71 0 = kcT z t := by rw [ey10, zp_same]; unfold kcT; (repeat' split) <;> omega
    refine ⟨e71, fun hk => ?_, hRy10, fun k a b => by rw [ey10, zp_nk _ b]⟩
    (rw [ey10, zp_same] at e71) <;> omega
