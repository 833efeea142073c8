theorem mcF_k (z : wZ) (b f q : Int) {k : Nat} (h : k ≠ 17 ∧ k ≠ 18 ∧ k ≠ 19 ∧ k ≠ 20 ∧ k ≠ 21 ∧ k ≠ 6) : mcF z b f q k = z k := by
  unfold mcF
  rw [puF_k _ _ (by omega) (by omega) (by omega) (by omega), zp_nk _ (by omega), zp_nk _ (by omega)]
theorem drwL_zp (mp : Int) {k : Nat} (h : k ≠ 30 ∧ k ≠ 16) (a x : Int) : ∀ (n : Nat) (t : Int) (z : wZ), drwL mp n t (zp z k a x) = zp (drwL mp n t z) k a x
  | 0, _, _ => rfl
  | n + 1, t, z => by
    unfold drwL
    rw [zp_nk _ (Ne.symm h.2), zp_comm _ h.1, drwL_zp mp h a x n]
theorem drw_eq (z : wZ) (td : Int) : zp (zp (drwL (z 5 0) (z 1 0).toNat 0 z) 31 (z 5 0) td) 5 0 (z 5 0 + 1) = drwF z td := by
  unfold drwF
  rw [drwL_zp _ (by decide), drwL_zp _ (by decide), zp_comm _ (by decide : (5 : Nat) ≠ 31)]

set_option maxHeartbeats 4000000 in
set_option maxRecDepth 100000 in
theorem m_addFork (l : Launch) {D : va_G} {aC : Nat → ClassId} {ad : Nat → Nat} (hd : wDi ad shM) {z y : wZ} (hR : Rng z) (hY : Rng y) (v : Int) (hv : v = 0 ∨ v = 1) : cMi l D aC ad shM yX8_addFork cX8_addFork 2 (.int) (rmL 2) [.ref (ad 40), vi v] z y (fun r_ z2 y2 => y2 71 0 = kcAF z ∧ (kcAF z = 0 → r_ = z 0 0 ∧ z2 = afF z v) ∧ (kcAF z ≠ 0 → z2 = z) ∧ Rng z2 ∧ Rng y2 ∧ ∀ k', k' ≠ 70 → k' ≠ 71 → y2 k' = y k') := by
  refine c_i [some (.ref (ad 40)), some (vi (v))] (by decide +kernel) rfl (Nat.le_of_ble_eq_true rfl) rfl hd ?_
  intro p e s m args below meth c A G hr
  have q0 : 0 ≤ z 0 0 ∧ z 0 0 ≤ 16 := hR 0 0
  refine i_aload_n G dX8_addFork_0 rfl ?_
  refine j_getz G F_X8_91 0 rfl rfl (by decide) dX8_addFork_1 ?_
  have b1 : 0 ≤ z 0 0 ∧ z 0 0 ≤ 16 := hR 0 _
  refine i_bipush G dX8_addFork_4 (by decide) ?_
  refine i_icmp_ne (tgt := 15) G dX8_addFork_6 (by decide) (by omega) (by omega) (fun h6 => ?_) (fun h6 => ?_)
  · skip
    refine i_aload_n G dX8_addFork_15 rfl ?_
    refine i_getr G F_X8_13 0 rfl rfl dX8_addFork_16 ?_
    refine i_aload_n G dX8_addFork_19 rfl ?_
    refine j_getz G F_X8_91 0 rfl rfl (by decide) dX8_addFork_20 ?_
    have b20 : 0 ≤ z 0 0 ∧ z 0 0 ≤ 16 := hR 0 _
    refine i_iload_n G dX8_addFork_23 rfl ?_
    refine j_zast_z G 1 rfl (by decide) (by decide) (by omega) (by omega) (by omega) (by decide) hR (by show (0 : Int) ≤ _ ∧ _ ≤ (1 : Int); omega) dX8_addFork_24 (fun z24 ez24 hRz24 => ?_)
    refine i_aload_n G dX8_addFork_25 rfl ?_
    refine i_dup G rfl dX8_addFork_26 ?_
    refine j_getz G F_X8_91 0 rfl rfl (by decide) dX8_addFork_27 ?_
    have b27 : 0 ≤ z24 0 0 ∧ z24 0 0 ≤ 16 := hRz24 0 _
    refine i_iconst G dX8_addFork_30 ?_
    refine i_iadd G dX8_addFork_31 ?_
    refine j_putz G P_X8_91 0 rfl rfl (by decide) (by decide) (by decide) hRz24 (by show (0 : Int) ≤ _ ∧ _ ≤ (16 : Int); have e8 : z24 0 0 = z 0 0 := (by rw [ez24, zp_nk _ (by decide)]); omega) dX8_addFork_32 (fun z32 ez32 hRz32 => ?_)
    have e9 : z32 0 0 = z 0 0 + 1 := by rw [ez32, zp_same, ez24, zp_nk _ (by decide)]
    refine i_aload_n G dX8_addFork_35 rfl ?_
    refine i_aload_n G dX8_addFork_36 rfl ?_
    refine j_getz G F_X8_91 0 rfl rfl (by decide) dX8_addFork_37 ?_
    have b37 : 0 ≤ z32 0 0 ∧ z32 0 0 ≤ 16 := hRz32 0 _
    refine i_iconst G dX8_addFork_40 ?_
    refine i_isub G dX8_addFork_41 ?_
    refine j_callYi (q0 := 0) (As := [vi (((z32 0 0) - 1))]) (st := []) G K_X8_114 (m_tells l hd hRz32 hY ((z32 0 0) - 1) ) rfl rfl rfl (rm_ok (by decide) (by decide)) ⟨Nat.le_refl _, Nat.le_refl _⟩ (Nat.le_of_ble_eq_true rfl) dX8_addFork_42 (fun r42 y42 q42 => ?_)
    obtain ⟨er42, ey42, hRy42⟩ := q42
    refine j_reti G hr dX8_addFork_45 ?_
    have e71 : y42 71 0 = kcAF z := by rw [ey42, zp_same]; unfold kcAF; (repeat' split) <;> omega
    refine ⟨e71, fun hk => ⟨?_, ?_⟩, fun hk => (by rw [ey42, zp_same] at e71; omega), hRz32, hRy42, fun k a b => by rw [ey42, zp_nk _ b]⟩
    · omega
    · rw [ez32, ez24]; rfl
  · skip
    refine i_aload_n G dX8_addFork_9 rfl ?_
    refine i_iconst G dX8_addFork_10 ?_
    refine j_callYi (q0 := 0) (As := [vi (1)]) (st := []) G K_X8_110 (m_fails l hd hR hY 1 (by first | assumption | omega)) rfl rfl rfl (rm_ok (by decide) (by decide)) ⟨Nat.le_refl _, Nat.le_refl _⟩ (Nat.le_of_ble_eq_true rfl) dX8_addFork_11 (fun r11 y11 q11 => ?_)
    obtain ⟨er11, ey11, hRy11⟩ := q11
    refine j_reti G hr dX8_addFork_14 ?_
    have e71 : y11 71 0 = kcAF z := by rw [ey11, zp_same]; unfold kcAF; (repeat' split) <;> omega
    refine ⟨e71, fun hk => ?_, fun _ => rfl, hR, hRy11, fun k a b => by rw [ey11, zp_nk _ b]⟩
    exfalso
    rw [ey11, zp_same] at e71
    omega
set_option maxHeartbeats 4000000 in
set_option maxRecDepth 100000 in
theorem m_addTrail (l : Launch) {D : va_G} {aC : Nat → ClassId} {ad : Nat → Nat} (hd : wDi ad shM) {z y : wZ} (hR : Rng z) (hY : Rng y) (a : Int) (b : Int) (t : Int) (g : Int) (ha : -2147483648 ≤ a ∧ a ≤ 2147483647) (hb : -2147483648 ≤ b ∧ b ≤ 2147483647) (ht : -2147483648 ≤ t ∧ t ≤ 2147483647) (hg : -2147483648 ≤ g ∧ g ≤ 2147483647) : cMi l D aC ad shM yX8_addTrail cX8_addTrail 5 (.int) (rmL 2) [.ref (ad 40), vi a, vi b, vi t, vi g] z y (fun r_ z2 y2 => y2 71 0 = kcAT z a b t g ∧ (kcAT z a b t g = 0 → r_ = z 1 0 ∧ z2 = jnF z a b t g) ∧ (kcAT z a b t g ≠ 0 → z2 = z) ∧ Rng z2 ∧ Rng y2 ∧ ∀ k', k' ≠ 70 → k' ≠ 71 → y2 k' = y k') := by
  refine c_i [some (.ref (ad 40)), some (vi (a)), some (vi (b)), some (vi (t)), some (vi (g))] (by decide +kernel) rfl (Nat.le_of_ble_eq_true rfl) rfl hd ?_
  intro p e s m args below meth c A G hr
  have q0 : 0 ≤ z 0 0 ∧ z 0 0 ≤ 16 := hR 0 0
  have q1 : 0 ≤ z 1 0 ∧ z 1 0 ≤ 24 := hR 1 0
  refine i_aload_n G dX8_addTrail_0 rfl ?_
  refine i_iload_n G dX8_addTrail_1 rfl ?_
  refine j_callE (q0 := 0) (As := [vi (a)]) (st := []) G K_X8_117 (m_isFork l hd hR hY a (by first | assumption | omega)) rfl rfl rfl (rm_ok (by decide) (by decide)) ⟨Nat.le_refl _, Nat.le_refl _⟩ (Nat.le_of_ble_eq_true rfl) dX8_addTrail_2 ?_
  obtain ⟨r2, er2⟩ : ∃ x_ : Int, x_ = (if 0 ≤ a ∧ a < z 0 0 then 1 else 0) := ⟨_, rfl⟩
  rw [← er2]
  have b2 : (r2 = 1 ∧ 0 ≤ a ∧ a < z 0 0) ∨ (r2 = 0 ∧ ¬ (0 ≤ a ∧ a < z 0 0)) := by rw [er2]; split <;> omega
  refine i_if_eq (tgt := 16) G dX8_addTrail_5 (by decide) (by omega) (fun h5 => ?_) (fun h5 => ?_)
  · skip
    refine i_aload_n G dX8_addTrail_16 rfl ?_
    refine i_iconst G dX8_addTrail_17 ?_
    refine j_callYi (q0 := 0) (As := [vi (1)]) (st := []) G K_X8_110 (m_fails l hd hR hY 1 (by first | assumption | omega)) rfl rfl rfl (rm_ok (by decide) (by decide)) ⟨Nat.le_refl _, Nat.le_refl _⟩ (Nat.le_of_ble_eq_true rfl) dX8_addTrail_18 (fun r18 y18 q18 => ?_)
    obtain ⟨er18, ey18, hRy18⟩ := q18
    refine j_reti G hr dX8_addTrail_21 ?_
    have e71 : y18 71 0 = kcAT z a b t g := by rw [ey18, zp_same]; unfold kcAT; (repeat' split) <;> omega
    refine ⟨e71, fun hk => ?_, fun _ => rfl, hR, hRy18, fun k a b => by rw [ey18, zp_nk _ b]⟩
    exfalso
    rw [ey18, zp_same] at e71
    omega
  · skip
    refine i_aload_n G dX8_addTrail_8 rfl ?_
    refine i_iload_n G dX8_addTrail_9 rfl ?_
    refine j_callE (q0 := 0) (As := [vi (b)]) (st := []) G K_X8_117 (m_isFork l hd hR hY b (by first | assumption | omega)) rfl rfl rfl (rm_ok (by decide) (by decide)) ⟨Nat.le_refl _, Nat.le_refl _⟩ (Nat.le_of_ble_eq_true rfl) dX8_addTrail_10 ?_
    obtain ⟨r10, er10⟩ : ∃ x_ : Int, x_ = (if 0 ≤ b ∧ b < z 0 0 then 1 else 0) := ⟨_, rfl⟩
    rw [← er10]
    have b10 : (r10 = 1 ∧ 0 ≤ b ∧ b < z 0 0) ∨ (r10 = 0 ∧ ¬ (0 ≤ b ∧ b < z 0 0)) := by rw [er10]; split <;> omega
    refine i_if_ne (tgt := 22) G dX8_addTrail_13 (by decide) (by omega) (fun h13 => ?_) (fun h13 => ?_)
    · skip
      refine i_iload_n G dX8_addTrail_22 rfl ?_
      refine i_iload_n G dX8_addTrail_23 rfl ?_
      refine i_icmp_eq (tgt := 52) G dX8_addTrail_24 (by decide) (by omega) (by omega) (fun h24 => ?_) (fun h24 => ?_)
      · skip
        refine i_aload_n G dX8_addTrail_52 rfl ?_
        refine i_iconst G dX8_addTrail_53 ?_
        refine j_callYi (q0 := 0) (As := [vi (2)]) (st := []) G K_X8_110 (m_fails l hd hR hY 2 (by first | assumption | omega)) rfl rfl rfl (rm_ok (by decide) (by decide)) ⟨Nat.le_refl _, Nat.le_refl _⟩ (Nat.le_of_ble_eq_true rfl) dX8_addTrail_54 (fun r54 y54 q54 => ?_)
        obtain ⟨er54, ey54, hRy54⟩ := q54
        refine j_reti G hr dX8_addTrail_57 ?_
        have e71 : y54 71 0 = kcAT z a b t g := by rw [ey54, zp_same]; unfold kcAT; (repeat' split) <;> omega
        refine ⟨e71, fun hk => ?_, fun _ => rfl, hR, hRy54, fun k a b => by rw [ey54, zp_nk _ b]⟩
        exfalso
        rw [ey54, zp_same] at e71
        omega
      · skip
        refine i_aload_n G dX8_addTrail_27 rfl ?_
        refine i_iload_n G dX8_addTrail_28 rfl ?_
        refine i_iconst G dX8_addTrail_29 ?_
        refine i_sipush G dX8_addTrail_30 (by decide) ?_
        refine j_callE (q0 := 0) (As := [vi (t), vi (1), vi (300)]) (st := []) G K_X8_94 (m_in l hd hR hY t 1 300 (by first | assumption | omega) (by first | assumption | omega) (by first | assumption | omega)) rfl rfl rfl (rm_ok (by decide) (by decide)) ⟨Nat.le_refl _, Nat.le_refl _⟩ (Nat.le_of_ble_eq_true rfl) dX8_addTrail_33 ?_
        obtain ⟨r33, er33⟩ : ∃ x_ : Int, x_ = (if 1 ≤ t ∧ t ≤ 300 then 1 else 0) := ⟨_, rfl⟩
        rw [← er33]
        have b33 : (r33 = 1 ∧ 1 ≤ t ∧ t ≤ 300) ∨ (r33 = 0 ∧ ¬ (1 ≤ t ∧ t ≤ 300)) := by rw [er33]; split <;> omega
        refine i_if_eq (tgt := 52) G dX8_addTrail_36 (by decide) (by omega) (fun h36 => ?_) (fun h36 => ?_)
        · skip
          refine i_aload_n G dX8_addTrail_52 rfl ?_
          refine i_iconst G dX8_addTrail_53 ?_
          refine j_callYi (q0 := 0) (As := [vi (2)]) (st := []) G K_X8_110 (m_fails l hd hR hY 2 (by first | assumption | omega)) rfl rfl rfl (rm_ok (by decide) (by decide)) ⟨Nat.le_refl _, Nat.le_refl _⟩ (Nat.le_of_ble_eq_true rfl) dX8_addTrail_54 (fun r54 y54 q54 => ?_)
          obtain ⟨er54, ey54, hRy54⟩ := q54
          refine j_reti G hr dX8_addTrail_57 ?_
          have e71 : y54 71 0 = kcAT z a b t g := by rw [ey54, zp_same]; unfold kcAT; (repeat' split) <;> omega
          refine ⟨e71, fun hk => ?_, fun _ => rfl, hR, hRy54, fun k a b => by rw [ey54, zp_nk _ b]⟩
          exfalso
          rw [ey54, zp_same] at e71
          omega
        · skip
          refine i_aload_n G dX8_addTrail_39 rfl ?_
          refine i_iload G dX8_addTrail_40 rfl ?_
          refine i_iconst G dX8_addTrail_42 ?_
          refine i_sipush G dX8_addTrail_43 (by decide) ?_
          refine j_callE (q0 := 0) (As := [vi (g), vi (1), vi (300)]) (st := []) G K_X8_94 (m_in l hd hR hY g 1 300 (by first | assumption | omega) (by first | assumption | omega) (by first | assumption | omega)) rfl rfl rfl (rm_ok (by decide) (by decide)) ⟨Nat.le_refl _, Nat.le_refl _⟩ (Nat.le_of_ble_eq_true rfl) dX8_addTrail_46 ?_
          obtain ⟨r46, er46⟩ : ∃ x_ : Int, x_ = (if 1 ≤ g ∧ g ≤ 300 then 1 else 0) := ⟨_, rfl⟩
          rw [← er46]
          have b46 : (r46 = 1 ∧ 1 ≤ g ∧ g ≤ 300) ∨ (r46 = 0 ∧ ¬ (1 ≤ g ∧ g ≤ 300)) := by rw [er46]; split <;> omega
          refine i_if_ne (tgt := 58) G dX8_addTrail_49 (by decide) (by omega) (fun h49 => ?_) (fun h49 => ?_)
          · skip
            refine i_aload_n G dX8_addTrail_58 rfl ?_
            refine j_getz G F_X8_98 0 rfl rfl (by decide) dX8_addTrail_59 ?_
            have b59 : 0 ≤ z 1 0 ∧ z 1 0 ≤ 24 := hR 1 _
            refine i_bipush G dX8_addTrail_62 (by decide) ?_
            refine i_icmp_ne (tgt := 73) G dX8_addTrail_64 (by decide) (by omega) (by omega) (fun h64 => ?_) (fun h64 => ?_)
            · skip
              refine i_aload_n G dX8_addTrail_73 rfl ?_
              refine i_getr G F_X8_17 0 rfl rfl dX8_addTrail_74 ?_
              refine i_aload_n G dX8_addTrail_77 rfl ?_
              refine j_getz G F_X8_98 0 rfl rfl (by decide) dX8_addTrail_78 ?_
              have b78 : 0 ≤ z 1 0 ∧ z 1 0 ≤ 24 := hR 1 _
              refine i_iload_n G dX8_addTrail_81 rfl ?_
              refine j_iast_z G 2 rfl (by decide) (by decide) (by omega) (by omega) (by decide) hR (by show (0 : Int) ≤ _ ∧ _ ≤ (15 : Int); omega) dX8_addTrail_82 (fun z82 ez82 hRz82 => ?_)
              have e82 : z82 1 0 = z 1 0 := by rw [ez82, zp_nk _ (by decide)]
              refine i_aload_n G dX8_addTrail_83 rfl ?_
              refine i_getr G F_X8_21 0 rfl rfl dX8_addTrail_84 ?_
              refine i_aload_n G dX8_addTrail_87 rfl ?_
              refine j_getz G F_X8_98 0 rfl rfl (by decide) dX8_addTrail_88 ?_
              have b88 : 0 ≤ z82 1 0 ∧ z82 1 0 ≤ 24 := hRz82 1 _
              refine i_iload_n G dX8_addTrail_91 rfl ?_
              refine j_iast_z G 3 rfl (by decide) (by decide) (by omega) (by omega) (by decide) hRz82 (by show (0 : Int) ≤ _ ∧ _ ≤ (15 : Int); omega) dX8_addTrail_92 (fun z92 ez92 hRz92 => ?_)
              have e92 : z92 1 0 = z 1 0 := by rw [ez92, zp_nk _ (by decide)]; exact e82
              refine i_aload_n G dX8_addTrail_93 rfl ?_
              refine i_getr G F_X8_24 0 rfl rfl dX8_addTrail_94 ?_
              refine i_aload_n G dX8_addTrail_97 rfl ?_
              refine j_getz G F_X8_98 0 rfl rfl (by decide) dX8_addTrail_98 ?_
              have b98 : 0 ≤ z92 1 0 ∧ z92 1 0 ≤ 24 := hRz92 1 _
              refine i_iload_n G dX8_addTrail_101 rfl ?_
              refine j_iast_z G 4 rfl (by decide) (by decide) (by omega) (by omega) (by decide) hRz92 (by show (0 : Int) ≤ _ ∧ _ ≤ (300 : Int); omega) dX8_addTrail_102 (fun z102 ez102 hRz102 => ?_)
              have e102 : z102 1 0 = z 1 0 := by rw [ez102, zp_nk _ (by decide)]; exact e92
              refine i_aload_n G dX8_addTrail_103 rfl ?_
              refine i_getr G F_X8_27 0 rfl rfl dX8_addTrail_104 ?_
              refine i_aload_n G dX8_addTrail_107 rfl ?_
              refine j_getz G F_X8_98 0 rfl rfl (by decide) dX8_addTrail_108 ?_
              have b108 : 0 ≤ z102 1 0 ∧ z102 1 0 ≤ 24 := hRz102 1 _
              refine i_iload G dX8_addTrail_111 rfl ?_
              refine j_iast_z G 5 rfl (by decide) (by decide) (by omega) (by omega) (by decide) hRz102 (by show (0 : Int) ≤ _ ∧ _ ≤ (300 : Int); omega) dX8_addTrail_113 (fun z113 ez113 hRz113 => ?_)
              have e113 : z113 1 0 = z 1 0 := by rw [ez113, zp_nk _ (by decide)]; exact e102
              refine i_aload_n G dX8_addTrail_114 rfl ?_
              refine i_dup G rfl dX8_addTrail_115 ?_
              refine j_getz G F_X8_98 0 rfl rfl (by decide) dX8_addTrail_116 ?_
              have b116 : 0 ≤ z113 1 0 ∧ z113 1 0 ≤ 24 := hRz113 1 _
              refine i_iconst G dX8_addTrail_119 ?_
              refine i_iadd G dX8_addTrail_120 ?_
              refine j_putz G P_X8_98 0 rfl rfl (by decide) (by decide) (by decide) hRz113 (by show (0 : Int) ≤ _ ∧ _ ≤ (24 : Int); omega) dX8_addTrail_121 (fun z121 ez121 hRz121 => ?_)
              have e121 : z121 1 0 = z 1 0 + 1 := by rw [ez121, zp_same, e113]
              refine i_aload_n G dX8_addTrail_124 rfl ?_
              refine i_aload_n G dX8_addTrail_125 rfl ?_
              refine j_getz G F_X8_98 0 rfl rfl (by decide) dX8_addTrail_126 ?_
              have b126 : 0 ≤ z121 1 0 ∧ z121 1 0 ≤ 24 := hRz121 1 _
              refine i_iconst G dX8_addTrail_129 ?_
              refine i_isub G dX8_addTrail_130 ?_
              refine j_callYi (q0 := 0) (As := [vi (((z121 1 0) - 1))]) (st := []) G K_X8_114 (m_tells l hd hRz121 hY ((z121 1 0) - 1) ) rfl rfl rfl (rm_ok (by decide) (by decide)) ⟨Nat.le_refl _, Nat.le_refl _⟩ (Nat.le_of_ble_eq_true rfl) dX8_addTrail_131 (fun r131 y131 q131 => ?_)
              obtain ⟨er131, ey131, hRy131⟩ := q131
              refine j_reti G hr dX8_addTrail_134 ?_
              have e71 : y131 71 0 = kcAT z a b t g := by rw [ey131, zp_same]; unfold kcAT; (repeat' split) <;> omega
              refine ⟨e71, fun hk => ⟨?_, ?_⟩, fun hk => (by rw [ey131, zp_same] at e71; omega), hRz121, hRy131, fun k a b => by rw [ey131, zp_nk _ b]⟩
              · omega
              · rw [ez121, e113, ez113, e102, ez102, e92, ez92, e82, ez82]
                unfold jnF
                rw [zp_comm _ (by decide : (14 : Nat) ≠ 1), zp_comm _ (by decide : (13 : Nat) ≠ 1), zp_comm _ (by decide : (12 : Nat) ≠ 1), zp_comm _ (by decide : (11 : Nat) ≠ 1)]
            · skip
              refine i_aload_n G dX8_addTrail_67 rfl ?_
              refine i_iconst G dX8_addTrail_68 ?_
              refine j_callYi (q0 := 0) (As := [vi (3)]) (st := []) G K_X8_110 (m_fails l hd hR hY 3 (by first | assumption | omega)) rfl rfl rfl (rm_ok (by decide) (by decide)) ⟨Nat.le_refl _, Nat.le_refl _⟩ (Nat.le_of_ble_eq_true rfl) dX8_addTrail_69 (fun r69 y69 q69 => ?_)
              obtain ⟨er69, ey69, hRy69⟩ := q69
              refine j_reti G hr dX8_addTrail_72 ?_
              have e71 : y69 71 0 = kcAT z a b t g := by rw [ey69, zp_same]; unfold kcAT; (repeat' split) <;> omega
              refine ⟨e71, fun hk => ?_, fun _ => rfl, hR, hRy69, fun k a b => by rw [ey69, zp_nk _ b]⟩
              exfalso
              rw [ey69, zp_same] at e71
              omega
          · skip
            refine i_aload_n G dX8_addTrail_52 rfl ?_
            refine i_iconst G dX8_addTrail_53 ?_
            refine j_callYi (q0 := 0) (As := [vi (2)]) (st := []) G K_X8_110 (m_fails l hd hR hY 2 (by first | assumption | omega)) rfl rfl rfl (rm_ok (by decide) (by decide)) ⟨Nat.le_refl _, Nat.le_refl _⟩ (Nat.le_of_ble_eq_true rfl) dX8_addTrail_54 (fun r54 y54 q54 => ?_)
            obtain ⟨er54, ey54, hRy54⟩ := q54
            refine j_reti G hr dX8_addTrail_57 ?_
            have e71 : y54 71 0 = kcAT z a b t g := by rw [ey54, zp_same]; unfold kcAT; (repeat' split) <;> omega
            refine ⟨e71, fun hk => ?_, fun _ => rfl, hR, hRy54, fun k a b => by rw [ey54, zp_nk _ b]⟩
            exfalso
            rw [ey54, zp_same] at e71
            omega
    · skip
      refine i_aload_n G dX8_addTrail_16 rfl ?_
      refine i_iconst G dX8_addTrail_17 ?_
      refine j_callYi (q0 := 0) (As := [vi (1)]) (st := []) G K_X8_110 (m_fails l hd hR hY 1 (by first | assumption | omega)) rfl rfl rfl (rm_ok (by decide) (by decide)) ⟨Nat.le_refl _, Nat.le_refl _⟩ (Nat.le_of_ble_eq_true rfl) dX8_addTrail_18 (fun r18 y18 q18 => ?_)
      obtain ⟨er18, ey18, hRy18⟩ := q18
      refine j_reti G hr dX8_addTrail_21 ?_
      have e71 : y18 71 0 = kcAT z a b t g := by rw [ey18, zp_same]; unfold kcAT; (repeat' split) <;> omega
      refine ⟨e71, fun hk => ?_, fun _ => rfl, hR, hRy18, fun k a b => by rw [ey18, zp_nk _ b]⟩
      exfalso
      rw [ey18, zp_same] at e71
      omega
set_option maxHeartbeats 4000000 in
set_option maxRecDepth 100000 in
theorem m_washOut (l : Launch) {D : va_G} {aC : Nat → ClassId} {ad : Nat → Nat} (hd : wDi ad shM) {z y : wZ} (hR : Rng z) (hY : Rng y) (t : Int) (ht : -2147483648 ≤ t ∧ t ≤ 2147483647) : cMi l D aC ad shM yX8_washOut cX8_washOut 3 (.boolean) (rmL 2) [.ref (ad 40), vi t] z y (fun r_ z2 y2 => y2 71 0 = kcT z t ∧ (kcT z t = 0 → r_ = 1 - z 15 t ∧ z2 = zp z 15 t 1) ∧ (kcT z t ≠ 0 → z2 = z) ∧ Rng z2 ∧ Rng y2 ∧ ∀ k', k' ≠ 70 → k' ≠ 71 → y2 k' = y k') := by
  refine c_i [some (.ref (ad 40)), some (vi (t)), none] (by decide +kernel) rfl (Nat.le_of_ble_eq_true rfl) rfl hd ?_
  intro p e s m args below meth c A G hr
  have q1 : 0 ≤ z 1 0 ∧ z 1 0 ≤ 24 := hR 1 0
  refine i_aload_n G dX8_washOut_0 rfl ?_
  refine i_aload_n G dX8_washOut_1 rfl ?_
  refine i_iload_n G dX8_washOut_2 rfl ?_
  refine j_callE (q0 := 0) (As := [vi (t)]) (st := [.ref (ad 40)]) G K_X8_121 (m_isTrail l hd hR hY t (by first | assumption | omega)) rfl rfl rfl (rm_ok (by decide) (by decide)) ⟨Nat.le_refl _, Nat.le_refl _⟩ (Nat.le_of_ble_eq_true rfl) dX8_washOut_3 ?_
  obtain ⟨r3, er3⟩ : ∃ x_ : Int, x_ = (if 0 ≤ t ∧ t < z 1 0 then 1 else 0) := ⟨_, rfl⟩
  rw [← er3]
  have b3 : (r3 = 1 ∧ 0 ≤ t ∧ t < z 1 0) ∨ (r3 = 0 ∧ ¬ (0 ≤ t ∧ t < z 1 0)) := by rw [er3]; split <;> omega
  refine i_if_eq (tgt := 13) G dX8_washOut_6 (by decide) (by omega) (fun h6 => ?_) (fun h6 => ?_)
  · skip
    refine i_iconst G dX8_washOut_13 ?_
    refine j_puty G P_X8_88 0 rfl rfl (by decide) (by decide) (by decide) hY (by show (0 : Int) ≤ _ ∧ _ ≤ (5 : Int); omega) dX8_washOut_14 (fun y14 ey14 hRy14 => ?_)
    have et := congrFun (congrFun ey14 71) 0
    rw [zp_same] at et
    refine i_aload_n G dX8_washOut_17 rfl ?_
    refine j_gety G F_X8_88 0 rfl rfl (by decide) dX8_washOut_18 ?_
    have b18 : 0 ≤ y14 71 0 ∧ y14 71 0 ≤ 5 := hRy14 71 _
    refine i_if_le (tgt := 26) G dX8_washOut_21 (by decide) (by omega) (fun h21 => ?_) (fun h21 => ?_)
    · skip
      refine i_aload_n G dX8_washOut_26 rfl ?_
      refine i_getr G F_X8_30 0 rfl rfl dX8_washOut_27 ?_
      refine i_iload_n G dX8_washOut_30 rfl ?_
      refine j_zald_z G 6 rfl (by decide) (by decide) (by omega) (by omega) dX8_washOut_31 ?_
      have b31 : 0 ≤ z 15 t ∧ z 15 t ≤ 1 := hR 15 _
      refine i_if_ne (tgt := 39) G dX8_washOut_32 (by decide) (by omega) (fun h32 => ?_) (fun h32 => ?_)
      · skip
        refine i_iconst G dX8_washOut_39 ?_
        refine i_istore_n (L' := [some (.ref (ad 40)), some (vi (t)), some (vi (0))]) G dX8_washOut_40 (by decide) rfl ?_
        refine i_aload_n G dX8_washOut_41 rfl ?_
        refine i_getr G F_X8_30 0 rfl rfl dX8_washOut_42 ?_
        refine i_iload_n G dX8_washOut_45 rfl ?_
        refine i_iconst G dX8_washOut_46 ?_
        refine j_zast_z G 6 rfl (by decide) (by decide) (by omega) (by omega) (by omega) (by decide) hR (by show (0 : Int) ≤ _ ∧ _ ≤ (1 : Int); omega) dX8_washOut_47 (fun z47 ez47 hRz47 => ?_)
        refine i_iload_n G dX8_washOut_48 rfl ?_
        refine j_retz G hr (by omega) dX8_washOut_49 ?_
        have e71 : y14 71 0 = kcT z t := by rw [ey14, zp_same]; unfold kcT; (repeat' split) <;> omega
        refine ⟨e71, fun hk => ⟨?_, ?_⟩, fun hk => (by rw [ey14, zp_same] at e71; omega), hRz47, hRy14, fun k a b => by rw [ey14, zp_nk _ b]⟩
        · rw [ey14, zp_same] at e71; omega
        · exact ez47
      · skip
        refine i_iconst G dX8_washOut_35 ?_
        refine i_goto (tgt := 40) G dX8_washOut_36 (by decide) ?_
        refine i_istore_n (L' := [some (.ref (ad 40)), some (vi (t)), some (vi (1))]) G dX8_washOut_40 (by decide) rfl ?_
        refine i_aload_n G dX8_washOut_41 rfl ?_
        refine i_getr G F_X8_30 0 rfl rfl dX8_washOut_42 ?_
        refine i_iload_n G dX8_washOut_45 rfl ?_
        refine i_iconst G dX8_washOut_46 ?_
        refine j_zast_z G 6 rfl (by decide) (by decide) (by omega) (by omega) (by omega) (by decide) hR (by show (0 : Int) ≤ _ ∧ _ ≤ (1 : Int); omega) dX8_washOut_47 (fun z47 ez47 hRz47 => ?_)
        refine i_iload_n G dX8_washOut_48 rfl ?_
        refine j_retz G hr (by omega) dX8_washOut_49 ?_
        have e71 : y14 71 0 = kcT z t := by rw [ey14, zp_same]; unfold kcT; (repeat' split) <;> omega
        refine ⟨e71, fun hk => ⟨?_, ?_⟩, fun hk => (by rw [ey14, zp_same] at e71; omega), hRz47, hRy14, fun k a b => by rw [ey14, zp_nk _ b]⟩
        · rw [ey14, zp_same] at e71; omega
        · exact ez47
    · skip
      refine i_iconst G dX8_washOut_24 ?_
      refine j_retz G hr (by omega) dX8_washOut_25 ?_
      have e71 : y14 71 0 = kcT z t := by rw [ey14, zp_same]; unfold kcT; (repeat' split) <;> omega
      refine ⟨e71, fun hk => ?_, fun _ => rfl, hR, hRy14, fun k a b => by rw [ey14, zp_nk _ b]⟩
      exfalso
      rw [ey14, zp_same] at e71
      omega
  · skip
    refine i_iconst G dX8_washOut_9 ?_
    refine i_goto (tgt := 14) G dX8_washOut_10 (by decide) ?_
    refine j_puty G P_X8_88 0 rfl rfl (by decide) (by decide) (by decide) hY (by show (0 : Int) ≤ _ ∧ _ ≤ (5 : Int); omega) dX8_washOut_14 (fun y14 ey14 hRy14 => ?_)
    have et := congrFun (congrFun ey14 71) 0
    rw [zp_same] at et
    refine i_aload_n G dX8_washOut_17 rfl ?_
    refine j_gety G F_X8_88 0 rfl rfl (by decide) dX8_washOut_18 ?_
    have b18 : 0 ≤ y14 71 0 ∧ y14 71 0 ≤ 5 := hRy14 71 _
    refine i_if_le (tgt := 26) G dX8_washOut_21 (by decide) (by omega) (fun h21 => ?_) (fun h21 => ?_)
    · skip
      refine i_aload_n G dX8_washOut_26 rfl ?_
      refine i_getr G F_X8_30 0 rfl rfl dX8_washOut_27 ?_
      refine i_iload_n G dX8_washOut_30 rfl ?_
      refine j_zald_z G 6 rfl (by decide) (by decide) (by omega) (by omega) dX8_washOut_31 ?_
      have b31 : 0 ≤ z 15 t ∧ z 15 t ≤ 1 := hR 15 _
      refine i_if_ne (tgt := 39) G dX8_washOut_32 (by decide) (by omega) (fun h32 => ?_) (fun h32 => ?_)
      · skip
        refine i_iconst G dX8_washOut_39 ?_
        refine i_istore_n (L' := [some (.ref (ad 40)), some (vi (t)), some (vi (0))]) G dX8_washOut_40 (by decide) rfl ?_
        refine i_aload_n G dX8_washOut_41 rfl ?_
        refine i_getr G F_X8_30 0 rfl rfl dX8_washOut_42 ?_
        refine i_iload_n G dX8_washOut_45 rfl ?_
        refine i_iconst G dX8_washOut_46 ?_
        refine j_zast_z G 6 rfl (by decide) (by decide) (by omega) (by omega) (by omega) (by decide) hR (by show (0 : Int) ≤ _ ∧ _ ≤ (1 : Int); omega) dX8_washOut_47 (fun z47 ez47 hRz47 => ?_)
        refine i_iload_n G dX8_washOut_48 rfl ?_
        refine j_retz G hr (by omega) dX8_washOut_49 ?_
        have e71 : y14 71 0 = kcT z t := by rw [ey14, zp_same]; unfold kcT; (repeat' split) <;> omega
        refine ⟨e71, fun hk => ⟨?_, ?_⟩, fun hk => (by rw [ey14, zp_same] at e71; omega), hRz47, hRy14, fun k a b => by rw [ey14, zp_nk _ b]⟩
        · rw [ey14, zp_same] at e71; omega
        · exact ez47
      · skip
        refine i_iconst G dX8_washOut_35 ?_
        refine i_goto (tgt := 40) G dX8_washOut_36 (by decide) ?_
        refine i_istore_n (L' := [some (.ref (ad 40)), some (vi (t)), some (vi (1))]) G dX8_washOut_40 (by decide) rfl ?_
        refine i_aload_n G dX8_washOut_41 rfl ?_
        refine i_getr G F_X8_30 0 rfl rfl dX8_washOut_42 ?_
        refine i_iload_n G dX8_washOut_45 rfl ?_
        refine i_iconst G dX8_washOut_46 ?_
        refine j_zast_z G 6 rfl (by decide) (by decide) (by omega) (by omega) (by omega) (by decide) hR (by show (0 : Int) ≤ _ ∧ _ ≤ (1 : Int); omega) dX8_washOut_47 (fun z47 ez47 hRz47 => ?_)
        refine i_iload_n G dX8_washOut_48 rfl ?_
        refine j_retz G hr (by omega) dX8_washOut_49 ?_
        have e71 : y14 71 0 = kcT z t := by rw [ey14, zp_same]; unfold kcT; (repeat' split) <;> omega
        refine ⟨e71, fun hk => ⟨?_, ?_⟩, fun hk => (by rw [ey14, zp_same] at e71; omega), hRz47, hRy14, fun k a b => by rw [ey14, zp_nk _ b]⟩
        · rw [ey14, zp_same] at e71; omega
        · exact ez47
    · skip
      refine i_iconst G dX8_washOut_24 ?_
      refine j_retz G hr (by omega) dX8_washOut_25 ?_
      have e71 : y14 71 0 = kcT z t := by rw [ey14, zp_same]; unfold kcT; (repeat' split) <;> omega
      refine ⟨e71, fun hk => ?_, fun _ => rfl, hR, hRy14, fun k a b => by rw [ey14, zp_nk _ b]⟩
      exfalso
      rw [ey14, zp_same] at e71
      omega
set_option maxHeartbeats 4000000 in
set_option maxRecDepth 100000 in
theorem m_addWood (l : Launch) {D : va_G} {aC : Nat → ClassId} {ad : Nat → Nat} (hd : wDi ad shM) {z y : wZ} (hR : Rng z) (hY : Rng y) (v : Int) (hv : -2147483648 ≤ v ∧ v ≤ 2147483647) (hwd : z 6 0 ≤ 59900) : cMi l D aC ad shM yX8_addWood cX8_addWood 2 (.int) (rmL 2) [.ref (ad 40), vi v] z y (fun r_ z2 y2 => y2 71 0 = kcAW v ∧ (kcAW v = 0 → r_ = z 6 0 + v ∧ z2 = zp z 6 0 (z 6 0 + v)) ∧ (kcAW v ≠ 0 → z2 = z) ∧ Rng z2 ∧ Rng y2 ∧ ∀ k', k' ≠ 70 → k' ≠ 71 → y2 k' = y k') := by
  refine c_i [some (.ref (ad 40)), some (vi (v))] (by decide +kernel) rfl (Nat.le_of_ble_eq_true rfl) rfl hd ?_
  intro p e s m args below meth c A G hr
  have q6 : 0 ≤ z 6 0 ∧ z 6 0 ≤ 60000 := hR 6 0
  refine i_aload_n G dX8_addWood_0 rfl ?_
  refine i_iload_n G dX8_addWood_1 rfl ?_
  refine i_iconst G dX8_addWood_2 ?_
  refine i_bipush G dX8_addWood_3 (by decide) ?_
  refine j_callE (q0 := 0) (As := [vi (v), vi (1), vi (99)]) (st := []) G K_X8_94 (m_in l hd hR hY v 1 99 (by first | assumption | omega) (by first | assumption | omega) (by first | assumption | omega)) rfl rfl rfl (rm_ok (by decide) (by decide)) ⟨Nat.le_refl _, Nat.le_refl _⟩ (Nat.le_of_ble_eq_true rfl) dX8_addWood_5 ?_
  obtain ⟨r5, er5⟩ : ∃ x_ : Int, x_ = (if 1 ≤ v ∧ v ≤ 99 then 1 else 0) := ⟨_, rfl⟩
  rw [← er5]
  have b5 : (r5 = 1 ∧ 1 ≤ v ∧ v ≤ 99) ∨ (r5 = 0 ∧ ¬ (1 ≤ v ∧ v ≤ 99)) := by rw [er5]; split <;> omega
  refine i_if_ne (tgt := 17) G dX8_addWood_8 (by decide) (by omega) (fun h8 => ?_) (fun h8 => ?_)
  · skip
    refine i_aload_n G dX8_addWood_17 rfl ?_
    refine i_dup G rfl dX8_addWood_18 ?_
    refine j_getz G F_X8_7 0 rfl rfl (by decide) dX8_addWood_19 ?_
    have b19 : 0 ≤ z 6 0 ∧ z 6 0 ≤ 60000 := hR 6 _
    refine i_iload_n G dX8_addWood_22 rfl ?_
    refine i_iadd G dX8_addWood_23 ?_
    refine j_putz G P_X8_7 0 rfl rfl (by decide) (by decide) (by decide) hR (by show (0 : Int) ≤ _ ∧ _ ≤ (60000 : Int); omega) dX8_addWood_24 (fun z24 ez24 hRz24 => ?_)
    refine i_aload_n G dX8_addWood_27 rfl ?_
    refine i_aload_n G dX8_addWood_28 rfl ?_
    refine j_getz G F_X8_7 0 rfl rfl (by decide) dX8_addWood_29 ?_
    have b29 : 0 ≤ z24 6 0 ∧ z24 6 0 ≤ 60000 := hRz24 6 _
    refine j_callYi (q0 := 0) (As := [vi ((z24 6 0))]) (st := []) G K_X8_114 (m_tells l hd hRz24 hY (z24 6 0) ) rfl rfl rfl (rm_ok (by decide) (by decide)) ⟨Nat.le_refl _, Nat.le_refl _⟩ (Nat.le_of_ble_eq_true rfl) dX8_addWood_32 (fun r32 y32 q32 => ?_)
    obtain ⟨er32, ey32, hRy32⟩ := q32
    refine j_reti G hr dX8_addWood_35 ?_
    have e71 : y32 71 0 = kcAW v := by rw [ey32, zp_same]; unfold kcAW; (repeat' split) <;> omega
    refine ⟨e71, fun hk => ⟨?_, ?_⟩, fun hk => (by rw [ey32, zp_same] at e71; omega), hRz24, hRy32, fun k a b => by rw [ey32, zp_nk _ b]⟩
    · rw [er32, ez24, zp_same]
    · exact ez24
  · skip
    refine i_aload_n G dX8_addWood_11 rfl ?_
    refine i_iconst G dX8_addWood_12 ?_
    refine j_callYi (q0 := 0) (As := [vi (1)]) (st := []) G K_X8_110 (m_fails l hd hR hY 1 (by first | assumption | omega)) rfl rfl rfl (rm_ok (by decide) (by decide)) ⟨Nat.le_refl _, Nat.le_refl _⟩ (Nat.le_of_ble_eq_true rfl) dX8_addWood_13 (fun r13 y13 q13 => ?_)
    obtain ⟨er13, ey13, hRy13⟩ := q13
    refine j_reti G hr dX8_addWood_16 ?_
    have e71 : y13 71 0 = kcAW v := by rw [ey13, zp_same]; unfold kcAW; (repeat' split) <;> omega
    refine ⟨e71, fun hk => ?_, fun _ => rfl, hR, hRy13, fun k a b => by rw [ey13, zp_nk _ b]⟩
    exfalso
    rw [ey13, zp_same] at e71
    omega
set_option maxHeartbeats 4000000 in
set_option maxRecDepth 100000 in
theorem m_cut (l : Launch) {D : va_G} {aC : Nat → ClassId} {ad : Nat → Nat} (hd : wDi ad shM) {z y : wZ} (hR : Rng z) (hY : Rng y) (f : Int) (q : Int) (hf : -2147483648 ≤ f ∧ f ≤ 2147483647) (hq : -2147483648 ≤ q ∧ q ≤ 2147483647) (hF : WF z) : cMi l D aC ad shM yX8_cut cX8_cut 3 (.int) (rmL 4) [.ref (ad 40), vi f, vi q] z y (fun r_ z2 y2 => y2 71 0 = kcCu z f q ∧ (kcCu z f q = 0 → r_ = z 2 0 ∧ z2 = cuF z f q) ∧ (kcCu z f q ≠ 0 → z2 = z) ∧ Rng z2 ∧ Rng y2 ∧ ∀ k', k' ≠ 70 → k' ≠ 71 → y2 k' = y k') := by
  refine c_i [some (.ref (ad 40)), some (vi (f)), some (vi (q))] (by decide +kernel) rfl (Nat.le_of_ble_eq_true rfl) rfl hd ?_
  intro p e s m args below meth c A G hr
  have q0 : 0 ≤ z 0 0 ∧ z 0 0 ≤ 16 := hR 0 0
  have q2 : 0 ≤ z 2 0 ∧ z 2 0 ≤ 30 := hR 2 0
  have q6 : 0 ≤ z 6 0 ∧ z 6 0 ≤ 60000 := hR 6 0
  have hW := hF.1
  refine i_aload_n G dX8_cut_0 rfl ?_
  refine i_iload_n G dX8_cut_1 rfl ?_
  refine j_callE (q0 := 0) (As := [vi (f)]) (st := []) G K_X8_117 (m_isFork l hd hR hY f (by first | assumption | omega)) rfl rfl rfl (rm_ok (by decide) (by decide)) ⟨Nat.le_refl _, Nat.le_refl _⟩ (Nat.le_of_ble_eq_true rfl) dX8_cut_2 ?_
  obtain ⟨r2, er2⟩ : ∃ x_ : Int, x_ = (if 0 ≤ f ∧ f < z 0 0 then 1 else 0) := ⟨_, rfl⟩
  rw [← er2]
  have b2 : (r2 = 1 ∧ 0 ≤ f ∧ f < z 0 0) ∨ (r2 = 0 ∧ ¬ (0 ≤ f ∧ f < z 0 0)) := by rw [er2]; split <;> omega
  refine i_if_eq (tgt := 16) G dX8_cut_5 (by decide) (by omega) (fun h5 => ?_) (fun h5 => ?_)
  · skip
    refine i_aload_n G dX8_cut_16 rfl ?_
    refine i_iconst G dX8_cut_17 ?_
    refine j_callYi (q0 := 0) (As := [vi (1)]) (st := []) G K_X8_110 (m_fails l hd hR hY 1 (by first | assumption | omega)) rfl rfl rfl (rm_ok (by decide) (by decide)) ⟨Nat.le_refl _, Nat.le_refl _⟩ (Nat.le_of_ble_eq_true rfl) dX8_cut_18 (fun r18 y18 q18 => ?_)
    obtain ⟨er18, ey18, hRy18⟩ := q18
    refine j_reti G hr dX8_cut_21 ?_
    have e71 : y18 71 0 = kcCu z f q := by rw [ey18, zp_same]; unfold kcCu; (repeat' split) <;> omega
    refine ⟨e71, fun hk => ?_, fun _ => rfl, hR, hRy18, fun k a b => by rw [ey18, zp_nk _ b] <;> first | rfl | exact ho45 k a | exact ho92 k a | exact (ho92 k a).trans (ho45 k a)⟩
    exfalso
    rw [ey18, zp_same] at e71
    omega
  · skip
    refine i_aload_n G dX8_cut_8 rfl ?_
    refine i_iload_n G dX8_cut_9 rfl ?_
    refine j_callE (q0 := 0) (As := [vi (q)]) (st := []) G K_X8_117 (m_isFork l hd hR hY q (by first | assumption | omega)) rfl rfl rfl (rm_ok (by decide) (by decide)) ⟨Nat.le_refl _, Nat.le_refl _⟩ (Nat.le_of_ble_eq_true rfl) dX8_cut_10 ?_
    obtain ⟨r10, er10⟩ : ∃ x_ : Int, x_ = (if 0 ≤ q ∧ q < z 0 0 then 1 else 0) := ⟨_, rfl⟩
    rw [← er10]
    have b10 : (r10 = 1 ∧ 0 ≤ q ∧ q < z 0 0) ∨ (r10 = 0 ∧ ¬ (0 ≤ q ∧ q < z 0 0)) := by rw [er10]; split <;> omega
    refine i_if_ne (tgt := 22) G dX8_cut_13 (by decide) (by omega) (fun h13 => ?_) (fun h13 => ?_)
    · skip
      refine i_aload_n G dX8_cut_22 rfl ?_
      refine i_getr G F_X8_13 0 rfl rfl dX8_cut_23 ?_
      refine i_iload_n G dX8_cut_26 rfl ?_
      refine j_zald_z G 1 rfl (by decide) (by decide) (by omega) (by omega) dX8_cut_27 ?_
      have b27 : 0 ≤ z 10 q ∧ z 10 q ≤ 1 := hR 10 _
      refine i_if_eq (tgt := 36) G dX8_cut_28 (by decide) (by omega) (fun h28 => ?_) (fun h28 => ?_)
      · skip
        refine i_aload_n G dX8_cut_36 rfl ?_
        refine i_iconst G dX8_cut_37 ?_
        refine j_callYi (q0 := 0) (As := [vi (2)]) (st := []) G K_X8_110 (m_fails l hd hR hY 2 (by first | assumption | omega)) rfl rfl rfl (rm_ok (by decide) (by decide)) ⟨Nat.le_refl _, Nat.le_refl _⟩ (Nat.le_of_ble_eq_true rfl) dX8_cut_38 (fun r38 y38 q38 => ?_)
        obtain ⟨er38, ey38, hRy38⟩ := q38
        refine j_reti G hr dX8_cut_41 ?_
        have e71 : y38 71 0 = kcCu z f q := by rw [ey38, zp_same]; unfold kcCu; (repeat' split) <;> omega
        refine ⟨e71, fun hk => ?_, fun _ => rfl, hR, hRy38, fun k a b => by rw [ey38, zp_nk _ b] <;> first | rfl | exact ho45 k a | exact ho92 k a | exact (ho92 k a).trans (ho45 k a)⟩
        exfalso
        rw [ey38, zp_same] at e71
        omega
      · skip
        refine i_iload_n G dX8_cut_31 rfl ?_
        refine i_iload_n G dX8_cut_32 rfl ?_
        refine i_icmp_ne (tgt := 42) G dX8_cut_33 (by decide) (by omega) (by omega) (fun h33 => ?_) (fun h33 => ?_)
        · skip
          refine i_aload_n G dX8_cut_42 rfl ?_
          refine i_iload_n G dX8_cut_43 rfl ?_
          refine i_iload_n G dX8_cut_44 rfl ?_
          refine j_callYi (q0 := 0) (As := [vi (f), vi (q)]) (st := []) G K_X8_150 (m_canBeCut l hd hR hY f q (by first | assumption | omega) (by first | assumption | omega) (by first | assumption | omega)) rfl rfl rfl (rm_ok (by decide) (by decide)) ⟨Nat.le_refl _, Nat.le_refl _⟩ (Nat.le_of_ble_eq_true rfl) dX8_cut_45 (fun r45 y45 q45 => ?_)
          obtain ⟨br45, hRy45, ho45⟩ := q45
          refine i_if_ne (tgt := 57) G dX8_cut_48 (by decide) (by omega) (fun h48 => ?_) (fun h48 => ?_)
          · skip
            refine i_aload_n G dX8_cut_57 rfl ?_
            refine j_getz G F_X8_7 0 rfl rfl (by decide) dX8_cut_58 ?_
            have b58 : 0 ≤ z 6 0 ∧ z 6 0 ≤ 60000 := hR 6 _
            refine i_if_ne (tgt := 70) G dX8_cut_61 (by decide) (by omega) (fun h61 => ?_) (fun h61 => ?_)
            · skip
              refine i_aload_n G dX8_cut_70 rfl ?_
              refine j_getz G F_X8_101 0 rfl rfl (by decide) dX8_cut_71 ?_
              have b71 : 0 ≤ z 2 0 ∧ z 2 0 ≤ 30 := hR 2 _
              refine i_bipush G dX8_cut_74 (by decide) ?_
              refine i_icmp_ne (tgt := 85) G dX8_cut_76 (by decide) (by omega) (by omega) (fun h76 => ?_) (fun h76 => ?_)
              · skip
                refine i_aload_n G dX8_cut_85 rfl ?_
                refine i_aload_n G dX8_cut_86 rfl ?_
                refine j_getz G F_X8_101 0 rfl rfl (by decide) dX8_cut_87 ?_
                have b87 : 0 ≤ z 2 0 ∧ z 2 0 ≤ 30 := hR 2 _
                refine i_iload_n G dX8_cut_90 rfl ?_
                refine i_iload_n G dX8_cut_91 rfl ?_
                refine j_callv (q0 := 0) (As := [vi ((z 2 0)), vi (f), vi (q)]) (st := []) G K_X8_154 (m_cuts l hd hR hRy45 (z 2 0) f q (by first | assumption | omega) (by first | assumption | omega) (by first | assumption | omega) (by first | assumption | omega) (by first | assumption | omega) (by first | assumption | omega) (by first | assumption | omega)) rfl rfl rfl (rm_ok (by decide) (by decide)) ⟨Nat.le_refl _, Nat.le_refl _⟩ (Nat.le_of_ble_eq_true rfl) dX8_cut_92 (fun z92 y92 q92 => ?_)
                obtain ⟨ez92, hRz92, hRy92, ho92⟩ := q92
                have e92 : z92 2 0 = z 2 0 := by rw [ez92, mcF_k _ _ _ _ (by decide)]
                refine i_aload_n G dX8_cut_95 rfl ?_
                refine i_dup G rfl dX8_cut_96 ?_
                refine j_getz G F_X8_101 0 rfl rfl (by decide) dX8_cut_97 ?_
                have b97 : 0 ≤ z92 2 0 ∧ z92 2 0 ≤ 30 := hRz92 2 _
                refine i_iconst G dX8_cut_100 ?_
                refine i_iadd G dX8_cut_101 ?_
                refine j_putz G P_X8_101 0 rfl rfl (by decide) (by decide) (by decide) hRz92 (by show (0 : Int) ≤ _ ∧ _ ≤ (30 : Int); omega) dX8_cut_102 (fun z102 ez102 hRz102 => ?_)
                have e102 : z102 2 0 = z 2 0 + 1 := by rw [ez102, zp_same, e92]
                refine i_aload_n G dX8_cut_105 rfl ?_
                refine i_aload_n G dX8_cut_106 rfl ?_
                refine j_getz G F_X8_101 0 rfl rfl (by decide) dX8_cut_107 ?_
                have b107 : 0 ≤ z102 2 0 ∧ z102 2 0 ≤ 30 := hRz102 2 _
                refine i_iconst G dX8_cut_110 ?_
                refine i_isub G dX8_cut_111 ?_
                refine j_callYi (q0 := 0) (As := [vi (((z102 2 0) - 1))]) (st := []) G K_X8_114 (m_tells l hd hRz102 hRy92 ((z102 2 0) - 1) ) rfl rfl rfl (rm_ok (by decide) (by decide)) ⟨Nat.le_refl _, Nat.le_refl _⟩ (Nat.le_of_ble_eq_true rfl) dX8_cut_112 (fun r112 y112 q112 => ?_)
                obtain ⟨er112, ey112, hRy112⟩ := q112
                refine j_reti G hr dX8_cut_115 ?_
                have e71 : y112 71 0 = kcCu z f q := by rw [ey112, zp_same]; unfold kcCu; (repeat' split) <;> omega
                refine ⟨e71, fun hk => ⟨?_, ?_⟩, fun hk => (by rw [ey112, zp_same] at e71; omega), hRz102, hRy112, fun k a b => by rw [ey112, zp_nk _ b] <;> first | rfl | exact ho45 k a | exact ho92 k a | exact (ho92 k a).trans (ho45 k a)⟩
                · omega
                · rw [ez102, e92, ez92]; exact mcF_cu z f q
              · skip
                refine i_aload_n G dX8_cut_79 rfl ?_
                refine i_iconst G dX8_cut_80 ?_
                refine j_callYi (q0 := 0) (As := [vi (5)]) (st := []) G K_X8_110 (m_fails l hd hR hRy45 5 (by first | assumption | omega)) rfl rfl rfl (rm_ok (by decide) (by decide)) ⟨Nat.le_refl _, Nat.le_refl _⟩ (Nat.le_of_ble_eq_true rfl) dX8_cut_81 (fun r81 y81 q81 => ?_)
                obtain ⟨er81, ey81, hRy81⟩ := q81
                refine j_reti G hr dX8_cut_84 ?_
                have e71 : y81 71 0 = kcCu z f q := by rw [ey81, zp_same]; unfold kcCu; (repeat' split) <;> omega
                refine ⟨e71, fun hk => ?_, fun _ => rfl, hR, hRy81, fun k a b => by rw [ey81, zp_nk _ b] <;> first | rfl | exact ho45 k a | exact ho92 k a | exact (ho92 k a).trans (ho45 k a)⟩
                exfalso
                rw [ey81, zp_same] at e71
                omega
            · skip
              refine i_aload_n G dX8_cut_64 rfl ?_
              refine i_iconst G dX8_cut_65 ?_
              refine j_callYi (q0 := 0) (As := [vi (4)]) (st := []) G K_X8_110 (m_fails l hd hR hRy45 4 (by first | assumption | omega)) rfl rfl rfl (rm_ok (by decide) (by decide)) ⟨Nat.le_refl _, Nat.le_refl _⟩ (Nat.le_of_ble_eq_true rfl) dX8_cut_66 (fun r66 y66 q66 => ?_)
              obtain ⟨er66, ey66, hRy66⟩ := q66
              refine j_reti G hr dX8_cut_69 ?_
              have e71 : y66 71 0 = kcCu z f q := by rw [ey66, zp_same]; unfold kcCu; (repeat' split) <;> omega
              refine ⟨e71, fun hk => ?_, fun _ => rfl, hR, hRy66, fun k a b => by rw [ey66, zp_nk _ b] <;> first | rfl | exact ho45 k a | exact ho92 k a | exact (ho92 k a).trans (ho45 k a)⟩
              exfalso
              rw [ey66, zp_same] at e71
              omega
          · skip
            refine i_aload_n G dX8_cut_51 rfl ?_
            refine i_iconst G dX8_cut_52 ?_
            refine j_callYi (q0 := 0) (As := [vi (3)]) (st := []) G K_X8_110 (m_fails l hd hR hRy45 3 (by first | assumption | omega)) rfl rfl rfl (rm_ok (by decide) (by decide)) ⟨Nat.le_refl _, Nat.le_refl _⟩ (Nat.le_of_ble_eq_true rfl) dX8_cut_53 (fun r53 y53 q53 => ?_)
            obtain ⟨er53, ey53, hRy53⟩ := q53
            refine j_reti G hr dX8_cut_56 ?_
            have e71 : y53 71 0 = kcCu z f q := by rw [ey53, zp_same]; unfold kcCu; (repeat' split) <;> omega
            refine ⟨e71, fun hk => ?_, fun _ => rfl, hR, hRy53, fun k a b => by rw [ey53, zp_nk _ b] <;> first | rfl | exact ho45 k a | exact ho92 k a | exact (ho92 k a).trans (ho45 k a)⟩
            exfalso
            rw [ey53, zp_same] at e71
            omega
        · skip
          refine i_aload_n G dX8_cut_36 rfl ?_
          refine i_iconst G dX8_cut_37 ?_
          refine j_callYi (q0 := 0) (As := [vi (2)]) (st := []) G K_X8_110 (m_fails l hd hR hY 2 (by first | assumption | omega)) rfl rfl rfl (rm_ok (by decide) (by decide)) ⟨Nat.le_refl _, Nat.le_refl _⟩ (Nat.le_of_ble_eq_true rfl) dX8_cut_38 (fun r38 y38 q38 => ?_)
          obtain ⟨er38, ey38, hRy38⟩ := q38
          refine j_reti G hr dX8_cut_41 ?_
          have e71 : y38 71 0 = kcCu z f q := by rw [ey38, zp_same]; unfold kcCu; (repeat' split) <;> omega
          refine ⟨e71, fun hk => ?_, fun _ => rfl, hR, hRy38, fun k a b => by rw [ey38, zp_nk _ b] <;> first | rfl | exact ho45 k a | exact ho92 k a | exact (ho92 k a).trans (ho45 k a)⟩
          exfalso
          rw [ey38, zp_same] at e71
          omega
    · skip
      refine i_aload_n G dX8_cut_16 rfl ?_
      refine i_iconst G dX8_cut_17 ?_
      refine j_callYi (q0 := 0) (As := [vi (1)]) (st := []) G K_X8_110 (m_fails l hd hR hY 1 (by first | assumption | omega)) rfl rfl rfl (rm_ok (by decide) (by decide)) ⟨Nat.le_refl _, Nat.le_refl _⟩ (Nat.le_of_ble_eq_true rfl) dX8_cut_18 (fun r18 y18 q18 => ?_)
      obtain ⟨er18, ey18, hRy18⟩ := q18
      refine j_reti G hr dX8_cut_21 ?_
      have e71 : y18 71 0 = kcCu z f q := by rw [ey18, zp_same]; unfold kcCu; (repeat' split) <;> omega
      refine ⟨e71, fun hk => ?_, fun _ => rfl, hR, hRy18, fun k a b => by rw [ey18, zp_nk _ b] <;> first | rfl | exact ho45 k a | exact ho92 k a | exact (ho92 k a).trans (ho45 k a)⟩
      exfalso
      rw [ey18, zp_same] at e71
      omega
set_option maxHeartbeats 4000000 in
set_option maxRecDepth 100000 in
theorem m_adds (l : Launch) {D : va_G} {aC : Nat → ClassId} {ad : Nat → Nat} (hd : wDi ad shM) {z y : wZ} (hR : Rng z) (hY : Rng y) (k : Int) (n : Int) (u : Int) (hk : 0 ≤ k ∧ k ≤ 65535) (hn : 0 ≤ n ∧ n ≤ 29) (hu : 0 ≤ u ∧ u ≤ 1000) (hrm : z 3 0 < 40) : cMi l D aC ad shM yX8_adds cX8_adds 4 (.int) (rmL 1) [.ref (ad 40), vi k, vi n, vi u] z y (fun r_ z2 y2 => r_ = z 3 0 ∧ z2 = mkF z k n u ∧ y2 = zp y 71 0 0 ∧ Rng z2 ∧ Rng y2) := by
  refine c_i [some (.ref (ad 40)), some (vi (k)), some (vi (n)), some (vi (u))] (by decide +kernel) rfl (Nat.le_of_ble_eq_true rfl) rfl hd ?_
  intro p e s m args below meth c A G hr
  have q3 : 0 ≤ z 3 0 ∧ z 3 0 ≤ 40 := hR 3 0
  refine i_aload_n G dX8_adds_0 rfl ?_
  refine i_getr G F_X8_57 0 rfl rfl dX8_adds_1 ?_
  refine i_aload_n G dX8_adds_4 rfl ?_
  refine j_getz G F_X8_104 0 rfl rfl (by decide) dX8_adds_5 ?_
  have b5 : 0 ≤ z 3 0 ∧ z 3 0 ≤ 40 := hR 3 _
  refine i_iload_n G dX8_adds_8 rfl ?_
  refine j_cast_z G 15 rfl (by decide) (by decide) (by omega) (by omega) (by omega) (by decide) hR (by show (0 : Int) ≤ _ ∧ _ ≤ (65535 : Int); omega) dX8_adds_9 (fun z9 ez9 hRz9 => ?_)
  have e9 : z9 3 0 = z 3 0 := by rw [ez9, zp_nk _ (by decide)]
  refine i_aload_n G dX8_adds_10 rfl ?_
  refine i_getr G F_X8_61 0 rfl rfl dX8_adds_11 ?_
  refine i_aload_n G dX8_adds_14 rfl ?_
  refine j_getz G F_X8_104 0 rfl rfl (by decide) dX8_adds_15 ?_
  have b15 : 0 ≤ z9 3 0 ∧ z9 3 0 ≤ 40 := hRz9 3 _
  refine i_iload_n G dX8_adds_18 rfl ?_
  refine j_iast_z G 16 rfl (by decide) (by decide) (by omega) (by omega) (by decide) hRz9 (by show (0 : Int) ≤ _ ∧ _ ≤ (29 : Int); omega) dX8_adds_19 (fun z19 ez19 hRz19 => ?_)
  have e19 : z19 3 0 = z 3 0 := by rw [ez19, zp_nk _ (by decide)]; exact e9
  refine i_aload_n G dX8_adds_20 rfl ?_
  refine i_getr G F_X8_64 0 rfl rfl dX8_adds_21 ?_
  refine i_aload_n G dX8_adds_24 rfl ?_
  refine j_getz G F_X8_104 0 rfl rfl (by decide) dX8_adds_25 ?_
  have b25 : 0 ≤ z19 3 0 ∧ z19 3 0 ≤ 40 := hRz19 3 _
  refine i_iload_n G dX8_adds_28 rfl ?_
  refine j_iast_z G 17 rfl (by decide) (by decide) (by omega) (by omega) (by decide) hRz19 (by show (0 : Int) ≤ _ ∧ _ ≤ (1000 : Int); omega) dX8_adds_29 (fun z29 ez29 hRz29 => ?_)
  have e29 : z29 3 0 = z 3 0 := by rw [ez29, zp_nk _ (by decide)]; exact e19
  refine i_aload_n G dX8_adds_30 rfl ?_
  refine i_getr G F_X8_67 0 rfl rfl dX8_adds_31 ?_
  refine i_aload_n G dX8_adds_34 rfl ?_
  refine j_getz G F_X8_104 0 rfl rfl (by decide) dX8_adds_35 ?_
  have b35 : 0 ≤ z29 3 0 ∧ z29 3 0 ≤ 40 := hRz29 3 _
  refine i_iconst G dX8_adds_38 ?_
  refine j_iast_z G 18 rfl (by decide) (by decide) (by omega) (by omega) (by decide) hRz29 (by show (-1 : Int) ≤ _ ∧ _ ≤ (3 : Int); omega) dX8_adds_39 (fun z39 ez39 hRz39 => ?_)
  have e39 : z39 3 0 = z 3 0 := by rw [ez39, zp_nk _ (by decide)]; exact e29
  refine i_aload_n G dX8_adds_40 rfl ?_
  refine i_dup G rfl dX8_adds_41 ?_
  refine j_getz G F_X8_104 0 rfl rfl (by decide) dX8_adds_42 ?_
  have b42 : 0 ≤ z39 3 0 ∧ z39 3 0 ≤ 40 := hRz39 3 _
  refine i_iconst G dX8_adds_45 ?_
  refine i_iadd G dX8_adds_46 ?_
  refine j_putz G P_X8_104 0 rfl rfl (by decide) (by decide) (by decide) hRz39 (by show (0 : Int) ≤ _ ∧ _ ≤ (40 : Int); omega) dX8_adds_47 (fun z47 ez47 hRz47 => ?_)
  have e47 : z47 3 0 = z 3 0 + 1 := by rw [ez47, zp_same, e39]
  refine i_aload_n G dX8_adds_50 rfl ?_
  refine i_aload_n G dX8_adds_51 rfl ?_
  refine j_getz G F_X8_104 0 rfl rfl (by decide) dX8_adds_52 ?_
  have b52 : 0 ≤ z47 3 0 ∧ z47 3 0 ≤ 40 := hRz47 3 _
  refine i_iconst G dX8_adds_55 ?_
  refine i_isub G dX8_adds_56 ?_
  refine j_callYi (q0 := 0) (As := [vi (((z47 3 0) - 1))]) (st := []) G K_X8_114 (m_tells l hd hRz47 hY ((z47 3 0) - 1) ) rfl rfl rfl (rm_ok (by decide) (by decide)) ⟨Nat.le_refl _, Nat.le_refl _⟩ (Nat.le_of_ble_eq_true rfl) dX8_adds_57 (fun r57 y57 q57 => ?_)
  obtain ⟨er57, ey57, hRy57⟩ := q57
  refine j_reti G hr dX8_adds_60 ?_
  refine ⟨by omega, ?_, ey57, hRz47, hRy57⟩
  rw [ez47, e39, ez39, e29, ez29, e19, ez19, e9, ez9]
  unfold mkF
  rw [zp_comm _ (by decide : (26 : Nat) ≠ 3), zp_comm _ (by decide : (25 : Nat) ≠ 3), zp_comm _ (by decide : (24 : Nat) ≠ 3), zp_comm _ (by decide : (23 : Nat) ≠ 3)]
set_option maxHeartbeats 4000000 in
set_option maxRecDepth 100000 in
theorem m_addTask (l : Launch) {D : va_G} {aC : Nat → ClassId} {ad : Nat → Nat} (hd : wDi ad shM) {z y : wZ} (hR : Rng z) (hY : Rng y) (k : Int) (n : Int) (u : Int) (hn : -2147483648 ≤ n ∧ n ≤ 2147483647) (hu : -2147483648 ≤ u ∧ u ≤ 2147483647) (hk : 0 ≤ k ∧ k ≤ 65535) : cMi l D aC ad shM yX8_addTask cX8_addTask 4 (.int) (rmL 2) [.ref (ad 40), vi k, vi n, vi u] z y (fun r_ z2 y2 => y2 71 0 = kcAK z k n u ∧ (kcAK z k n u = 0 → r_ = z 3 0 ∧ z2 = mkF z k n u) ∧ (kcAK z k n u ≠ 0 → z2 = z) ∧ Rng z2 ∧ Rng y2 ∧ ∀ k', k' ≠ 70 → k' ≠ 71 → y2 k' = y k') := by
  refine c_i [some (.ref (ad 40)), some (vi (k)), some (vi (n)), some (vi (u))] (by decide +kernel) rfl (Nat.le_of_ble_eq_true rfl) rfl hd ?_
  intro p e s m args below meth c A G hr
  have q1 : 0 ≤ z 1 0 ∧ z 1 0 ≤ 24 := hR 1 0
  have q2 : 0 ≤ z 2 0 ∧ z 2 0 ≤ 30 := hR 2 0
  have q3 : 0 ≤ z 3 0 ∧ z 3 0 ≤ 40 := hR 3 0
  refine i_iload_n G dX8_addTask_0 rfl ?_
  refine i_bipush G dX8_addTask_1 (by decide) ?_
  refine i_icmp_eq (tgt := 12) G dX8_addTask_3 (by decide) (by omega) (by omega) (fun h3 => ?_) (fun h3 => ?_)
  · skip
    refine i_aload_n G dX8_addTask_12 rfl ?_
    refine i_iload_n G dX8_addTask_13 rfl ?_
    refine i_iconst G dX8_addTask_14 ?_
    refine i_sipush G dX8_addTask_15 (by decide) ?_
    refine j_callE (q0 := 0) (As := [vi (u), vi (0), vi (999)]) (st := []) G K_X8_94 (m_in l hd hR hY u 0 999 (by first | assumption | omega) (by first | assumption | omega) (by first | assumption | omega)) rfl rfl rfl (rm_ok (by decide) (by decide)) ⟨Nat.le_refl _, Nat.le_refl _⟩ (Nat.le_of_ble_eq_true rfl) dX8_addTask_18 ?_
    obtain ⟨r18, er18⟩ : ∃ x_ : Int, x_ = (if 0 ≤ u ∧ u ≤ 999 then 1 else 0) := ⟨_, rfl⟩
    rw [← er18]
    have b18 : (r18 = 1 ∧ 0 ≤ u ∧ u ≤ 999) ∨ (r18 = 0 ∧ ¬ (0 ≤ u ∧ u ≤ 999)) := by rw [er18]; split <;> omega
    refine i_if_ne (tgt := 30) G dX8_addTask_21 (by decide) (by omega) (fun h21 => ?_) (fun h21 => ?_)
    · skip
      refine i_iload_n G dX8_addTask_30 rfl ?_
      refine i_bipush G dX8_addTask_31 (by decide) ?_
      refine i_icmp_ne (tgt := 47) G dX8_addTask_33 (by decide) (by omega) (by omega) (fun h33 => ?_) (fun h33 => ?_)
      · skip
        refine i_aload_n G dX8_addTask_47 rfl ?_
        refine i_iload_n G dX8_addTask_48 rfl ?_
        refine j_callE (q0 := 0) (As := [vi (n)]) (st := []) G K_X8_158 (m_isBoard l hd hR hY n (by first | assumption | omega)) rfl rfl rfl (rm_ok (by decide) (by decide)) ⟨Nat.le_refl _, Nat.le_refl _⟩ (Nat.le_of_ble_eq_true rfl) dX8_addTask_49 ?_
        obtain ⟨r49, er49⟩ : ∃ x_ : Int, x_ = (if 0 ≤ n ∧ n < z 2 0 then 1 else 0) := ⟨_, rfl⟩
        rw [← er49]
        have b49 : (r49 = 1 ∧ 0 ≤ n ∧ n < z 2 0) ∨ (r49 = 0 ∧ ¬ (0 ≤ n ∧ n < z 2 0)) := by rw [er49]; split <;> omega
        refine i_if_ne (tgt := 61) G dX8_addTask_52 (by decide) (by omega) (fun h52 => ?_) (fun h52 => ?_)
        · skip
          refine i_aload_n G dX8_addTask_61 rfl ?_
          refine j_getz G F_X8_104 0 rfl rfl (by decide) dX8_addTask_62 ?_
          have b62 : 0 ≤ z 3 0 ∧ z 3 0 ≤ 40 := hR 3 _
          refine i_bipush G dX8_addTask_65 (by decide) ?_
          refine i_icmp_ne (tgt := 78) G dX8_addTask_67 (by decide) (by omega) (by omega) (fun h67 => ?_) (fun h67 => ?_)
          · skip
            refine i_aload_n G dX8_addTask_78 rfl ?_
            refine i_iload_n G dX8_addTask_79 rfl ?_
            refine i_iload_n G dX8_addTask_80 rfl ?_
            refine i_iload_n G dX8_addTask_81 rfl ?_
            refine j_calli (q0 := 0) (As := [vi (k), vi (n), vi (u)]) (st := []) G K_X8_165 (m_adds l hd hR hY k n u (by first | assumption | omega) (by first | assumption | omega) (by first | assumption | omega) (by first | assumption | omega)) rfl rfl rfl (rm_ok (by decide) (by decide)) ⟨Nat.le_refl _, Nat.le_refl _⟩ (Nat.le_of_ble_eq_true rfl) dX8_addTask_82 (fun r82 z82 y82 q82 => ?_)
            obtain ⟨er82, ez82, ey82, hRz82, hRy82⟩ := q82
            refine j_reti G hr dX8_addTask_85 ?_
            have e71 : y82 71 0 = kcAK z k n u := by rw [ey82, zp_same]; unfold kcAK; (repeat' split) <;> omega
            refine ⟨e71, fun hk => ⟨?_, ?_⟩, fun hk => (by rw [ey82, zp_same] at e71; omega), hRz82, hRy82, fun k a b => by rw [ey82, zp_nk _ b]⟩
            · exact er82
            · exact ez82
          · skip
            refine i_aload_n G dX8_addTask_70 rfl ?_
            refine i_iconst G dX8_addTask_71 ?_
            refine j_callYi (q0 := 0) (As := [vi (3)]) (st := []) G K_X8_110 (m_fails l hd hR hY 3 (by first | assumption | omega)) rfl rfl rfl (rm_ok (by decide) (by decide)) ⟨Nat.le_refl _, Nat.le_refl _⟩ (Nat.le_of_ble_eq_true rfl) dX8_addTask_72 (fun r72 y72 q72 => ?_)
            obtain ⟨er72, ey72, hRy72⟩ := q72
            refine i_goto (tgt := 85) G dX8_addTask_75 (by decide) ?_
            refine j_reti G hr dX8_addTask_85 ?_
            have e71 : y72 71 0 = kcAK z k n u := by rw [ey72, zp_same]; unfold kcAK; (repeat' split) <;> omega
            refine ⟨e71, fun hk => ?_, fun _ => rfl, hR, hRy72, fun k a b => by rw [ey72, zp_nk _ b]⟩
            exfalso
            rw [ey72, zp_same] at e71
            omega
        · skip
          refine i_aload_n G dX8_addTask_55 rfl ?_
          refine i_iconst G dX8_addTask_56 ?_
          refine j_callYi (q0 := 0) (As := [vi (2)]) (st := []) G K_X8_110 (m_fails l hd hR hY 2 (by first | assumption | omega)) rfl rfl rfl (rm_ok (by decide) (by decide)) ⟨Nat.le_refl _, Nat.le_refl _⟩ (Nat.le_of_ble_eq_true rfl) dX8_addTask_57 (fun r57 y57 q57 => ?_)
          obtain ⟨er57, ey57, hRy57⟩ := q57
          refine j_reti G hr dX8_addTask_60 ?_
          have e71 : y57 71 0 = kcAK z k n u := by rw [ey57, zp_same]; unfold kcAK; (repeat' split) <;> omega
          refine ⟨e71, fun hk => ?_, fun _ => rfl, hR, hRy57, fun k a b => by rw [ey57, zp_nk _ b]⟩
          exfalso
          rw [ey57, zp_same] at e71
          omega
      · skip
        refine i_aload_n G dX8_addTask_36 rfl ?_
        refine i_iload_n G dX8_addTask_37 rfl ?_
        refine j_callE (q0 := 0) (As := [vi (n)]) (st := []) G K_X8_121 (m_isTrail l hd hR hY n (by first | assumption | omega)) rfl rfl rfl (rm_ok (by decide) (by decide)) ⟨Nat.le_refl _, Nat.le_refl _⟩ (Nat.le_of_ble_eq_true rfl) dX8_addTask_38 ?_
        obtain ⟨r38, er38⟩ : ∃ x_ : Int, x_ = (if 0 ≤ n ∧ n < z 1 0 then 1 else 0) := ⟨_, rfl⟩
        rw [← er38]
        have b38 : (r38 = 1 ∧ 0 ≤ n ∧ n < z 1 0) ∨ (r38 = 0 ∧ ¬ (0 ≤ n ∧ n < z 1 0)) := by rw [er38]; split <;> omega
        refine i_if_ne (tgt := 61) G dX8_addTask_41 (by decide) (by omega) (fun h41 => ?_) (fun h41 => ?_)
        · skip
          refine i_aload_n G dX8_addTask_61 rfl ?_
          refine j_getz G F_X8_104 0 rfl rfl (by decide) dX8_addTask_62 ?_
          have b62 : 0 ≤ z 3 0 ∧ z 3 0 ≤ 40 := hR 3 _
          refine i_bipush G dX8_addTask_65 (by decide) ?_
          refine i_icmp_ne (tgt := 78) G dX8_addTask_67 (by decide) (by omega) (by omega) (fun h67 => ?_) (fun h67 => ?_)
          · skip
            refine i_aload_n G dX8_addTask_78 rfl ?_
            refine i_iload_n G dX8_addTask_79 rfl ?_
            refine i_iload_n G dX8_addTask_80 rfl ?_
            refine i_iload_n G dX8_addTask_81 rfl ?_
            refine j_calli (q0 := 0) (As := [vi (k), vi (n), vi (u)]) (st := []) G K_X8_165 (m_adds l hd hR hY k n u (by first | assumption | omega) (by first | assumption | omega) (by first | assumption | omega) (by first | assumption | omega)) rfl rfl rfl (rm_ok (by decide) (by decide)) ⟨Nat.le_refl _, Nat.le_refl _⟩ (Nat.le_of_ble_eq_true rfl) dX8_addTask_82 (fun r82 z82 y82 q82 => ?_)
            obtain ⟨er82, ez82, ey82, hRz82, hRy82⟩ := q82
            refine j_reti G hr dX8_addTask_85 ?_
            have e71 : y82 71 0 = kcAK z k n u := by rw [ey82, zp_same]; unfold kcAK; (repeat' split) <;> omega
            refine ⟨e71, fun hk => ⟨?_, ?_⟩, fun hk => (by rw [ey82, zp_same] at e71; omega), hRz82, hRy82, fun k a b => by rw [ey82, zp_nk _ b]⟩
            · exact er82
            · exact ez82
          · skip
            refine i_aload_n G dX8_addTask_70 rfl ?_
            refine i_iconst G dX8_addTask_71 ?_
            refine j_callYi (q0 := 0) (As := [vi (3)]) (st := []) G K_X8_110 (m_fails l hd hR hY 3 (by first | assumption | omega)) rfl rfl rfl (rm_ok (by decide) (by decide)) ⟨Nat.le_refl _, Nat.le_refl _⟩ (Nat.le_of_ble_eq_true rfl) dX8_addTask_72 (fun r72 y72 q72 => ?_)
            obtain ⟨er72, ey72, hRy72⟩ := q72
            refine i_goto (tgt := 85) G dX8_addTask_75 (by decide) ?_
            refine j_reti G hr dX8_addTask_85 ?_
            have e71 : y72 71 0 = kcAK z k n u := by rw [ey72, zp_same]; unfold kcAK; (repeat' split) <;> omega
            refine ⟨e71, fun hk => ?_, fun _ => rfl, hR, hRy72, fun k a b => by rw [ey72, zp_nk _ b]⟩
            exfalso
            rw [ey72, zp_same] at e71
            omega
        · skip
          refine i_goto (tgt := 55) G dX8_addTask_44 (by decide) ?_
          refine i_aload_n G dX8_addTask_55 rfl ?_
          refine i_iconst G dX8_addTask_56 ?_
          refine j_callYi (q0 := 0) (As := [vi (2)]) (st := []) G K_X8_110 (m_fails l hd hR hY 2 (by first | assumption | omega)) rfl rfl rfl (rm_ok (by decide) (by decide)) ⟨Nat.le_refl _, Nat.le_refl _⟩ (Nat.le_of_ble_eq_true rfl) dX8_addTask_57 (fun r57 y57 q57 => ?_)
          obtain ⟨er57, ey57, hRy57⟩ := q57
          refine j_reti G hr dX8_addTask_60 ?_
          have e71 : y57 71 0 = kcAK z k n u := by rw [ey57, zp_same]; unfold kcAK; (repeat' split) <;> omega
          refine ⟨e71, fun hk => ?_, fun _ => rfl, hR, hRy57, fun k a b => by rw [ey57, zp_nk _ b]⟩
          exfalso
          rw [ey57, zp_same] at e71
          omega
    · skip
      refine i_aload_n G dX8_addTask_24 rfl ?_
      refine i_iconst G dX8_addTask_25 ?_
      refine j_callYi (q0 := 0) (As := [vi (1)]) (st := []) G K_X8_110 (m_fails l hd hR hY 1 (by first | assumption | omega)) rfl rfl rfl (rm_ok (by decide) (by decide)) ⟨Nat.le_refl _, Nat.le_refl _⟩ (Nat.le_of_ble_eq_true rfl) dX8_addTask_26 (fun r26 y26 q26 => ?_)
      obtain ⟨er26, ey26, hRy26⟩ := q26
      refine j_reti G hr dX8_addTask_29 ?_
      have e71 : y26 71 0 = kcAK z k n u := by rw [ey26, zp_same]; unfold kcAK; (repeat' split) <;> omega
      refine ⟨e71, fun hk => ?_, fun _ => rfl, hR, hRy26, fun k a b => by rw [ey26, zp_nk _ b]⟩
      exfalso
      rw [ey26, zp_same] at e71
      omega
  · skip
    refine i_iload_n G dX8_addTask_6 rfl ?_
    refine i_bipush G dX8_addTask_7 (by decide) ?_
    refine i_icmp_ne (tgt := 24) G dX8_addTask_9 (by decide) (by omega) (by omega) (fun h9 => ?_) (fun h9 => ?_)
    · skip
      refine i_aload_n G dX8_addTask_24 rfl ?_
      refine i_iconst G dX8_addTask_25 ?_
      refine j_callYi (q0 := 0) (As := [vi (1)]) (st := []) G K_X8_110 (m_fails l hd hR hY 1 (by first | assumption | omega)) rfl rfl rfl (rm_ok (by decide) (by decide)) ⟨Nat.le_refl _, Nat.le_refl _⟩ (Nat.le_of_ble_eq_true rfl) dX8_addTask_26 (fun r26 y26 q26 => ?_)
      obtain ⟨er26, ey26, hRy26⟩ := q26
      refine j_reti G hr dX8_addTask_29 ?_
      have e71 : y26 71 0 = kcAK z k n u := by rw [ey26, zp_same]; unfold kcAK; (repeat' split) <;> omega
      refine ⟨e71, fun hk => ?_, fun _ => rfl, hR, hRy26, fun k a b => by rw [ey26, zp_nk _ b]⟩
      exfalso
      rw [ey26, zp_same] at e71
      omega
    · skip
      refine i_aload_n G dX8_addTask_12 rfl ?_
      refine i_iload_n G dX8_addTask_13 rfl ?_
      refine i_iconst G dX8_addTask_14 ?_
      refine i_sipush G dX8_addTask_15 (by decide) ?_
      refine j_callE (q0 := 0) (As := [vi (u), vi (0), vi (999)]) (st := []) G K_X8_94 (m_in l hd hR hY u 0 999 (by first | assumption | omega) (by first | assumption | omega) (by first | assumption | omega)) rfl rfl rfl (rm_ok (by decide) (by decide)) ⟨Nat.le_refl _, Nat.le_refl _⟩ (Nat.le_of_ble_eq_true rfl) dX8_addTask_18 ?_
      obtain ⟨r18, er18⟩ : ∃ x_ : Int, x_ = (if 0 ≤ u ∧ u ≤ 999 then 1 else 0) := ⟨_, rfl⟩
      rw [← er18]
      have b18 : (r18 = 1 ∧ 0 ≤ u ∧ u ≤ 999) ∨ (r18 = 0 ∧ ¬ (0 ≤ u ∧ u ≤ 999)) := by rw [er18]; split <;> omega
      refine i_if_ne (tgt := 30) G dX8_addTask_21 (by decide) (by omega) (fun h21 => ?_) (fun h21 => ?_)
      · skip
        refine i_iload_n G dX8_addTask_30 rfl ?_
        refine i_bipush G dX8_addTask_31 (by decide) ?_
        refine i_icmp_ne (tgt := 47) G dX8_addTask_33 (by decide) (by omega) (by omega) (fun h33 => ?_) (fun h33 => ?_)
        · skip
          refine i_aload_n G dX8_addTask_47 rfl ?_
          refine i_iload_n G dX8_addTask_48 rfl ?_
          refine j_callE (q0 := 0) (As := [vi (n)]) (st := []) G K_X8_158 (m_isBoard l hd hR hY n (by first | assumption | omega)) rfl rfl rfl (rm_ok (by decide) (by decide)) ⟨Nat.le_refl _, Nat.le_refl _⟩ (Nat.le_of_ble_eq_true rfl) dX8_addTask_49 ?_
          obtain ⟨r49, er49⟩ : ∃ x_ : Int, x_ = (if 0 ≤ n ∧ n < z 2 0 then 1 else 0) := ⟨_, rfl⟩
          rw [← er49]
          have b49 : (r49 = 1 ∧ 0 ≤ n ∧ n < z 2 0) ∨ (r49 = 0 ∧ ¬ (0 ≤ n ∧ n < z 2 0)) := by rw [er49]; split <;> omega
          refine i_if_ne (tgt := 61) G dX8_addTask_52 (by decide) (by omega) (fun h52 => ?_) (fun h52 => ?_)
          · skip
            refine i_aload_n G dX8_addTask_61 rfl ?_
            refine j_getz G F_X8_104 0 rfl rfl (by decide) dX8_addTask_62 ?_
            have b62 : 0 ≤ z 3 0 ∧ z 3 0 ≤ 40 := hR 3 _
            refine i_bipush G dX8_addTask_65 (by decide) ?_
            refine i_icmp_ne (tgt := 78) G dX8_addTask_67 (by decide) (by omega) (by omega) (fun h67 => ?_) (fun h67 => ?_)
            · skip
              refine i_aload_n G dX8_addTask_78 rfl ?_
              refine i_iload_n G dX8_addTask_79 rfl ?_
              refine i_iload_n G dX8_addTask_80 rfl ?_
              refine i_iload_n G dX8_addTask_81 rfl ?_
              refine j_calli (q0 := 0) (As := [vi (k), vi (n), vi (u)]) (st := []) G K_X8_165 (m_adds l hd hR hY k n u (by first | assumption | omega) (by first | assumption | omega) (by first | assumption | omega) (by first | assumption | omega)) rfl rfl rfl (rm_ok (by decide) (by decide)) ⟨Nat.le_refl _, Nat.le_refl _⟩ (Nat.le_of_ble_eq_true rfl) dX8_addTask_82 (fun r82 z82 y82 q82 => ?_)
              obtain ⟨er82, ez82, ey82, hRz82, hRy82⟩ := q82
              refine j_reti G hr dX8_addTask_85 ?_
              have e71 : y82 71 0 = kcAK z k n u := by rw [ey82, zp_same]; unfold kcAK; (repeat' split) <;> omega
              refine ⟨e71, fun hk => ⟨?_, ?_⟩, fun hk => (by rw [ey82, zp_same] at e71; omega), hRz82, hRy82, fun k a b => by rw [ey82, zp_nk _ b]⟩
              · exact er82
              · exact ez82
            · skip
              refine i_aload_n G dX8_addTask_70 rfl ?_
              refine i_iconst G dX8_addTask_71 ?_
              refine j_callYi (q0 := 0) (As := [vi (3)]) (st := []) G K_X8_110 (m_fails l hd hR hY 3 (by first | assumption | omega)) rfl rfl rfl (rm_ok (by decide) (by decide)) ⟨Nat.le_refl _, Nat.le_refl _⟩ (Nat.le_of_ble_eq_true rfl) dX8_addTask_72 (fun r72 y72 q72 => ?_)
              obtain ⟨er72, ey72, hRy72⟩ := q72
              refine i_goto (tgt := 85) G dX8_addTask_75 (by decide) ?_
              refine j_reti G hr dX8_addTask_85 ?_
              have e71 : y72 71 0 = kcAK z k n u := by rw [ey72, zp_same]; unfold kcAK; (repeat' split) <;> omega
              refine ⟨e71, fun hk => ?_, fun _ => rfl, hR, hRy72, fun k a b => by rw [ey72, zp_nk _ b]⟩
              exfalso
              rw [ey72, zp_same] at e71
              omega
          · skip
            refine i_aload_n G dX8_addTask_55 rfl ?_
            refine i_iconst G dX8_addTask_56 ?_
            refine j_callYi (q0 := 0) (As := [vi (2)]) (st := []) G K_X8_110 (m_fails l hd hR hY 2 (by first | assumption | omega)) rfl rfl rfl (rm_ok (by decide) (by decide)) ⟨Nat.le_refl _, Nat.le_refl _⟩ (Nat.le_of_ble_eq_true rfl) dX8_addTask_57 (fun r57 y57 q57 => ?_)
            obtain ⟨er57, ey57, hRy57⟩ := q57
            refine j_reti G hr dX8_addTask_60 ?_
            have e71 : y57 71 0 = kcAK z k n u := by rw [ey57, zp_same]; unfold kcAK; (repeat' split) <;> omega
            refine ⟨e71, fun hk => ?_, fun _ => rfl, hR, hRy57, fun k a b => by rw [ey57, zp_nk _ b]⟩
            exfalso
            rw [ey57, zp_same] at e71
            omega
        · skip
          refine i_aload_n G dX8_addTask_36 rfl ?_
          refine i_iload_n G dX8_addTask_37 rfl ?_
          refine j_callE (q0 := 0) (As := [vi (n)]) (st := []) G K_X8_121 (m_isTrail l hd hR hY n (by first | assumption | omega)) rfl rfl rfl (rm_ok (by decide) (by decide)) ⟨Nat.le_refl _, Nat.le_refl _⟩ (Nat.le_of_ble_eq_true rfl) dX8_addTask_38 ?_
          obtain ⟨r38, er38⟩ : ∃ x_ : Int, x_ = (if 0 ≤ n ∧ n < z 1 0 then 1 else 0) := ⟨_, rfl⟩
          rw [← er38]
          have b38 : (r38 = 1 ∧ 0 ≤ n ∧ n < z 1 0) ∨ (r38 = 0 ∧ ¬ (0 ≤ n ∧ n < z 1 0)) := by rw [er38]; split <;> omega
          refine i_if_ne (tgt := 61) G dX8_addTask_41 (by decide) (by omega) (fun h41 => ?_) (fun h41 => ?_)
          · skip
            refine i_aload_n G dX8_addTask_61 rfl ?_
            refine j_getz G F_X8_104 0 rfl rfl (by decide) dX8_addTask_62 ?_
            have b62 : 0 ≤ z 3 0 ∧ z 3 0 ≤ 40 := hR 3 _
            refine i_bipush G dX8_addTask_65 (by decide) ?_
            refine i_icmp_ne (tgt := 78) G dX8_addTask_67 (by decide) (by omega) (by omega) (fun h67 => ?_) (fun h67 => ?_)
            · skip
              refine i_aload_n G dX8_addTask_78 rfl ?_
              refine i_iload_n G dX8_addTask_79 rfl ?_
              refine i_iload_n G dX8_addTask_80 rfl ?_
              refine i_iload_n G dX8_addTask_81 rfl ?_
              refine j_calli (q0 := 0) (As := [vi (k), vi (n), vi (u)]) (st := []) G K_X8_165 (m_adds l hd hR hY k n u (by first | assumption | omega) (by first | assumption | omega) (by first | assumption | omega) (by first | assumption | omega)) rfl rfl rfl (rm_ok (by decide) (by decide)) ⟨Nat.le_refl _, Nat.le_refl _⟩ (Nat.le_of_ble_eq_true rfl) dX8_addTask_82 (fun r82 z82 y82 q82 => ?_)
              obtain ⟨er82, ez82, ey82, hRz82, hRy82⟩ := q82
              refine j_reti G hr dX8_addTask_85 ?_
              have e71 : y82 71 0 = kcAK z k n u := by rw [ey82, zp_same]; unfold kcAK; (repeat' split) <;> omega
              refine ⟨e71, fun hk => ⟨?_, ?_⟩, fun hk => (by rw [ey82, zp_same] at e71; omega), hRz82, hRy82, fun k a b => by rw [ey82, zp_nk _ b]⟩
              · exact er82
              · exact ez82
            · skip
              refine i_aload_n G dX8_addTask_70 rfl ?_
              refine i_iconst G dX8_addTask_71 ?_
              refine j_callYi (q0 := 0) (As := [vi (3)]) (st := []) G K_X8_110 (m_fails l hd hR hY 3 (by first | assumption | omega)) rfl rfl rfl (rm_ok (by decide) (by decide)) ⟨Nat.le_refl _, Nat.le_refl _⟩ (Nat.le_of_ble_eq_true rfl) dX8_addTask_72 (fun r72 y72 q72 => ?_)
              obtain ⟨er72, ey72, hRy72⟩ := q72
              refine i_goto (tgt := 85) G dX8_addTask_75 (by decide) ?_
              refine j_reti G hr dX8_addTask_85 ?_
              have e71 : y72 71 0 = kcAK z k n u := by rw [ey72, zp_same]; unfold kcAK; (repeat' split) <;> omega
              refine ⟨e71, fun hk => ?_, fun _ => rfl, hR, hRy72, fun k a b => by rw [ey72, zp_nk _ b]⟩
              exfalso
              rw [ey72, zp_same] at e71
              omega
          · skip
            refine i_goto (tgt := 55) G dX8_addTask_44 (by decide) ?_
            refine i_aload_n G dX8_addTask_55 rfl ?_
            refine i_iconst G dX8_addTask_56 ?_
            refine j_callYi (q0 := 0) (As := [vi (2)]) (st := []) G K_X8_110 (m_fails l hd hR hY 2 (by first | assumption | omega)) rfl rfl rfl (rm_ok (by decide) (by decide)) ⟨Nat.le_refl _, Nat.le_refl _⟩ (Nat.le_of_ble_eq_true rfl) dX8_addTask_57 (fun r57 y57 q57 => ?_)
            obtain ⟨er57, ey57, hRy57⟩ := q57
            refine j_reti G hr dX8_addTask_60 ?_
            have e71 : y57 71 0 = kcAK z k n u := by rw [ey57, zp_same]; unfold kcAK; (repeat' split) <;> omega
            refine ⟨e71, fun hk => ?_, fun _ => rfl, hR, hRy57, fun k a b => by rw [ey57, zp_nk _ b]⟩
            exfalso
            rw [ey57, zp_same] at e71
            omega
      · skip
        refine i_aload_n G dX8_addTask_24 rfl ?_
        refine i_iconst G dX8_addTask_25 ?_
        refine j_callYi (q0 := 0) (As := [vi (1)]) (st := []) G K_X8_110 (m_fails l hd hR hY 1 (by first | assumption | omega)) rfl rfl rfl (rm_ok (by decide) (by decide)) ⟨Nat.le_refl _, Nat.le_refl _⟩ (Nat.le_of_ble_eq_true rfl) dX8_addTask_26 (fun r26 y26 q26 => ?_)
        obtain ⟨er26, ey26, hRy26⟩ := q26
        refine j_reti G hr dX8_addTask_29 ?_
        have e71 : y26 71 0 = kcAK z k n u := by rw [ey26, zp_same]; unfold kcAK; (repeat' split) <;> omega
        refine ⟨e71, fun hk => ?_, fun _ => rfl, hR, hRy26, fun k a b => by rw [ey26, zp_nk _ b]⟩
        exfalso
        rw [ey26, zp_same] at e71
        omega
set_option maxHeartbeats 4000000 in
set_option maxRecDepth 100000 in
theorem m_addRanger (l : Launch) {D : va_G} {aC : Nat → ClassId} {ad : Nat → Nat} (hd : wDi ad shM) {z y : wZ} (hR : Rng z) (hY : Rng y) (f : Int) (tl : Int) (hf : -2147483648 ≤ f ∧ f ≤ 2147483647) (htl : -2147483648 ≤ tl ∧ tl ≤ 2147483647) : cMi l D aC ad shM yX8_addRanger cX8_addRanger 3 (.int) (rmL 2) [.ref (ad 40), vi f, vi tl] z y (fun r_ z2 y2 => y2 71 0 = kcAR z f tl ∧ (kcAR z f tl = 0 → r_ = z 4 0 ∧ z2 = enlF z f tl) ∧ (kcAR z f tl ≠ 0 → z2 = z) ∧ Rng z2 ∧ Rng y2 ∧ ∀ k', k' ≠ 70 → k' ≠ 71 → y2 k' = y k') := by
  refine c_i [some (.ref (ad 40)), some (vi (f)), some (vi (tl))] (by decide +kernel) rfl (Nat.le_of_ble_eq_true rfl) rfl hd ?_
  intro p e s m args below meth c A G hr
  have q0 : 0 ≤ z 0 0 ∧ z 0 0 ≤ 16 := hR 0 0
  have q4 : 0 ≤ z 4 0 ∧ z 4 0 ≤ 4 := hR 4 0
  refine i_aload_n G dX8_addRanger_0 rfl ?_
  refine i_iload_n G dX8_addRanger_1 rfl ?_
  refine j_callE (q0 := 0) (As := [vi (f)]) (st := []) G K_X8_117 (m_isFork l hd hR hY f (by first | assumption | omega)) rfl rfl rfl (rm_ok (by decide) (by decide)) ⟨Nat.le_refl _, Nat.le_refl _⟩ (Nat.le_of_ble_eq_true rfl) dX8_addRanger_2 ?_
  obtain ⟨r2, er2⟩ : ∃ x_ : Int, x_ = (if 0 ≤ f ∧ f < z 0 0 then 1 else 0) := ⟨_, rfl⟩
  rw [← er2]
  have b2 : (r2 = 1 ∧ 0 ≤ f ∧ f < z 0 0) ∨ (r2 = 0 ∧ ¬ (0 ≤ f ∧ f < z 0 0)) := by rw [er2]; split <;> omega
  refine i_if_ne (tgt := 14) G dX8_addRanger_5 (by decide) (by omega) (fun h5 => ?_) (fun h5 => ?_)
  · skip
    refine i_aload_n G dX8_addRanger_14 rfl ?_
    refine i_iload_n G dX8_addRanger_15 rfl ?_
    refine i_iconst G dX8_addRanger_16 ?_
    refine i_iconst G dX8_addRanger_17 ?_
    refine j_callE (q0 := 0) (As := [vi (tl), vi (0), vi (3)]) (st := []) G K_X8_94 (m_in l hd hR hY tl 0 3 (by first | assumption | omega) (by first | assumption | omega) (by first | assumption | omega)) rfl rfl rfl (rm_ok (by decide) (by decide)) ⟨Nat.le_refl _, Nat.le_refl _⟩ (Nat.le_of_ble_eq_true rfl) dX8_addRanger_18 ?_
    obtain ⟨r18, er18⟩ : ∃ x_ : Int, x_ = (if 0 ≤ tl ∧ tl ≤ 3 then 1 else 0) := ⟨_, rfl⟩
    rw [← er18]
    have b18 : (r18 = 1 ∧ 0 ≤ tl ∧ tl ≤ 3) ∨ (r18 = 0 ∧ ¬ (0 ≤ tl ∧ tl ≤ 3)) := by rw [er18]; split <;> omega
    refine i_if_ne (tgt := 30) G dX8_addRanger_21 (by decide) (by omega) (fun h21 => ?_) (fun h21 => ?_)
    · skip
      refine i_aload_n G dX8_addRanger_30 rfl ?_
      refine j_getz G F_X8_107 0 rfl rfl (by decide) dX8_addRanger_31 ?_
      have b31 : 0 ≤ z 4 0 ∧ z 4 0 ≤ 4 := hR 4 _
      refine i_iconst G dX8_addRanger_34 ?_
      refine i_icmp_ne (tgt := 44) G dX8_addRanger_35 (by decide) (by omega) (by omega) (fun h35 => ?_) (fun h35 => ?_)
      · skip
        refine i_aload_n G dX8_addRanger_44 rfl ?_
        refine i_getr G F_X8_70 0 rfl rfl dX8_addRanger_45 ?_
        refine i_aload_n G dX8_addRanger_48 rfl ?_
        refine j_getz G F_X8_107 0 rfl rfl (by decide) dX8_addRanger_49 ?_
        have b49 : 0 ≤ z 4 0 ∧ z 4 0 ≤ 4 := hR 4 _
        refine i_iload_n G dX8_addRanger_52 rfl ?_
        refine j_iast_z G 19 rfl (by decide) (by decide) (by omega) (by omega) (by decide) hR (by show (0 : Int) ≤ _ ∧ _ ≤ (15 : Int); omega) dX8_addRanger_53 (fun z53 ez53 hRz53 => ?_)
        have e53 : z53 4 0 = z 4 0 := by rw [ez53, zp_nk _ (by decide)]
        refine i_aload_n G dX8_addRanger_54 rfl ?_
        refine i_getr G F_X8_73 0 rfl rfl dX8_addRanger_55 ?_
        refine i_aload_n G dX8_addRanger_58 rfl ?_
        refine j_getz G F_X8_107 0 rfl rfl (by decide) dX8_addRanger_59 ?_
        have b59 : 0 ≤ z53 4 0 ∧ z53 4 0 ≤ 4 := hRz53 4 _
        refine i_iload_n G dX8_addRanger_62 rfl ?_
        refine j_iast_z G 20 rfl (by decide) (by decide) (by omega) (by omega) (by decide) hRz53 (by show (0 : Int) ≤ _ ∧ _ ≤ (3 : Int); omega) dX8_addRanger_63 (fun z63 ez63 hRz63 => ?_)
        have e63 : z63 4 0 = z 4 0 := by rw [ez63, zp_nk _ (by decide)]; exact e53
        refine i_aload_n G dX8_addRanger_64 rfl ?_
        refine i_dup G rfl dX8_addRanger_65 ?_
        refine j_getz G F_X8_107 0 rfl rfl (by decide) dX8_addRanger_66 ?_
        have b66 : 0 ≤ z63 4 0 ∧ z63 4 0 ≤ 4 := hRz63 4 _
        refine i_iconst G dX8_addRanger_69 ?_
        refine i_iadd G dX8_addRanger_70 ?_
        refine j_putz G P_X8_107 0 rfl rfl (by decide) (by decide) (by decide) hRz63 (by show (0 : Int) ≤ _ ∧ _ ≤ (4 : Int); omega) dX8_addRanger_71 (fun z71 ez71 hRz71 => ?_)
        have e71q : z71 4 0 = z 4 0 + 1 := by rw [ez71, zp_same, e63]
        refine i_aload_n G dX8_addRanger_74 rfl ?_
        refine i_aload_n G dX8_addRanger_75 rfl ?_
        refine j_getz G F_X8_107 0 rfl rfl (by decide) dX8_addRanger_76 ?_
        have b76 : 0 ≤ z71 4 0 ∧ z71 4 0 ≤ 4 := hRz71 4 _
        refine i_iconst G dX8_addRanger_79 ?_
        refine i_isub G dX8_addRanger_80 ?_
        refine j_callYi (q0 := 0) (As := [vi (((z71 4 0) - 1))]) (st := []) G K_X8_114 (m_tells l hd hRz71 hY ((z71 4 0) - 1) ) rfl rfl rfl (rm_ok (by decide) (by decide)) ⟨Nat.le_refl _, Nat.le_refl _⟩ (Nat.le_of_ble_eq_true rfl) dX8_addRanger_81 (fun r81 y81 q81 => ?_)
        obtain ⟨er81, ey81, hRy81⟩ := q81
        refine j_reti G hr dX8_addRanger_84 ?_
        have e71 : y81 71 0 = kcAR z f tl := by rw [ey81, zp_same]; unfold kcAR; (repeat' split) <;> omega
        refine ⟨e71, fun hk => ⟨?_, ?_⟩, fun hk => (by rw [ey81, zp_same] at e71; omega), hRz71, hRy81, fun k a b => by rw [ey81, zp_nk _ b]⟩
        · omega
        · rw [ez71, e63, ez63, e53, ez53]
          unfold enlF
          rw [zp_comm _ (by decide : (28 : Nat) ≠ 4), zp_comm _ (by decide : (27 : Nat) ≠ 4)]
      · skip
        refine i_aload_n G dX8_addRanger_38 rfl ?_
        refine i_iconst G dX8_addRanger_39 ?_
        refine j_callYi (q0 := 0) (As := [vi (3)]) (st := []) G K_X8_110 (m_fails l hd hR hY 3 (by first | assumption | omega)) rfl rfl rfl (rm_ok (by decide) (by decide)) ⟨Nat.le_refl _, Nat.le_refl _⟩ (Nat.le_of_ble_eq_true rfl) dX8_addRanger_40 (fun r40 y40 q40 => ?_)
        obtain ⟨er40, ey40, hRy40⟩ := q40
        refine j_reti G hr dX8_addRanger_43 ?_
        have e71 : y40 71 0 = kcAR z f tl := by rw [ey40, zp_same]; unfold kcAR; (repeat' split) <;> omega
        refine ⟨e71, fun hk => ?_, fun _ => rfl, hR, hRy40, fun k a b => by rw [ey40, zp_nk _ b]⟩
        exfalso
        rw [ey40, zp_same] at e71
        omega
    · skip
      refine i_aload_n G dX8_addRanger_24 rfl ?_
      refine i_iconst G dX8_addRanger_25 ?_
      refine j_callYi (q0 := 0) (As := [vi (2)]) (st := []) G K_X8_110 (m_fails l hd hR hY 2 (by first | assumption | omega)) rfl rfl rfl (rm_ok (by decide) (by decide)) ⟨Nat.le_refl _, Nat.le_refl _⟩ (Nat.le_of_ble_eq_true rfl) dX8_addRanger_26 (fun r26 y26 q26 => ?_)
      obtain ⟨er26, ey26, hRy26⟩ := q26
      refine j_reti G hr dX8_addRanger_29 ?_
      have e71 : y26 71 0 = kcAR z f tl := by rw [ey26, zp_same]; unfold kcAR; (repeat' split) <;> omega
      refine ⟨e71, fun hk => ?_, fun _ => rfl, hR, hRy26, fun k a b => by rw [ey26, zp_nk _ b]⟩
      exfalso
      rw [ey26, zp_same] at e71
      omega
  · skip
    refine i_aload_n G dX8_addRanger_8 rfl ?_
    refine i_iconst G dX8_addRanger_9 ?_
    refine j_callYi (q0 := 0) (As := [vi (1)]) (st := []) G K_X8_110 (m_fails l hd hR hY 1 (by first | assumption | omega)) rfl rfl rfl (rm_ok (by decide) (by decide)) ⟨Nat.le_refl _, Nat.le_refl _⟩ (Nat.le_of_ble_eq_true rfl) dX8_addRanger_10 (fun r10 y10 q10 => ?_)
    obtain ⟨er10, ey10, hRy10⟩ := q10
    refine j_reti G hr dX8_addRanger_13 ?_
    have e71 : y10 71 0 = kcAR z f tl := by rw [ey10, zp_same]; unfold kcAR; (repeat' split) <;> omega
    refine ⟨e71, fun hk => ?_, fun _ => rfl, hR, hRy10, fun k a b => by rw [ey10, zp_nk _ b]⟩
    exfalso
    rw [ey10, zp_same] at e71
    omega
set_option maxHeartbeats 4000000 in
set_option maxRecDepth 100000 in
theorem m_print (l : Launch) {D : va_G} {aC : Nat → ClassId} {ad : Nat → Nat} (hd : wDi ad shM) {z y : wZ} (hR : Rng z) (hY : Rng y)   : cMi l D aC ad shM yX8_print cX8_print 2 (.int) (rmL 1) [.ref (ad 40)] z y (fun r_ z2 y2 => y2 71 0 = kcPr z ∧ (kcPr z = 0 → r_ = z 5 0 ∧ z2 = drwF z (z 7 0)) ∧ (kcPr z ≠ 0 → z2 = z) ∧ Rng z2 ∧ Rng y2 ∧ ∀ k', k' ≠ 70 → k' ≠ 71 → y2 k' = y k') := by
  refine c_i [some (.ref (ad 40)), none] (by decide +kernel) rfl (Nat.le_of_ble_eq_true rfl) rfl hd ?_
  intro p e s m args below meth c A G hr
  have q5 : 0 ≤ z 5 0 ∧ z 5 0 ≤ 10 := hR 5 0
  have q7 : 0 ≤ z 7 0 ∧ z 7 0 ≤ 50 := hR 7 0
  have q1 : 0 ≤ z 1 0 ∧ z 1 0 ≤ 24 := hR 1 0
  refine i_aload_n G dX8_print_0 rfl ?_
  refine j_getz G F_X8_217 0 rfl rfl (by decide) dX8_print_1 ?_
  have b1 : 0 ≤ z 5 0 ∧ z 5 0 ≤ 10 := hR 5 _
  refine i_bipush G dX8_print_4 (by decide) ?_
  refine i_icmp_ne (tgt := 15) G dX8_print_6 (by decide) (by omega) (by omega) (fun h6 => ?_) (fun h6 => ?_)
  · skip
    refine i_iconst G dX8_print_15 ?_
    refine i_istore_n (L' := [some (.ref (ad 40)), some (vi (0))]) G dX8_print_16 (by decide) rfl ?_
    have lp17 : ∀ (n17 : Nat) (t : Int) (z17_ : wZ), Rng z17_ → (0 ≤ t) → (t + n17 = z 1 0) → (∀ k, k ≠ 30 → z17_ k = z k) → (drwL (z 5 0) n17 t z17_ = drwL (z 5 0) (z 1 0).toNat 0 z) → JW p l e (rmL 1) s m args below meth c 2 D aC ad A shM (MQ below (cQi D aC ad shM (fun r_ z2 y2 => y2 71 0 = kcPr z ∧ (kcPr z = 0 → r_ = z 5 0 ∧ z2 = drwF z (z 7 0)) ∧ (kcPr z ≠ 0 → z2 = z) ∧ Rng z2 ∧ Rng y2 ∧ ∀ k', k' ≠ 70 → k' ≠ 71 → y2 k' = y k') A) args s 0 0 A) 0 0 (zc z17_ y) 17 [some (.ref (ad 40)), some (vi (t))] [] := by
      intro n17
      induction n17 with
      | zero => 
        intro t z17_ hRz17_ ht hn ho hF
        have e5 : z17_ 5 0 = z 5 0 := congrFun (ho 5 (by decide)) 0
        have e7 : z17_ 7 0 = z 7 0 := congrFun (ho 7 (by decide)) 0
        have e1 : z17_ 1 0 = z 1 0 := congrFun (ho 1 (by decide)) 0
        have hG : z17_ = drwL (z 5 0) (z 1 0).toNat 0 z := hF
        refine i_iload_n G dX8_print_17 rfl ?_
        refine i_aload_n G dX8_print_18 rfl ?_
        refine j_getz G F_X8_98 0 rfl rfl (by decide) dX8_print_19 ?_
        have b19 : 0 ≤ z17_ 1 0 ∧ z17_ 1 0 ≤ 24 := hRz17_ 1 _
        refine i_icmp_ge (tgt := 59) G dX8_print_22 (by decide) (by omega) (by omega) (fun h22 => ?_) (fun h22 => ?_)
        · skip
          refine i_aload_n G dX8_print_59 rfl ?_
          refine i_getr G F_X8_82 0 rfl rfl dX8_print_60 ?_
          refine i_aload_n G dX8_print_63 rfl ?_
          refine j_getz G F_X8_217 0 rfl rfl (by decide) dX8_print_64 ?_
          have b64 : 0 ≤ z17_ 5 0 ∧ z17_ 5 0 ≤ 10 := hRz17_ 5 _
          refine i_aload_n G dX8_print_67 rfl ?_
          refine j_getz G F_X8_204 0 rfl rfl (by decide) dX8_print_68 ?_
          have b68 : 0 ≤ z17_ 7 0 ∧ z17_ 7 0 ≤ 50 := hRz17_ 7 _
          refine j_iast_z G 23 rfl (by decide) (by decide) (by omega) (by omega) (by decide) hRz17_ (by show (0 : Int) ≤ _ ∧ _ ≤ (50 : Int); omega) dX8_print_71 (fun z71 ez71 hRz71 => ?_)
          have e71a : z71 5 0 = z 5 0 := by rw [ez71, zp_nk _ (by decide)]; exact e5
          refine i_aload_n G dX8_print_72 rfl ?_
          refine i_dup G rfl dX8_print_73 ?_
          refine j_getz G F_X8_217 0 rfl rfl (by decide) dX8_print_74 ?_
          have b74 : 0 ≤ z71 5 0 ∧ z71 5 0 ≤ 10 := hRz71 5 _
          refine i_iconst G dX8_print_77 ?_
          refine i_iadd G dX8_print_78 ?_
          refine j_putz G P_X8_217 0 rfl rfl (by decide) (by decide) (by decide) hRz71 (by show (0 : Int) ≤ _ ∧ _ ≤ (10 : Int); omega) dX8_print_79 (fun z79 ez79 hRz79 => ?_)
          have e79 : z79 5 0 = z 5 0 + 1 := by rw [ez79, zp_same, e71a]
          refine i_aload_n G dX8_print_82 rfl ?_
          refine i_aload_n G dX8_print_83 rfl ?_
          refine j_getz G F_X8_217 0 rfl rfl (by decide) dX8_print_84 ?_
          have b84 : 0 ≤ z79 5 0 ∧ z79 5 0 ≤ 10 := hRz79 5 _
          refine i_iconst G dX8_print_87 ?_
          refine i_isub G dX8_print_88 ?_
          refine j_callYi (q0 := 0) (As := [vi (((z79 5 0) - 1))]) (st := []) G K_X8_114 (m_tells l hd hRz79 hY ((z79 5 0) - 1) ) rfl rfl rfl (rm_ok (by decide) (by decide)) ⟨Nat.le_refl _, Nat.le_refl _⟩ (Nat.le_of_ble_eq_true rfl) dX8_print_89 (fun r89 y89 q89 => ?_)
          obtain ⟨er89, ey89, hRy89⟩ := q89
          refine j_reti G hr dX8_print_92 ?_
          have e71 : y89 71 0 = kcPr z := by rw [ey89, zp_same]; unfold kcPr; (repeat' split) <;> omega
          refine ⟨e71, fun hk => ⟨?_, ?_⟩, fun hk => (by rw [ey89, zp_same] at e71; omega), hRz79, hRy89, fun k a b => by rw [ey89, zp_nk _ b]⟩
          · omega
          · rw [ez79, e71a, ez71, e5, e7, hG]; exact drw_eq z (z 7 0)
        · skip
          exfalso; omega
      | succ n17 ih17 => 
        intro t z17_ hRz17_ ht hn ho hF
        have e5 : z17_ 5 0 = z 5 0 := congrFun (ho 5 (by decide)) 0
        have e1 : z17_ 1 0 = z 1 0 := congrFun (ho 1 (by decide)) 0
        refine i_iload_n G dX8_print_17 rfl ?_
        refine i_aload_n G dX8_print_18 rfl ?_
        refine j_getz G F_X8_98 0 rfl rfl (by decide) dX8_print_19 ?_
        have b19 : 0 ≤ z17_ 1 0 ∧ z17_ 1 0 ≤ 24 := hRz17_ 1 _
        refine i_icmp_ge (tgt := 59) G dX8_print_22 (by decide) (by omega) (by omega) (fun h22 => ?_) (fun h22 => ?_)
        · skip
          exfalso; omega
        · skip
          refine i_aload_n G dX8_print_25 rfl ?_
          refine i_getr G F_X8_79 0 rfl rfl dX8_print_26 ?_
          refine i_aload_n G dX8_print_29 rfl ?_
          refine j_getz G F_X8_217 0 rfl rfl (by decide) dX8_print_30 ?_
          have b30 : 0 ≤ z17_ 5 0 ∧ z17_ 5 0 ≤ 10 := hRz17_ 5 _
          refine i_bipush G dX8_print_33 (by decide) ?_
          refine i_imul G dX8_print_35 ?_
          refine i_iload_n G dX8_print_36 rfl ?_
          refine i_iadd G dX8_print_37 ?_
          refine i_aload_n G dX8_print_38 rfl ?_
          refine i_getr G F_X8_33 0 rfl rfl dX8_print_39 ?_
          refine i_iload_n G dX8_print_42 rfl ?_
          refine j_zald_z G 7 rfl (by decide) (by decide) (by omega) (by omega) dX8_print_43 ?_
          have b43 : 0 ≤ z17_ 16 t ∧ z17_ 16 t ≤ 1 := hRz17_ 16 _
          refine i_if_ne (tgt := 51) G dX8_print_44 (by decide) (by omega) (fun h44 => ?_) (fun h44 => ?_)
          · skip
            refine i_iconst G dX8_print_51 ?_
            refine j_zast_z G 22 rfl (by decide) (by decide) (by omega) (by omega) (by omega) (by decide) hRz17_ (by show (0 : Int) ≤ _ ∧ _ ≤ (1 : Int); omega) dX8_print_52 (fun z52 ez52 hRz52 => ?_)
            refine i_iinc (L' := [some (.ref (ad 40)), some (vi (t + 1))]) G dX8_print_53 (by decide) rfl rfl ?_
            refine i_goto (tgt := 17) G dX8_print_56 (by decide) ?_
            exact ih17 (t + 1) z52 hRz52 (by omega) (by omega) (fun k hk => by rw [ez52, zp_nk _ hk]; exact ho k hk) (by rw [← hF, drwL, ez52, show z17_ 5 0 = z 5 0 from congrFun (ho 5 (by decide)) 0]; first | rw [if_pos (by omega)] | rw [if_neg (by omega)])
          · skip
            refine i_iconst G dX8_print_47 ?_
            refine i_goto (tgt := 52) G dX8_print_48 (by decide) ?_
            refine j_zast_z G 22 rfl (by decide) (by decide) (by omega) (by omega) (by omega) (by decide) hRz17_ (by show (0 : Int) ≤ _ ∧ _ ≤ (1 : Int); omega) dX8_print_52 (fun z52 ez52 hRz52 => ?_)
            refine i_iinc (L' := [some (.ref (ad 40)), some (vi (t + 1))]) G dX8_print_53 (by decide) rfl rfl ?_
            refine i_goto (tgt := 17) G dX8_print_56 (by decide) ?_
            exact ih17 (t + 1) z52 hRz52 (by omega) (by omega) (fun k hk => by rw [ez52, zp_nk _ hk]; exact ho k hk) (by rw [← hF, drwL, ez52, show z17_ 5 0 = z 5 0 from congrFun (ho 5 (by decide)) 0]; first | rw [if_pos (by omega)] | rw [if_neg (by omega)])
    exact lp17 (z 1 0).toNat 0 z hR (by omega) (by omega) (fun _ _ => rfl) rfl
  · skip
    refine i_aload_n G dX8_print_9 rfl ?_
    refine i_iconst G dX8_print_10 ?_
    refine j_callYi (q0 := 0) (As := [vi (1)]) (st := []) G K_X8_110 (m_fails l hd hR hY 1 (by first | assumption | omega)) rfl rfl rfl (rm_ok (by decide) (by decide)) ⟨Nat.le_refl _, Nat.le_refl _⟩ (Nat.le_of_ble_eq_true rfl) dX8_print_11 (fun r11 y11 q11 => ?_)
    obtain ⟨er11, ey11, hRy11⟩ := q11
    refine j_reti G hr dX8_print_14 ?_
    have e71 : y11 71 0 = kcPr z := by rw [ey11, zp_same]; unfold kcPr; (repeat' split) <;> omega
    refine ⟨e71, fun hk => ?_, fun _ => rfl, hR, hRy11, fun k a b => by rw [ey11, zp_nk _ b]⟩
    exfalso
    rw [ey11, zp_same] at e71
    omega
