/-! the model's boards -/
section MBD
theorem zp_comm (z : wZ) {k k' : Nat} (h : k ≠ k') (a a' x x' : Int) : zp (zp z k a x) k' a' x' = zp (zp z k' a' x') k a x := by
  funext q c
  unfold zp
  by_cases h1 : q = k'
  · by_cases h2 : q = k
    · omega
    · simp [h1, Ne.symm h]
  · simp [h1]
theorem nxtL_zc {z w : wZ} (h11 : w 11 = z 11) (h12 : w 12 = z 12) (h13 : w 13 = z 13) (h14 : w 14 = z 14) (h16 : w 16 = z 16) (D : Int → Int → Int) (a b : Int) : ∀ (n : Nat) (t : Int), nxtL w D a b n t = nxtL z D a b n t
  | 0, _ => rfl
  | n + 1, t => by
    unfold nxtL ofm oth
    rw [h11, h12, h13, h14, h16, nxtL_zc h11 h12 h13 h14 h16 D a b n]
theorem nxt_zc {z w : wZ} (h : ∀ k, k = 1 ∨ k = 11 ∨ k = 12 ∨ k = 13 ∨ k = 14 ∨ k = 16 → w k = z k) (a b : Int) : nxt w a b = nxt z a b := by
  have e : ds w 16 = ds z 16 := ds_congr (h 1 (by decide)) (h 11 (by decide)) (h 12 (by decide)) (h 13 (by decide)) (h 14 (by decide)) (h 16 (by decide))
  unfold nxt nxtF
  rw [e, h 1 (by decide), nxtL_zc (h 11 (by decide)) (h 12 (by decide)) (h 13 (by decide)) (h 14 (by decide)) (h 16 (by decide))]
theorem ds_zc {z w : wZ} {g : Nat} (hg : g = 15 ∨ g = 16) (h : ∀ k, k = 1 ∨ k = 11 ∨ k = 12 ∨ k = 13 ∨ k = 14 ∨ k = 15 ∨ k = 16 → w k = z k) : ds w g = ds z g :=
  ds_congr (h 1 (by decide)) (h 11 (by decide)) (h 12 (by decide)) (h 13 (by decide)) (h 14 (by decide)) (h g (by omega))
/-- what the model puts up at b -/
noncomputable def mcF (z : wZ) (b f q : Int) : wZ := puF (zp (zp z 17 b f) 18 b q) b
theorem mcF_eq (z : wZ) (b f q : Int) : mcF z b f q = zp (zp (zp (zp (zp (zp z 17 b f) 18 b q) 20 b (r5F (ds z 16 f q))) 19 b (nxt z f q)) 21 b 0) 6 0 (z 6 0 - 1) := by
  have e : ∀ k, k ≠ 17 → k ≠ 18 → (zp (zp z 17 b f) 18 b q) k = z k := fun k a c => by rw [zp_nk _ c, zp_nk _ a]
  have e17 : (zp (zp z 17 b f) 18 b q) 17 b = f := by rw [zp_nk _ (by decide), zp_same]
  have e18 : (zp (zp z 17 b f) 18 b q) 18 b = q := by rw [zp_same]
  unfold mcF puF
  rw [e17, e18, e 6 (by decide) (by decide), nxt_zc (z := z) (fun k hk => e k (by omega) (by omega)), ds_zc (z := z) (by decide) (fun k hk => e k (by omega) (by omega)), zp_comm _ (by decide : (19 : Nat) ≠ 20)]
theorem mcF_id (z : wZ) (b : Int) : mcF z b (z 17 b) (z 18 b) = puF z b := by
  unfold mcF
  rw [zp_id, zp_id]
theorem mcF_cu (z : wZ) (f q : Int) : zp (mcF z (z 2 0) f q) 2 0 (z 2 0 + 1) = cuF z f q := by
  have e : ∀ k, k ≠ 2 ∧ k ≠ 17 ∧ k ≠ 18 → cwF z f q k = z k := fun k h => cwF_k z f q h
  unfold cuF puF
  rw [cwF_17, cwF_18, e 6 (by decide), nxt_zc (z := z) (fun k hk => e k (by omega)), cwF_ds z f q 16 (by decide), mcF_eq]
  unfold cwF
  rw [zp_comm _ (by decide : (6 : Nat) ≠ 2), zp_comm _ (by decide : (21 : Nat) ≠ 2), zp_comm _ (by decide : (19 : Nat) ≠ 2), zp_comm _ (by decide : (20 : Nat) ≠ 2), zp_comm _ (by decide : (18 : Nat) ≠ 2), zp_comm _ (by decide : (17 : Nat) ≠ 2), zp_comm _ (by decide : (20 : Nat) ≠ 19)]
end MBD

set_option maxHeartbeats 4000000 in
set_option maxRecDepth 100000 in
theorem m_way_0 (l : Launch) {D : va_G} {aC : Nat → ClassId} {ad : Nat → Nat} (hd : wDi ad shM) {z y : wZ} (hR : Rng z) (hY : Rng y) (a : Int) (b : Int) (hW : WT z) (ha : 0 ≤ a ∧ a < z 0 0) (hb : 0 ≤ b ∧ b < z 0 0) : cYi l D aC ad shM yX8_way cX8_way 4 (.int) (rmL 2) [.ref (ad 40), vi a, vi b, vi 0] z y (fun r_ y2 => r_ = ds z 16 a b ∧ (0 ≤ r_ ∧ r_ ≤ 1000000) ∧ Rng y2 ∧ ∀ k', k' ≠ 70 → y2 k' = y k') := by
  refine c_i [some (.ref (ad 40)), some (vi (a)), some (vi (b)), some (vi (0))] (by decide +kernel) rfl (Nat.le_of_ble_eq_true rfl) rfl hd ?_
  intro p e s m args below meth c A G hr
  have q0 : 0 ≤ z 0 0 ∧ z 0 0 ≤ 16 := hR 0 0
  refine i_aload_n G dX8_way_0 rfl ?_
  refine i_iload_n G dX8_way_1 rfl ?_
  refine i_iload_n G dX8_way_2 rfl ?_
  refine j_callYv (q0 := 0) (As := [vi (b), vi (0)]) (st := []) G K_X8_133 (m_reckons_0 l hd hR hY b (by first | assumption | omega) (by first | assumption | omega)) rfl rfl rfl (rm_ok (by decide) (by decide)) ⟨Nat.le_refl _, Nat.le_refl _⟩ (Nat.le_of_ble_eq_true rfl) dX8_way_3 (fun y3 q3 => ?_)
  obtain ⟨hRy3, ho3, hf3⟩ := q3
  refine i_aload_n G dX8_way_6 rfl ?_
  refine i_getr G F_X8_85 0 rfl rfl dX8_way_7 ?_
  refine i_iload_n G dX8_way_10 rfl ?_
  refine j_iald_y G 24 rfl (by decide) (by decide) (by omega) (by omega) dX8_way_11 ?_
  have b11 : 0 ≤ y3 70 a ∧ y3 70 a ≤ 1000000 := hRy3 70 _
  refine j_reti G hr dX8_way_12 ?_
  refine ⟨rfl, ?_⟩
  have e9 := hf3 a ha.1 ha.2
  exact ⟨e9, by omega, hRy3, ho3⟩
set_option maxHeartbeats 4000000 in
set_option maxRecDepth 100000 in
theorem m_way_1 (l : Launch) {D : va_G} {aC : Nat → ClassId} {ad : Nat → Nat} (hd : wDi ad shM) {z y : wZ} (hR : Rng z) (hY : Rng y) (a : Int) (b : Int) (hW : WT z) (ha : 0 ≤ a ∧ a < z 0 0) (hb : 0 ≤ b ∧ b < z 0 0) : cYi l D aC ad shM yX8_way cX8_way 4 (.int) (rmL 2) [.ref (ad 40), vi a, vi b, vi 1] z y (fun r_ y2 => r_ = ds z 15 a b ∧ (0 ≤ r_ ∧ r_ ≤ 1000000) ∧ Rng y2 ∧ ∀ k', k' ≠ 70 → y2 k' = y k') := by
  refine c_i [some (.ref (ad 40)), some (vi (a)), some (vi (b)), some (vi (1))] (by decide +kernel) rfl (Nat.le_of_ble_eq_true rfl) rfl hd ?_
  intro p e s m args below meth c A G hr
  have q0 : 0 ≤ z 0 0 ∧ z 0 0 ≤ 16 := hR 0 0
  refine i_aload_n G dX8_way_0 rfl ?_
  refine i_iload_n G dX8_way_1 rfl ?_
  refine i_iload_n G dX8_way_2 rfl ?_
  refine j_callYv (q0 := 0) (As := [vi (b), vi (1)]) (st := []) G K_X8_133 (m_reckons_1 l hd hR hY b (by first | assumption | omega) (by first | assumption | omega)) rfl rfl rfl (rm_ok (by decide) (by decide)) ⟨Nat.le_refl _, Nat.le_refl _⟩ (Nat.le_of_ble_eq_true rfl) dX8_way_3 (fun y3 q3 => ?_)
  obtain ⟨hRy3, ho3, hf3⟩ := q3
  refine i_aload_n G dX8_way_6 rfl ?_
  refine i_getr G F_X8_85 0 rfl rfl dX8_way_7 ?_
  refine i_iload_n G dX8_way_10 rfl ?_
  refine j_iald_y G 24 rfl (by decide) (by decide) (by omega) (by omega) dX8_way_11 ?_
  have b11 : 0 ≤ y3 70 a ∧ y3 70 a ≤ 1000000 := hRy3 70 _
  refine j_reti G hr dX8_way_12 ?_
  refine ⟨rfl, ?_⟩
  have e9 := hf3 a ha.1 ha.2
  exact ⟨e9, by omega, hRy3, ho3⟩
set_option maxHeartbeats 4000000 in
set_option maxRecDepth 100000 in
theorem m_next (l : Launch) {D : va_G} {aC : Nat → ClassId} {ad : Nat → Nat} (hd : wDi ad shM) {z y : wZ} (hR : Rng z) (hY : Rng y) (a : Int) (b : Int) (hW : WT z) (ha : 0 ≤ a ∧ a < z 0 0) (hb : 0 ≤ b ∧ b < z 0 0) : cYi l D aC ad shM yX8_next cX8_next 4 (.int) (rmL 2) [.ref (ad 40), vi a, vi b] z y (fun r_ y2 => r_ = nxt z a b ∧ (-1 ≤ r_ ∧ r_ < z 1 0) ∧ Rng y2 ∧ ∀ k', k' ≠ 70 → y2 k' = y k') := by
  refine c_i [some (.ref (ad 40)), some (vi (a)), some (vi (b)), none] (by decide +kernel) rfl (Nat.le_of_ble_eq_true rfl) rfl hd ?_
  intro p e s m args below meth c A G hr
  have q0 : 0 ≤ z 0 0 ∧ z 0 0 ≤ 16 := hR 0 0
  have q1 : 0 ≤ z 1 0 ∧ z 1 0 ≤ 24 := hR 1 0
  have hb9 : -1 ≤ nxt z a b ∧ nxt z a b < z 1 0 := nxtF_in hR (ds z 16) a b
  refine i_aload_n G dX8_next_0 rfl ?_
  refine i_iload_n G dX8_next_1 rfl ?_
  refine i_iconst G dX8_next_2 ?_
  refine j_callYv (q0 := 0) (As := [vi (b), vi (0)]) (st := []) G K_X8_133 (m_reckons_0 l hd hR hY b (by first | assumption | omega) (by first | assumption | omega)) rfl rfl rfl (rm_ok (by decide) (by decide)) ⟨Nat.le_refl _, Nat.le_refl _⟩ (Nat.le_of_ble_eq_true rfl) dX8_next_3 (fun y3 q3 => ?_)
  obtain ⟨hRy3, ho3, hf3⟩ := q3
  have ea := hf3 a ha.1 ha.2
  refine i_iload_n G dX8_next_6 rfl ?_
  refine i_iload_n G dX8_next_7 rfl ?_
  refine i_icmp_eq (tgt := 22) G dX8_next_8 (by decide) (by omega) (by omega) (fun h8 => ?_) (fun h8 => ?_)
  · skip
    refine i_iconst G dX8_next_22 ?_
    refine j_reti G hr dX8_next_23 ?_
    refine ⟨rfl, ?_⟩
    have e9 : (-1 : Int) = nxt z a b := by unfold nxt nxtF; rw [if_pos (by omega)]
    exact ⟨e9, by omega, hRy3, ho3⟩
  · skip
    refine i_aload_n G dX8_next_11 rfl ?_
    refine i_getr G F_X8_85 0 rfl rfl dX8_next_12 ?_
    refine i_iload_n G dX8_next_15 rfl ?_
    refine j_iald_y G 24 rfl (by decide) (by decide) (by omega) (by omega) dX8_next_16 ?_
    have b16 : 0 ≤ y3 70 a ∧ y3 70 a ≤ 1000000 := hRy3 70 _
    refine i_ldc G 1000000 kc_X8_128 dX8_next_17 ?_
    refine i_icmp_lt (tgt := 24) G dX8_next_19 (by decide) (by omega) (by omega) (fun h19 => ?_) (fun h19 => ?_)
    · skip
      refine i_iconst G dX8_next_24 ?_
      refine i_istore_n (L' := [some (.ref (ad 40)), some (vi (a)), some (vi (b)), some (vi (0))]) G dX8_next_25 (by decide) rfl ?_
      have lp26 : ∀ (n26 : Nat) (t : Int), (0 ≤ t) → (t + n26 = z 1 0) → (nxtL z (ds z 16) a b n26 t = nxtL z (ds z 16) a b (z 1 0).toNat 0) → JW p l e (rmL 2) s m args below meth c 4 D aC ad A shM (MQ below (cQi D aC ad shM (fun r_ z_ y_ => z_ = z ∧ (fun r_ y2 => r_ = nxt z a b ∧ (-1 ≤ r_ ∧ r_ < z 1 0) ∧ Rng y2 ∧ ∀ k', k' ≠ 70 → y2 k' = y k') r_ y_) A) args s 0 0 A) 0 0 (zc z y3) 26 [some (.ref (ad 40)), some (vi (a)), some (vi (b)), some (vi (t))] [] := by
        intro n26
        induction n26 with
        | zero => 
          intro t ht hn hF
          refine i_iload_n G dX8_next_26 rfl ?_
          refine i_aload_n G dX8_next_27 rfl ?_
          refine j_getz G F_X8_98 0 rfl rfl (by decide) dX8_next_28 ?_
          have b28 : 0 ≤ z 1 0 ∧ z 1 0 ≤ 24 := hR 1 _
          refine i_icmp_ge (tgt := 101) G dX8_next_31 (by decide) (by omega) (by omega) (fun h31 => ?_) (fun h31 => ?_)
          · skip
            refine i_iconst G dX8_next_101 ?_
            refine j_reti G hr dX8_next_102 ?_
            refine ⟨rfl, ?_⟩
            have e9 : (-1 : Int) = nxt z a b := by unfold nxt nxtF; rw [if_neg (by omega), ← hF]; rfl
            exact ⟨e9, by omega, hRy3, ho3⟩
          · skip
            exfalso; omega
        | succ n26 ih26 => 
          intro t ht hn hF
          refine i_iload_n G dX8_next_26 rfl ?_
          refine i_aload_n G dX8_next_27 rfl ?_
          refine j_getz G F_X8_98 0 rfl rfl (by decide) dX8_next_28 ?_
          have b28 : 0 ≤ z 1 0 ∧ z 1 0 ≤ 24 := hR 1 _
          refine i_icmp_ge (tgt := 101) G dX8_next_31 (by decide) (by omega) (by omega) (fun h31 => ?_) (fun h31 => ?_)
          · skip
            exfalso; omega
          · skip
            have hot := oth_fk hW (a := a) ht (by omega)
            have eo := hf3 _ hot.1 hot.2
            refine i_aload_n G dX8_next_34 rfl ?_
            refine i_getr G F_X8_33 0 rfl rfl dX8_next_35 ?_
            refine i_iload_n G dX8_next_38 rfl ?_
            refine j_zald_z G 7 rfl (by decide) (by decide) (by omega) (by omega) dX8_next_39 ?_
            have b39 : 0 ≤ z 16 t ∧ z 16 t ≤ 1 := hR 16 _
            refine i_if_ne (tgt := 95) G dX8_next_40 (by decide) (by omega) (fun h40 => ?_) (fun h40 => ?_)
            · skip
              refine i_iinc (L' := [some (.ref (ad 40)), some (vi (a)), some (vi (b)), some (vi (t + 1))]) G dX8_next_95 (by decide) rfl rfl ?_
              refine i_goto (tgt := 26) G dX8_next_98 (by decide) ?_
              exact ih26 (t + 1) (by omega) (by omega) (by rw [← hF, nxtL, if_neg (by omega)])
            · skip
              refine i_aload_n G dX8_next_43 rfl ?_
              refine i_getr G F_X8_17 0 rfl rfl dX8_next_44 ?_
              refine i_iload_n G dX8_next_47 rfl ?_
              refine j_iald_z G 2 rfl (by decide) (by decide) (by omega) (by omega) dX8_next_48 ?_
              have b48 : 0 ≤ z 11 t ∧ z 11 t ≤ 15 := hR 11 _
              refine i_iload_n G dX8_next_49 rfl ?_
              refine i_icmp_eq (tgt := 66) G dX8_next_50 (by decide) (by omega) (by omega) (fun h50 => ?_) (fun h50 => ?_)
              · skip
                refine i_aload_n G dX8_next_66 rfl ?_
                refine i_iload_n G dX8_next_67 rfl ?_
                refine i_iload_n G dX8_next_68 rfl ?_
                refine j_callE (q0 := 0) (As := [vi (t), vi (a)]) (st := []) G K_X8_137 (m_of l hd hR hRy3 t a (by first | assumption | omega) (by first | assumption | omega)) rfl rfl rfl (rm_ok (by decide) (by decide)) ⟨Nat.le_refl _, Nat.le_refl _⟩ (Nat.le_of_ble_eq_true rfl) dX8_next_69 ?_
                have b69 : 0 ≤ (ofm z t a) ∧ (ofm z t a) ≤ 300 := ofm_in hR _ _
                refine i_aload_n G dX8_next_72 rfl ?_
                refine i_getr G F_X8_85 0 rfl rfl dX8_next_73 ?_
                refine i_aload_n G dX8_next_76 rfl ?_
                refine i_iload_n G dX8_next_77 rfl ?_
                refine i_iload_n G dX8_next_78 rfl ?_
                refine j_callE (q0 := 0) (As := [vi (t), vi (a)]) (st := [.ref (ad 64), vi ((ofm z t a))]) G K_X8_140 (m_other l hd hR hRy3 t a (by first | assumption | omega) (by first | assumption | omega)) rfl rfl rfl (rm_ok (by decide) (by decide)) ⟨Nat.le_refl _, Nat.le_refl _⟩ (Nat.le_of_ble_eq_true rfl) dX8_next_79 ?_
                have b79 : 0 ≤ (oth z t a) ∧ (oth z t a) ≤ 15 := oth_in hR _ _
                refine j_iald_y G 24 rfl (by decide) (by decide) (by omega) (by omega) dX8_next_82 ?_
                have b82 : 0 ≤ y3 70 (oth z t a) ∧ y3 70 (oth z t a) ≤ 1000000 := hRy3 70 _
                refine i_iadd G dX8_next_83 ?_
                refine i_aload_n G dX8_next_84 rfl ?_
                refine i_getr G F_X8_85 0 rfl rfl dX8_next_85 ?_
                refine i_iload_n G dX8_next_88 rfl ?_
                refine j_iald_y G 24 rfl (by decide) (by decide) (by omega) (by omega) dX8_next_89 ?_
                have b89 : 0 ≤ y3 70 a ∧ y3 70 a ≤ 1000000 := hRy3 70 _
                refine i_icmp_ne (tgt := 95) G dX8_next_90 (by decide) (by omega) (by omega) (fun h90 => ?_) (fun h90 => ?_)
                · skip
                  refine i_iinc (L' := [some (.ref (ad 40)), some (vi (a)), some (vi (b)), some (vi (t + 1))]) G dX8_next_95 (by decide) rfl rfl ?_
                  refine i_goto (tgt := 26) G dX8_next_98 (by decide) ?_
                  exact ih26 (t + 1) (by omega) (by omega) (by rw [← hF, nxtL, if_neg (by omega)])
                · skip
                  refine i_iload_n G dX8_next_93 rfl ?_
                  refine j_reti G hr dX8_next_94 ?_
                  refine ⟨rfl, ?_⟩
                  have e9 : t = nxt z a b := by unfold nxt nxtF; rw [if_neg (by omega), ← hF, nxtL, if_pos (by omega)]
                  exact ⟨e9, by omega, hRy3, ho3⟩
              · skip
                refine i_aload_n G dX8_next_53 rfl ?_
                refine i_getr G F_X8_21 0 rfl rfl dX8_next_54 ?_
                refine i_iload_n G dX8_next_57 rfl ?_
                refine j_iald_z G 3 rfl (by decide) (by decide) (by omega) (by omega) dX8_next_58 ?_
                have b58 : 0 ≤ z 12 t ∧ z 12 t ≤ 15 := hR 12 _
                refine i_iload_n G dX8_next_59 rfl ?_
                refine i_icmp_eq (tgt := 66) G dX8_next_60 (by decide) (by omega) (by omega) (fun h60 => ?_) (fun h60 => ?_)
                · skip
                  refine i_aload_n G dX8_next_66 rfl ?_
                  refine i_iload_n G dX8_next_67 rfl ?_
                  refine i_iload_n G dX8_next_68 rfl ?_
                  refine j_callE (q0 := 0) (As := [vi (t), vi (a)]) (st := []) G K_X8_137 (m_of l hd hR hRy3 t a (by first | assumption | omega) (by first | assumption | omega)) rfl rfl rfl (rm_ok (by decide) (by decide)) ⟨Nat.le_refl _, Nat.le_refl _⟩ (Nat.le_of_ble_eq_true rfl) dX8_next_69 ?_
                  have b69 : 0 ≤ (ofm z t a) ∧ (ofm z t a) ≤ 300 := ofm_in hR _ _
                  refine i_aload_n G dX8_next_72 rfl ?_
                  refine i_getr G F_X8_85 0 rfl rfl dX8_next_73 ?_
                  refine i_aload_n G dX8_next_76 rfl ?_
                  refine i_iload_n G dX8_next_77 rfl ?_
                  refine i_iload_n G dX8_next_78 rfl ?_
                  refine j_callE (q0 := 0) (As := [vi (t), vi (a)]) (st := [.ref (ad 64), vi ((ofm z t a))]) G K_X8_140 (m_other l hd hR hRy3 t a (by first | assumption | omega) (by first | assumption | omega)) rfl rfl rfl (rm_ok (by decide) (by decide)) ⟨Nat.le_refl _, Nat.le_refl _⟩ (Nat.le_of_ble_eq_true rfl) dX8_next_79 ?_
                  have b79 : 0 ≤ (oth z t a) ∧ (oth z t a) ≤ 15 := oth_in hR _ _
                  refine j_iald_y G 24 rfl (by decide) (by decide) (by omega) (by omega) dX8_next_82 ?_
                  have b82 : 0 ≤ y3 70 (oth z t a) ∧ y3 70 (oth z t a) ≤ 1000000 := hRy3 70 _
                  refine i_iadd G dX8_next_83 ?_
                  refine i_aload_n G dX8_next_84 rfl ?_
                  refine i_getr G F_X8_85 0 rfl rfl dX8_next_85 ?_
                  refine i_iload_n G dX8_next_88 rfl ?_
                  refine j_iald_y G 24 rfl (by decide) (by decide) (by omega) (by omega) dX8_next_89 ?_
                  have b89 : 0 ≤ y3 70 a ∧ y3 70 a ≤ 1000000 := hRy3 70 _
                  refine i_icmp_ne (tgt := 95) G dX8_next_90 (by decide) (by omega) (by omega) (fun h90 => ?_) (fun h90 => ?_)
                  · skip
                    refine i_iinc (L' := [some (.ref (ad 40)), some (vi (a)), some (vi (b)), some (vi (t + 1))]) G dX8_next_95 (by decide) rfl rfl ?_
                    refine i_goto (tgt := 26) G dX8_next_98 (by decide) ?_
                    exact ih26 (t + 1) (by omega) (by omega) (by rw [← hF, nxtL, if_neg (by omega)])
                  · skip
                    refine i_iload_n G dX8_next_93 rfl ?_
                    refine j_reti G hr dX8_next_94 ?_
                    refine ⟨rfl, ?_⟩
                    have e9 : t = nxt z a b := by unfold nxt nxtF; rw [if_neg (by omega), ← hF, nxtL, if_pos (by omega)]
                    exact ⟨e9, by omega, hRy3, ho3⟩
                · skip
                  refine i_goto (tgt := 95) G dX8_next_63 (by decide) ?_
                  refine i_iinc (L' := [some (.ref (ad 40)), some (vi (a)), some (vi (b)), some (vi (t + 1))]) G dX8_next_95 (by decide) rfl rfl ?_
                  refine i_goto (tgt := 26) G dX8_next_98 (by decide) ?_
                  exact ih26 (t + 1) (by omega) (by omega) (by rw [← hF, nxtL, if_neg (by omega)])
      exact lp26 (z 1 0).toNat 0 (by omega) (by omega) rfl
    · skip
      refine i_iconst G dX8_next_22 ?_
      refine j_reti G hr dX8_next_23 ?_
      refine ⟨rfl, ?_⟩
      have e9 : (-1 : Int) = nxt z a b := by unfold nxt nxtF; rw [if_pos (by omega)]
      exact ⟨e9, by omega, hRy3, ho3⟩
set_option maxHeartbeats 4000000 in
set_option maxRecDepth 100000 in
theorem m_canBeCut (l : Launch) {D : va_G} {aC : Nat → ClassId} {ad : Nat → Nat} (hd : wDi ad shM) {z y : wZ} (hR : Rng z) (hY : Rng y) (a : Int) (b : Int) (hW : WT z) (ha : 0 ≤ a ∧ a < z 0 0) (hb : 0 ≤ b ∧ b < z 0 0) : cYi l D aC ad shM yX8_canBeCut cX8_canBeCut 3 (.boolean) (rmL 3) [.ref (ad 40), vi a, vi b] z y (fun r_ y2 => ((r_ = 1 ∧ ds z 16 a b ≤ 300) ∨ (r_ = 0 ∧ ¬ ds z 16 a b ≤ 300)) ∧ Rng y2 ∧ ∀ k', k' ≠ 70 → y2 k' = y k') := by
  refine c_i [some (.ref (ad 40)), some (vi (a)), some (vi (b))] (by decide +kernel) rfl (Nat.le_of_ble_eq_true rfl) rfl hd ?_
  intro p e s m args below meth c A G hr
  refine i_aload_n G dX8_canBeCut_0 rfl ?_
  refine i_iload_n G dX8_canBeCut_1 rfl ?_
  refine i_iload_n G dX8_canBeCut_2 rfl ?_
  refine i_iconst G dX8_canBeCut_3 ?_
  refine j_callYi (q0 := 0) (As := [vi (a), vi (b), vi (0)]) (st := []) G K_X8_143 (m_way_0 l hd hR hY a b (by first | assumption | omega) (by first | assumption | omega) (by first | assumption | omega)) rfl rfl rfl (rm_ok (by decide) (by decide)) ⟨Nat.le_refl _, Nat.le_refl _⟩ (Nat.le_of_ble_eq_true rfl) dX8_canBeCut_4 (fun r4 y4 q4 => ?_)
  obtain ⟨er4, br4, hRy4, ho4⟩ := q4
  refine i_sipush G dX8_canBeCut_7 (by decide) ?_
  refine i_icmp_gt (tgt := 17) G dX8_canBeCut_10 (by decide) (by omega) (by omega) (fun h10 => ?_) (fun h10 => ?_)
  · skip
    refine i_iconst G dX8_canBeCut_17 ?_
    refine j_retz G hr (by omega) dX8_canBeCut_18 ?_
    refine ⟨rfl, ?_⟩
    exact ⟨by omega, hRy4, ho4⟩
  · skip
    refine i_iconst G dX8_canBeCut_13 ?_
    refine i_goto (tgt := 18) G dX8_canBeCut_14 (by decide) ?_
    refine j_retz G hr (by omega) dX8_canBeCut_18 ?_
    refine ⟨rfl, ?_⟩
    exact ⟨by omega, hRy4, ho4⟩
set_option maxHeartbeats 4000000 in
set_option maxRecDepth 100000 in
theorem m_dangerOf_0 (l : Launch) {D : va_G} {aC : Nat → ClassId} {ad : Nat → Nat} (hd : wDi ad shM) {z y : wZ} (hR : Rng z) (hY : Rng y) (b : Int) (hF : WF z) (hb : 0 ≤ b ∧ b < z 2 0) : cYi l D aC ad shM yX8_dangerOf cX8_dangerOf 6 (.int) (rmL 3) [.ref (ad 40), vi b, vi 0] z y (fun r_ y2 => r_ = dgC z 16 (ds z 16) b ∧ (0 ≤ r_ ∧ r_ ≤ 1000) ∧ Rng y2 ∧ ∀ k', k' ≠ 70 → y2 k' = y k') := by
  refine c_i [some (.ref (ad 40)), some (vi (b)), some (vi (0)), none, none, none] (by decide +kernel) rfl (Nat.le_of_ble_eq_true rfl) rfl hd ?_
  intro p e s m args below meth c A G hr
  have q0 : 0 ≤ z 0 0 ∧ z 0 0 ≤ 16 := hR 0 0
  have q1 : 0 ≤ z 1 0 ∧ z 1 0 ≤ 24 := hR 1 0
  have q2 : 0 ≤ z 2 0 ∧ z 2 0 ≤ 30 := hR 2 0
  have hW := hF.1
  have hwb := hF.2.1 b hb.1 hb.2
  have q19 : 0 ≤ z 19 b ∧ z 19 b ≤ 23 := hR 19 b
  have q17 : 0 ≤ z 17 b ∧ z 17 b ≤ 15 := hR 17 b
  have q18 : 0 ≤ z 18 b ∧ z 18 b ≤ 15 := hR 18 b
  have hof9 := ofm_in hR (z 19 b) (z 17 b)
  have hot := oth_fk hW (a := z 17 b) q19.1 hwb.2.2.2.1
  have h48 := ds_4800 hW hR 16 (oth z (z 19 b) (z 17 b)) (z 18 b)
  refine i_aload_n G dX8_dangerOf_0 rfl ?_
  refine i_getr G F_X8_42 0 rfl rfl dX8_dangerOf_1 ?_
  refine i_iload_n G dX8_dangerOf_4 rfl ?_
  refine j_iald_z G 10 rfl (by decide) (by decide) (by omega) (by omega) dX8_dangerOf_5 ?_
  have b5 : 0 ≤ z 19 b ∧ z 19 b ≤ 23 := hR 19 _
  refine i_istore_n (L' := [some (.ref (ad 40)), some (vi (b)), some (vi (0)), some (vi ((z 19 b))), none, none]) G dX8_dangerOf_6 (by decide) rfl ?_
  refine i_aload_n G dX8_dangerOf_7 rfl ?_
  refine i_iload_n G dX8_dangerOf_8 rfl ?_
  refine i_iload_n G dX8_dangerOf_9 rfl ?_
  refine j_callE (q0 := 0) (As := [vi ((z 19 b)), vi (0)]) (st := []) G K_X8_124 (m_isShut_0 l hd hR hY (z 19 b) (by first | assumption | omega)) rfl rfl rfl (rm_ok (by decide) (by decide)) ⟨Nat.le_refl _, Nat.le_refl _⟩ (Nat.le_of_ble_eq_true rfl) dX8_dangerOf_10 ?_
  have b10 : 0 ≤ (z 16 (z 19 b)) ∧ (z 16 (z 19 b)) ≤ 1 := hR 16 _
  refine i_if_eq (tgt := 20) G dX8_dangerOf_13 (by decide) (by omega) (fun h13 => ?_) (fun h13 => ?_)
  · skip
    refine i_aload_n G dX8_dangerOf_20 rfl ?_
    refine i_aload_n G dX8_dangerOf_21 rfl ?_
    refine i_iload_n G dX8_dangerOf_22 rfl ?_
    refine i_aload_n G dX8_dangerOf_23 rfl ?_
    refine i_getr G F_X8_36 0 rfl rfl dX8_dangerOf_24 ?_
    refine i_iload_n G dX8_dangerOf_27 rfl ?_
    refine j_iald_z G 8 rfl (by decide) (by decide) (by omega) (by omega) dX8_dangerOf_28 ?_
    have b28 : 0 ≤ z 17 b ∧ z 17 b ≤ 15 := hR 17 _
    refine j_callE (q0 := 0) (As := [vi ((z 19 b)), vi ((z 17 b))]) (st := [.ref (ad 40)]) G K_X8_140 (m_other l hd hR hY (z 19 b) (z 17 b) (by first | assumption | omega) (by first | assumption | omega)) rfl rfl rfl (rm_ok (by decide) (by decide)) ⟨Nat.le_refl _, Nat.le_refl _⟩ (Nat.le_of_ble_eq_true rfl) dX8_dangerOf_29 ?_
    have b29 : 0 ≤ (oth z (z 19 b) (z 17 b)) ∧ (oth z (z 19 b) (z 17 b)) ≤ 15 := oth_in hR _ _
    refine i_aload_n G dX8_dangerOf_32 rfl ?_
    refine i_getr G F_X8_39 0 rfl rfl dX8_dangerOf_33 ?_
    refine i_iload_n G dX8_dangerOf_36 rfl ?_
    refine j_iald_z G 9 rfl (by decide) (by decide) (by omega) (by omega) dX8_dangerOf_37 ?_
    have b37 : 0 ≤ z 18 b ∧ z 18 b ≤ 15 := hR 18 _
    refine i_iload_n G dX8_dangerOf_38 rfl ?_
    refine j_callYi (q0 := 0) (As := [vi ((oth z (z 19 b) (z 17 b))), vi ((z 18 b)), vi (0)]) (st := []) G K_X8_143 (m_way_0 l hd hR hY (oth z (z 19 b) (z 17 b)) (z 18 b) (by first | assumption | omega) (by first | assumption | omega) (by first | assumption | omega)) rfl rfl rfl (rm_ok (by decide) (by decide)) ⟨Nat.le_refl _, Nat.le_refl _⟩ (Nat.le_of_ble_eq_true rfl) dX8_dangerOf_39 (fun r39 y39 q39 => ?_)
    obtain ⟨er39, br39, hRy39, ho39⟩ := q39
    refine i_istore (L' := [some (.ref (ad 40)), some (vi (b)), some (vi (0)), some (vi ((z 19 b))), some (vi (r39)), none]) G dX8_dangerOf_42 (by decide) rfl ?_
    refine i_iload G dX8_dangerOf_44 rfl ?_
    refine i_ldc G 1000000 kc_X8_128 dX8_dangerOf_46 ?_
    refine i_icmp_lt (tgt := 55) G dX8_dangerOf_48 (by decide) (by omega) (by omega) (fun h48 => ?_) (fun h48 => ?_)
    · skip
      refine i_aload_n G dX8_dangerOf_55 rfl ?_
      refine i_iload_n G dX8_dangerOf_56 rfl ?_
      refine i_aload_n G dX8_dangerOf_57 rfl ?_
      refine i_getr G F_X8_36 0 rfl rfl dX8_dangerOf_58 ?_
      refine i_iload_n G dX8_dangerOf_61 rfl ?_
      refine j_iald_z G 8 rfl (by decide) (by decide) (by omega) (by omega) dX8_dangerOf_62 ?_
      have b62 : 0 ≤ z 17 b ∧ z 17 b ≤ 15 := hR 17 _
      refine j_callE (q0 := 0) (As := [vi ((z 19 b)), vi ((z 17 b))]) (st := []) G K_X8_137 (m_of l hd hR hRy39 (z 19 b) (z 17 b) (by first | assumption | omega) (by first | assumption | omega)) rfl rfl rfl (rm_ok (by decide) (by decide)) ⟨Nat.le_refl _, Nat.le_refl _⟩ (Nat.le_of_ble_eq_true rfl) dX8_dangerOf_63 ?_
      have b63 : 0 ≤ (ofm z (z 19 b) (z 17 b)) ∧ (ofm z (z 19 b) (z 17 b)) ≤ 300 := ofm_in hR _ _
      refine i_iload G dX8_dangerOf_66 rfl ?_
      refine i_iadd G dX8_dangerOf_68 ?_
      refine i_aload_n G dX8_dangerOf_69 rfl ?_
      refine i_getr G F_X8_45 0 rfl rfl dX8_dangerOf_70 ?_
      refine i_iload_n G dX8_dangerOf_73 rfl ?_
      refine j_iald_z G 11 rfl (by decide) (by decide) (by omega) (by omega) dX8_dangerOf_74 ?_
      have b74 : 0 ≤ z 20 b ∧ z 20 b ≤ 300 := hR 20 _
      refine i_isub G dX8_dangerOf_75 ?_
      refine i_istore (L' := [some (.ref (ad 40)), some (vi (b)), some (vi (0)), some (vi ((z 19 b))), some (vi (r39)), some (vi ((((ofm z (z 19 b) (z 17 b)) + r39) - (z 20 b))))]) G dX8_dangerOf_76 (by decide) rfl ?_
      refine i_iload G dX8_dangerOf_78 rfl ?_
      refine i_bipush G dX8_dangerOf_80 (by decide) ?_
      refine i_icmp_ge (tgt := 89) G dX8_dangerOf_82 (by decide) (by omega) (by omega) (fun h82 => ?_) (fun h82 => ?_)
      · skip
        refine i_aload_n G dX8_dangerOf_89 rfl ?_
        refine i_sipush G dX8_dangerOf_90 (by decide) ?_
        refine i_iload G dX8_dangerOf_93 rfl ?_
        refine j_callE (q0 := 0) (As := [vi (999), vi ((((ofm z (z 19 b) (z 17 b)) + r39) - (z 20 b)))]) (st := []) G K_X8_129 (m_least l hd hR hRy39 999 (((ofm z (z 19 b) (z 17 b)) + r39) - (z 20 b)) (by first | assumption | omega) (by first | assumption | omega)) rfl rfl rfl (rm_ok (by decide) (by decide)) ⟨Nat.le_refl _, Nat.le_refl _⟩ (Nat.le_of_ble_eq_true rfl) dX8_dangerOf_95 ?_
        obtain ⟨r95, er95⟩ : ∃ x_ : Int, x_ = (if 999 < (((ofm z (z 19 b) (z 17 b)) + r39) - (z 20 b)) then 999 else (((ofm z (z 19 b) (z 17 b)) + r39) - (z 20 b))) := ⟨_, rfl⟩
        rw [← er95]
        have b95 : (r95 = 999 ∧ r95 ≤ (((ofm z (z 19 b) (z 17 b)) + r39) - (z 20 b))) ∨ (r95 = (((ofm z (z 19 b) (z 17 b)) + r39) - (z 20 b)) ∧ r95 ≤ 999) := by rw [er95]; split <;> omega
        refine j_reti G hr dX8_dangerOf_98 ?_
        refine ⟨rfl, ?_⟩
        have e9 : r95 = dgC z 16 (ds z 16) b := by
          unfold dgC mbF
          (repeat' split) <;> first | rfl | omega
        exact ⟨e9, by omega, hRy39, by first | exact ho39 | exact fun _ _ => rfl⟩
      · skip
        refine i_iconst G dX8_dangerOf_85 ?_
        refine i_goto (tgt := 98) G dX8_dangerOf_86 (by decide) ?_
        refine j_reti G hr dX8_dangerOf_98 ?_
        refine ⟨rfl, ?_⟩
        have e9 : 0 = dgC z 16 (ds z 16) b := by
          unfold dgC mbF
          (repeat' split) <;> first | rfl | omega
        exact ⟨e9, by omega, hRy39, by first | exact ho39 | exact fun _ _ => rfl⟩
    · skip
      refine i_sipush G dX8_dangerOf_51 (by decide) ?_
      refine j_reti G hr dX8_dangerOf_54 ?_
      refine ⟨rfl, ?_⟩
      have e9 : 1000 = dgC z 16 (ds z 16) b := by
        unfold dgC mbF
        (repeat' split) <;> first | rfl | omega
      exact ⟨e9, by omega, hRy39, by first | exact ho39 | exact fun _ _ => rfl⟩
  · skip
    refine i_sipush G dX8_dangerOf_16 (by decide) ?_
    refine j_reti G hr dX8_dangerOf_19 ?_
    refine ⟨rfl, ?_⟩
    have e9 : 1000 = dgC z 16 (ds z 16) b := by
      unfold dgC mbF
      (repeat' split) <;> first | rfl | omega
    exact ⟨e9, by omega, hY, by first | exact ho39 | exact fun _ _ => rfl⟩
set_option maxHeartbeats 4000000 in
set_option maxRecDepth 100000 in
theorem m_dangerOf_1 (l : Launch) {D : va_G} {aC : Nat → ClassId} {ad : Nat → Nat} (hd : wDi ad shM) {z y : wZ} (hR : Rng z) (hY : Rng y) (b : Int) (hF : WF z) (hb : 0 ≤ b ∧ b < z 2 0) : cYi l D aC ad shM yX8_dangerOf cX8_dangerOf 6 (.int) (rmL 3) [.ref (ad 40), vi b, vi 1] z y (fun r_ y2 => r_ = dgC z 15 (ds z 15) b ∧ (0 ≤ r_ ∧ r_ ≤ 1000) ∧ Rng y2 ∧ ∀ k', k' ≠ 70 → y2 k' = y k') := by
  refine c_i [some (.ref (ad 40)), some (vi (b)), some (vi (1)), none, none, none] (by decide +kernel) rfl (Nat.le_of_ble_eq_true rfl) rfl hd ?_
  intro p e s m args below meth c A G hr
  have q0 : 0 ≤ z 0 0 ∧ z 0 0 ≤ 16 := hR 0 0
  have q1 : 0 ≤ z 1 0 ∧ z 1 0 ≤ 24 := hR 1 0
  have q2 : 0 ≤ z 2 0 ∧ z 2 0 ≤ 30 := hR 2 0
  have hW := hF.1
  have hwb := hF.2.1 b hb.1 hb.2
  have q19 : 0 ≤ z 19 b ∧ z 19 b ≤ 23 := hR 19 b
  have q17 : 0 ≤ z 17 b ∧ z 17 b ≤ 15 := hR 17 b
  have q18 : 0 ≤ z 18 b ∧ z 18 b ≤ 15 := hR 18 b
  have hof9 := ofm_in hR (z 19 b) (z 17 b)
  have hot := oth_fk hW (a := z 17 b) q19.1 hwb.2.2.2.1
  have h48 := ds_4800 hW hR 15 (oth z (z 19 b) (z 17 b)) (z 18 b)
  refine i_aload_n G dX8_dangerOf_0 rfl ?_
  refine i_getr G F_X8_42 0 rfl rfl dX8_dangerOf_1 ?_
  refine i_iload_n G dX8_dangerOf_4 rfl ?_
  refine j_iald_z G 10 rfl (by decide) (by decide) (by omega) (by omega) dX8_dangerOf_5 ?_
  have b5 : 0 ≤ z 19 b ∧ z 19 b ≤ 23 := hR 19 _
  refine i_istore_n (L' := [some (.ref (ad 40)), some (vi (b)), some (vi (1)), some (vi ((z 19 b))), none, none]) G dX8_dangerOf_6 (by decide) rfl ?_
  refine i_aload_n G dX8_dangerOf_7 rfl ?_
  refine i_iload_n G dX8_dangerOf_8 rfl ?_
  refine i_iload_n G dX8_dangerOf_9 rfl ?_
  refine j_callE (q0 := 0) (As := [vi ((z 19 b)), vi (1)]) (st := []) G K_X8_124 (m_isShut_1 l hd hR hY (z 19 b) (by first | assumption | omega)) rfl rfl rfl (rm_ok (by decide) (by decide)) ⟨Nat.le_refl _, Nat.le_refl _⟩ (Nat.le_of_ble_eq_true rfl) dX8_dangerOf_10 ?_
  have b10 : 0 ≤ (z 15 (z 19 b)) ∧ (z 15 (z 19 b)) ≤ 1 := hR 15 _
  refine i_if_eq (tgt := 20) G dX8_dangerOf_13 (by decide) (by omega) (fun h13 => ?_) (fun h13 => ?_)
  · skip
    refine i_aload_n G dX8_dangerOf_20 rfl ?_
    refine i_aload_n G dX8_dangerOf_21 rfl ?_
    refine i_iload_n G dX8_dangerOf_22 rfl ?_
    refine i_aload_n G dX8_dangerOf_23 rfl ?_
    refine i_getr G F_X8_36 0 rfl rfl dX8_dangerOf_24 ?_
    refine i_iload_n G dX8_dangerOf_27 rfl ?_
    refine j_iald_z G 8 rfl (by decide) (by decide) (by omega) (by omega) dX8_dangerOf_28 ?_
    have b28 : 0 ≤ z 17 b ∧ z 17 b ≤ 15 := hR 17 _
    refine j_callE (q0 := 0) (As := [vi ((z 19 b)), vi ((z 17 b))]) (st := [.ref (ad 40)]) G K_X8_140 (m_other l hd hR hY (z 19 b) (z 17 b) (by first | assumption | omega) (by first | assumption | omega)) rfl rfl rfl (rm_ok (by decide) (by decide)) ⟨Nat.le_refl _, Nat.le_refl _⟩ (Nat.le_of_ble_eq_true rfl) dX8_dangerOf_29 ?_
    have b29 : 0 ≤ (oth z (z 19 b) (z 17 b)) ∧ (oth z (z 19 b) (z 17 b)) ≤ 15 := oth_in hR _ _
    refine i_aload_n G dX8_dangerOf_32 rfl ?_
    refine i_getr G F_X8_39 0 rfl rfl dX8_dangerOf_33 ?_
    refine i_iload_n G dX8_dangerOf_36 rfl ?_
    refine j_iald_z G 9 rfl (by decide) (by decide) (by omega) (by omega) dX8_dangerOf_37 ?_
    have b37 : 0 ≤ z 18 b ∧ z 18 b ≤ 15 := hR 18 _
    refine i_iload_n G dX8_dangerOf_38 rfl ?_
    refine j_callYi (q0 := 0) (As := [vi ((oth z (z 19 b) (z 17 b))), vi ((z 18 b)), vi (1)]) (st := []) G K_X8_143 (m_way_1 l hd hR hY (oth z (z 19 b) (z 17 b)) (z 18 b) (by first | assumption | omega) (by first | assumption | omega) (by first | assumption | omega)) rfl rfl rfl (rm_ok (by decide) (by decide)) ⟨Nat.le_refl _, Nat.le_refl _⟩ (Nat.le_of_ble_eq_true rfl) dX8_dangerOf_39 (fun r39 y39 q39 => ?_)
    obtain ⟨er39, br39, hRy39, ho39⟩ := q39
    refine i_istore (L' := [some (.ref (ad 40)), some (vi (b)), some (vi (1)), some (vi ((z 19 b))), some (vi (r39)), none]) G dX8_dangerOf_42 (by decide) rfl ?_
    refine i_iload G dX8_dangerOf_44 rfl ?_
    refine i_ldc G 1000000 kc_X8_128 dX8_dangerOf_46 ?_
    refine i_icmp_lt (tgt := 55) G dX8_dangerOf_48 (by decide) (by omega) (by omega) (fun h48 => ?_) (fun h48 => ?_)
    · skip
      refine i_aload_n G dX8_dangerOf_55 rfl ?_
      refine i_iload_n G dX8_dangerOf_56 rfl ?_
      refine i_aload_n G dX8_dangerOf_57 rfl ?_
      refine i_getr G F_X8_36 0 rfl rfl dX8_dangerOf_58 ?_
      refine i_iload_n G dX8_dangerOf_61 rfl ?_
      refine j_iald_z G 8 rfl (by decide) (by decide) (by omega) (by omega) dX8_dangerOf_62 ?_
      have b62 : 0 ≤ z 17 b ∧ z 17 b ≤ 15 := hR 17 _
      refine j_callE (q0 := 0) (As := [vi ((z 19 b)), vi ((z 17 b))]) (st := []) G K_X8_137 (m_of l hd hR hRy39 (z 19 b) (z 17 b) (by first | assumption | omega) (by first | assumption | omega)) rfl rfl rfl (rm_ok (by decide) (by decide)) ⟨Nat.le_refl _, Nat.le_refl _⟩ (Nat.le_of_ble_eq_true rfl) dX8_dangerOf_63 ?_
      have b63 : 0 ≤ (ofm z (z 19 b) (z 17 b)) ∧ (ofm z (z 19 b) (z 17 b)) ≤ 300 := ofm_in hR _ _
      refine i_iload G dX8_dangerOf_66 rfl ?_
      refine i_iadd G dX8_dangerOf_68 ?_
      refine i_aload_n G dX8_dangerOf_69 rfl ?_
      refine i_getr G F_X8_45 0 rfl rfl dX8_dangerOf_70 ?_
      refine i_iload_n G dX8_dangerOf_73 rfl ?_
      refine j_iald_z G 11 rfl (by decide) (by decide) (by omega) (by omega) dX8_dangerOf_74 ?_
      have b74 : 0 ≤ z 20 b ∧ z 20 b ≤ 300 := hR 20 _
      refine i_isub G dX8_dangerOf_75 ?_
      refine i_istore (L' := [some (.ref (ad 40)), some (vi (b)), some (vi (1)), some (vi ((z 19 b))), some (vi (r39)), some (vi ((((ofm z (z 19 b) (z 17 b)) + r39) - (z 20 b))))]) G dX8_dangerOf_76 (by decide) rfl ?_
      refine i_iload G dX8_dangerOf_78 rfl ?_
      refine i_bipush G dX8_dangerOf_80 (by decide) ?_
      refine i_icmp_ge (tgt := 89) G dX8_dangerOf_82 (by decide) (by omega) (by omega) (fun h82 => ?_) (fun h82 => ?_)
      · skip
        refine i_aload_n G dX8_dangerOf_89 rfl ?_
        refine i_sipush G dX8_dangerOf_90 (by decide) ?_
        refine i_iload G dX8_dangerOf_93 rfl ?_
        refine j_callE (q0 := 0) (As := [vi (999), vi ((((ofm z (z 19 b) (z 17 b)) + r39) - (z 20 b)))]) (st := []) G K_X8_129 (m_least l hd hR hRy39 999 (((ofm z (z 19 b) (z 17 b)) + r39) - (z 20 b)) (by first | assumption | omega) (by first | assumption | omega)) rfl rfl rfl (rm_ok (by decide) (by decide)) ⟨Nat.le_refl _, Nat.le_refl _⟩ (Nat.le_of_ble_eq_true rfl) dX8_dangerOf_95 ?_
        obtain ⟨r95, er95⟩ : ∃ x_ : Int, x_ = (if 999 < (((ofm z (z 19 b) (z 17 b)) + r39) - (z 20 b)) then 999 else (((ofm z (z 19 b) (z 17 b)) + r39) - (z 20 b))) := ⟨_, rfl⟩
        rw [← er95]
        have b95 : (r95 = 999 ∧ r95 ≤ (((ofm z (z 19 b) (z 17 b)) + r39) - (z 20 b))) ∨ (r95 = (((ofm z (z 19 b) (z 17 b)) + r39) - (z 20 b)) ∧ r95 ≤ 999) := by rw [er95]; split <;> omega
        refine j_reti G hr dX8_dangerOf_98 ?_
        refine ⟨rfl, ?_⟩
        have e9 : r95 = dgC z 15 (ds z 15) b := by
          unfold dgC mbF
          (repeat' split) <;> first | rfl | omega
        exact ⟨e9, by omega, hRy39, by first | exact ho39 | exact fun _ _ => rfl⟩
      · skip
        refine i_iconst G dX8_dangerOf_85 ?_
        refine i_goto (tgt := 98) G dX8_dangerOf_86 (by decide) ?_
        refine j_reti G hr dX8_dangerOf_98 ?_
        refine ⟨rfl, ?_⟩
        have e9 : 0 = dgC z 15 (ds z 15) b := by
          unfold dgC mbF
          (repeat' split) <;> first | rfl | omega
        exact ⟨e9, by omega, hRy39, by first | exact ho39 | exact fun _ _ => rfl⟩
    · skip
      refine i_sipush G dX8_dangerOf_51 (by decide) ?_
      refine j_reti G hr dX8_dangerOf_54 ?_
      refine ⟨rfl, ?_⟩
      have e9 : 1000 = dgC z 15 (ds z 15) b := by
        unfold dgC mbF
        (repeat' split) <;> first | rfl | omega
      exact ⟨e9, by omega, hRy39, by first | exact ho39 | exact fun _ _ => rfl⟩
  · skip
    refine i_sipush G dX8_dangerOf_16 (by decide) ?_
    refine j_reti G hr dX8_dangerOf_19 ?_
    refine ⟨rfl, ?_⟩
    have e9 : 1000 = dgC z 15 (ds z 15) b := by
      unfold dgC mbF
      (repeat' split) <;> first | rfl | omega
    exact ⟨e9, by omega, hY, by first | exact ho39 | exact fun _ _ => rfl⟩
set_option maxHeartbeats 4000000 in
set_option maxRecDepth 100000 in
theorem m_cuts (l : Launch) {D : va_G} {aC : Nat → ClassId} {ad : Nat → Nat} (hd : wDi ad shM) {z y : wZ} (hR : Rng z) (hY : Rng y) (b : Int) (f : Int) (q : Int) (hW : WT z) (hb : 0 ≤ b ∧ b ≤ 29) (hf : 0 ≤ f ∧ f < z 0 0) (hq : 0 ≤ q ∧ q < z 0 0) (hne : f ≠ q) (hds : ds z 16 f q ≤ 300) (hwd : 1 ≤ z 6 0) : cMv l D aC ad shM yX8_cuts cX8_cuts 4 (rmL 3) [.ref (ad 40), vi b, vi f, vi q] z y (fun z2 y2 => z2 = mcF z b f q ∧ Rng z2 ∧ Rng y2 ∧ ∀ k', k' ≠ 70 → y2 k' = y k') := by
  refine c_v [some (.ref (ad 40)), some (vi (b)), some (vi (f)), some (vi (q))] (by decide +kernel) rfl (Nat.le_of_ble_eq_true rfl) rfl hd ?_
  intro p e s m args below meth c A G hr
  have q0 : 0 ≤ z 0 0 ∧ z 0 0 ≤ 16 := hR 0 0
  have q1 : 0 ≤ z 1 0 ∧ z 1 0 ≤ 24 := hR 1 0
  have q6 : 0 ≤ z 6 0 ∧ z 6 0 ≤ 60000 := hR 6 0
  have hx := nxt_ex hW hR hne (by omega)
  have hp := nxt_P hR hx
  refine i_aload_n G dX8_cuts_0 rfl ?_
  refine i_getr G F_X8_36 0 rfl rfl dX8_cuts_1 ?_
  refine i_iload_n G dX8_cuts_4 rfl ?_
  refine i_iload_n G dX8_cuts_5 rfl ?_
  refine j_iast_z G 8 rfl (by decide) (by decide) (by omega) (by omega) (by decide) hR (by show (0 : Int) ≤ _ ∧ _ ≤ (15 : Int); omega) dX8_cuts_6 (fun z6 ez6 hRz6 => ?_)
  refine i_aload_n G dX8_cuts_7 rfl ?_
  refine i_getr G F_X8_39 0 rfl rfl dX8_cuts_8 ?_
  refine i_iload_n G dX8_cuts_11 rfl ?_
  refine i_iload_n G dX8_cuts_12 rfl ?_
  refine j_iast_z G 9 rfl (by decide) (by decide) (by omega) (by omega) (by decide) hRz6 (by show (0 : Int) ≤ _ ∧ _ ≤ (15 : Int); omega) dX8_cuts_13 (fun z13 ez13 hRz13 => ?_)
  refine i_aload_n G dX8_cuts_14 rfl ?_
  refine i_getr G F_X8_45 0 rfl rfl dX8_cuts_15 ?_
  refine i_iload_n G dX8_cuts_18 rfl ?_
  refine i_aload_n G dX8_cuts_19 rfl ?_
  refine i_iload_n G dX8_cuts_20 rfl ?_
  refine i_iload_n G dX8_cuts_21 rfl ?_
  refine i_iconst G dX8_cuts_22 ?_
  have hk13 : ∀ k, k ≠ 17 → k ≠ 18 → z13 k = z k := fun k a c => by rw [ez13, zp_nk _ c, ez6, zp_nk _ a]
  have e130 := hk13 0 (by decide) (by decide)
  have hf13 : 0 ≤ f ∧ f < z13 0 0 := by rw [e130]; exact hf
  have hq13 : 0 ≤ q ∧ q < z13 0 0 := by rw [e130]; exact hq
  have hW13 : WT z13 := WT_cg hW (fun k hk => hk13 k (by omega) (by omega))
  refine j_callYi (q0 := 0) (As := [vi (f), vi (q), vi (0)]) (st := [vi (b), .ref (ad 51)]) G K_X8_143 (m_way_0 l hd hRz13 hY f q (by first | assumption | omega) (by first | assumption | omega) (by first | assumption | omega)) rfl rfl rfl (rm_ok (by decide) (by decide)) ⟨Nat.le_refl _, Nat.le_refl _⟩ (Nat.le_of_ble_eq_true rfl) dX8_cuts_23 (fun r23 y23 q23 => ?_)
  obtain ⟨er23, br23, hRy23, ho23⟩ := q23
  have e26 : r23 = ds z 16 f q := by rw [er23, ds_zc (z := z) (by decide) (fun k hk => hk13 k (by omega) (by omega))]
  refine i_iconst G dX8_cuts_26 ?_
  refine i_iadd G dX8_cuts_27 ?_
  refine i_iconst G dX8_cuts_28 ?_
  refine i_idiv G (by omega) (by omega) dX8_cuts_29 ?_
  refine i_iconst G dX8_cuts_30 ?_
  refine i_imul G dX8_cuts_31 ?_
  refine j_iast_z G 11 rfl (by decide) (by decide) (by omega) (by omega) (by decide) hRz13 (by show (0 : Int) ≤ _ ∧ _ ≤ (300 : Int); omega) dX8_cuts_32 (fun z32 ez32 hRz32 => ?_)
  refine i_aload_n G dX8_cuts_33 rfl ?_
  refine i_getr G F_X8_42 0 rfl rfl dX8_cuts_34 ?_
  refine i_iload_n G dX8_cuts_37 rfl ?_
  refine i_aload_n G dX8_cuts_38 rfl ?_
  refine i_iload_n G dX8_cuts_39 rfl ?_
  refine i_iload_n G dX8_cuts_40 rfl ?_
  have hk32 : ∀ k, k ≠ 17 → k ≠ 18 → k ≠ 20 → z32 k = z k := fun k a c d => by rw [ez32, zp_nk _ d]; exact hk13 k a c
  have e320 := hk32 0 (by decide) (by decide) (by decide)
  have hf32 : 0 ≤ f ∧ f < z32 0 0 := by rw [e320]; exact hf
  have hq32 : 0 ≤ q ∧ q < z32 0 0 := by rw [e320]; exact hq
  have hW32 : WT z32 := WT_cg hW (fun k hk => hk32 k (by omega) (by omega) (by omega))
  refine j_callYi (q0 := 0) (As := [vi (f), vi (q)]) (st := [vi (b), .ref (ad 50)]) G K_X8_147 (m_next l hd hRz32 hRy23 f q (by first | assumption | omega) (by first | assumption | omega) (by first | assumption | omega)) rfl rfl rfl (rm_ok (by decide) (by decide)) ⟨Nat.le_refl _, Nat.le_refl _⟩ (Nat.le_of_ble_eq_true rfl) dX8_cuts_41 (fun r41 y41 q41 => ?_)
  obtain ⟨er41, br41, hRy41, ho41⟩ := q41
  have e44 : r41 = nxt z f q := by rw [er41, nxt_zc (z := z) (fun k hk => hk32 k (by omega) (by omega) (by omega))]
  refine j_iast_z G 10 rfl (by decide) (by decide) (by omega) (by omega) (by decide) hRz32 (by show (0 : Int) ≤ _ ∧ _ ≤ (23 : Int); omega) dX8_cuts_44 (fun z44 ez44 hRz44 => ?_)
  refine i_aload_n G dX8_cuts_45 rfl ?_
  refine i_getr G F_X8_48 0 rfl rfl dX8_cuts_46 ?_
  refine i_iload_n G dX8_cuts_49 rfl ?_
  refine i_iconst G dX8_cuts_50 ?_
  refine j_zast_z G 12 rfl (by decide) (by decide) (by omega) (by omega) (by omega) (by decide) hRz44 (by show (0 : Int) ≤ _ ∧ _ ≤ (1 : Int); omega) dX8_cuts_51 (fun z51 ez51 hRz51 => ?_)
  refine i_aload_n G dX8_cuts_52 rfl ?_
  refine i_dup G rfl dX8_cuts_53 ?_
  refine j_getz G F_X8_7 0 rfl rfl (by decide) dX8_cuts_54 ?_
  have b54 : 0 ≤ z51 6 0 ∧ z51 6 0 ≤ 60000 := hRz51 6 _
  refine i_iconst G dX8_cuts_57 ?_
  refine i_isub G dX8_cuts_58 ?_
  refine j_putz G P_X8_7 0 rfl rfl (by decide) (by decide) (by decide) hRz51 (by show (0 : Int) ≤ _ ∧ _ ≤ (60000 : Int); have q6 : z51 6 0 = z 6 0 := (by rw [ez51, zp_nk _ (by decide), ez44, zp_nk _ (by decide)]; exact congrFun (hk32 6 (by decide) (by decide) (by decide)) 0); omega) dX8_cuts_59 (fun z59 ez59 hRz59 => ?_)
  refine j_retv G hr dX8_cuts_62 ?_
  have q6 : z51 6 0 = z 6 0 := by rw [ez51, zp_nk _ (by decide), ez44, zp_nk _ (by decide)]; exact congrFun (hk32 6 (by decide) (by decide) (by decide)) 0
  have ez : z59 = mcF z b f q := by rw [ez59, q6, ez51, ez44, ez32, ez13, ez6, e44, e26, mcF_eq]; rfl
  exact ⟨ez, hRz59, hRy41, fun k hk => by rw [ho41 k hk, ho23 k hk]⟩
