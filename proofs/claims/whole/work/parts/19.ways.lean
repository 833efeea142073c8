theorem askL_in (z : wZ) (kd nb : Int) : ∀ (n : Nat) (t : Int), 0 ≤ askL z kd nb n t ∧ askL z kd nb n t ≤ 1
  | 0, _ => by unfold askL; omega
  | n + 1, t => by unfold askL; split; omega; exact askL_in z kd nb n (t + 1)
theorem adL_in (z : wZ) (rn : Int) : ∀ (n : Nat) (t : Int), 0 ≤ adL z rn n t ∧ adL z rn n t ≤ 1
  | 0, _ => by unfold adL; omega
  | n + 1, t => by unfold adL; split; omega; exact adL_in z rn n (t + 1)
theorem seF_ofm (z : wZ) (t a b : Int) : ofm (seF z t) a b = ofm z a b := by
  unfold ofm; rw [seF_k z t (by decide) (by decide) (by decide), seF_k z t (by decide) (by decide) (by decide), seF_k z t (by decide) (by decide) (by decide)]
theorem seF_oth (z : wZ) (t a b : Int) : oth (seF z t) a b = oth z a b := by
  unfold oth; rw [seF_k z t (by decide) (by decide) (by decide), seF_k z t (by decide) (by decide) (by decide)]
theorem spd_oth (z : wZ) (r mn a b : Int) : oth (spdF z r mn) a b = oth z a b := by
  unfold oth spdF; rw [zp_nk _ (by decide), zp_nk _ (by decide), zp_nk _ (by decide), zp_nk _ (by decide)]
theorem glF_cg {z w : wZ} (t : Int) (h : w 11 = z 11 ∧ w 17 = z 17 ∧ w 23 = z 23 ∧ w 24 = z 24) : glF w t = glF z t := by
  unfold glF; rw [h.1, h.2.1, h.2.2.1, h.2.2.2]
theorem cmL_k (r t g : Int) {k : Nat} (h : k ≠ 8 ∧ k ≠ 27 ∧ k ≠ 29 ∧ k ≠ 16 ∧ k ≠ 22 ∧ k ≠ 32) : ∀ (n : Nat) (z : wZ), (cmL r t g n z).2 k = z k
  | 0, _ => rfl
  | n + 1, z => by
    unfold cmL
    (repeat' split)
    · rfl
    · rfl
    · rw [cmL_k r t g h n, mvF_k _ _ _ (by omega) (by omega) (by omega), seF_k _ _ (by omega) (by omega) (by omega)]
    · rw [cmL_k r t g h n, seF_k _ _ (by omega) (by omega) (by omega)]
theorem cmL_01 (r t g : Int) : ∀ (n : Nat) (z : wZ), (cmL r t g n z).1 = 0 ∨ (cmL r t g n z).1 = 1
  | 0, _ => Or.inl rfl
  | n + 1, z => by
    unfold cmL
    (repeat' split)
    · exact Or.inr rfl
    · exact Or.inl rfl
    · exact cmL_01 r t g n _
    · exact cmL_01 r t g n _
set_option maxHeartbeats 4000000 in
set_option maxRecDepth 100000 in
theorem c_nextToPlan (l : Launch) {D : va_G} {aC : Nat → ClassId} {ad : Nat → Nat} (hd : wDi ad shC) {z y : wZ} (hR : Rng z) (hY : Rng y) (hI_z_y : CW z y)   : cE l D aC ad shC yX7_nextToPlan cX7_nextToPlan 6 (.int) (rmL 3) [.ref (ad 0)] z y (ntF z) := by
  refine c_i [some (.ref (ad 0)), none, none, none, none, none] (by decide +kernel) rfl (Nat.le_of_ble_eq_true rfl) rfl hd ?_
  intro p e s m args below meth c A G hr
  have q2 : 0 ≤ z 2 0 ∧ z 2 0 ≤ 30 := hR 2 0
  refine i_iconst G dX7_nextToPlan_0 ?_
  refine i_istore_n (L' := [some (.ref (ad 0)), some (vi ((-1))), none, none, none, none]) G dX7_nextToPlan_1 (by decide) rfl ?_
  refine i_iconst G dX7_nextToPlan_2 ?_
  refine i_istore_n (L' := [some (.ref (ad 0)), some (vi ((-1))), some (vi ((-1))), none, none, none]) G dX7_nextToPlan_3 (by decide) rfl ?_
  refine i_iconst G dX7_nextToPlan_4 ?_
  refine i_istore_n (L' := [some (.ref (ad 0)), some (vi ((-1))), some (vi ((-1))), some (vi (0)), none, none]) G dX7_nextToPlan_5 (by decide) rfl ?_
  refine i_forget (L' := [some (.ref (ad 0)), some (vi ((-1))), some (vi ((-1))), some (vi (0)), none, none]) ⟨rfl, ⟨rfl, ⟨rfl, ⟨rfl, trivial⟩⟩⟩⟩ ?_
  have lp6 : ∀ (n6 : Nat) (best most b : Int), (0 ≤ b) → (b + n6 = z 2 0) → (-1 ≤ best ∧ best < b) → (-1 ≤ most ∧ most ≤ 1000) → (ntL z n6 b best most = ntF z) → JW p l e (rmL 3) s m args below meth c 6 D aC ad A shC (MQ below (cQi D aC ad shC (fun r_ z_ y_ => r_ = (ntF z) ∧ z_ = z ∧ y_ = y) A) args s 0 0 A) 0 0 (zc z y) 6 [some (.ref (ad 0)), some (vi (best)), some (vi (most)), some (vi (b)), none, none] [] := by
    intro n6
    induction n6 with
    | zero => 
      intro best most b hb hn hbe hmo hF
      refine i_iload_n G dX7_nextToPlan_6 rfl ?_
      refine i_aload_n G dX7_nextToPlan_7 rfl ?_
      refine i_getr G F_X7_19 0 rfl rfl dX7_nextToPlan_8 ?_
      refine j_getz G F_X7_143 14 rfl rfl (by decide) dX7_nextToPlan_11 ?_
      have b11 : 0 ≤ z 2 0 ∧ z 2 0 ≤ 30 := hR 2 _
      refine i_icmp_ge (tgt := 113) G dX7_nextToPlan_14 (by decide) (by omega) (by omega) (fun h14 => ?_) (fun h14 => ?_)
      · skip
        refine i_iload_n G dX7_nextToPlan_113 rfl ?_
        refine j_reti G hr dX7_nextToPlan_114 ?_
        exact ⟨hF, rfl, rfl⟩
      · skip
        exfalso; omega
    | succ n6 ih6 => 
      intro best most b hb hn hbe hmo hF
      refine i_iload_n G dX7_nextToPlan_6 rfl ?_
      refine i_aload_n G dX7_nextToPlan_7 rfl ?_
      refine i_getr G F_X7_19 0 rfl rfl dX7_nextToPlan_8 ?_
      refine j_getz G F_X7_143 14 rfl rfl (by decide) dX7_nextToPlan_11 ?_
      have b11 : 0 ≤ z 2 0 ∧ z 2 0 ≤ 30 := hR 2 _
      refine i_icmp_ge (tgt := 113) G dX7_nextToPlan_14 (by decide) (by omega) (by omega) (fun h14 => ?_) (fun h14 => ?_)
      · skip
        exfalso; omega
      · skip
        refine i_aload_n G dX7_nextToPlan_17 rfl ?_
        refine i_getr G F_X7_19 0 rfl rfl dX7_nextToPlan_18 ?_
        refine i_iload_n G dX7_nextToPlan_21 rfl ?_
        refine i_aload_n G dX7_nextToPlan_22 rfl ?_
        refine i_getr G F_X7_10 0 rfl rfl dX7_nextToPlan_23 ?_
        refine i_aload_n G dX7_nextToPlan_26 rfl ?_
        refine i_getr G F_X7_10 0 rfl rfl dX7_nextToPlan_27 ?_
        refine i_getr G F_X7_181 1 rfl rfl dX7_nextToPlan_30 ?_
        refine j_callE (q0 := 14) (As := [vi (b), .ref (ad 1), .ref (ad 10)]) (st := []) G K_X7_170 (d_danger_0 l hd hR hY hI_z_y b (by first | assumption | omega)) rfl rfl rfl (rm_ok (by decide) (by decide)) ⟨Nat.le_refl _, Nat.le_refl _⟩ (Nat.le_of_ble_eq_true rfl) dX7_nextToPlan_33 ?_
        have b33 : 0 ≤ (dgC z 16 (ds z 16) b) ∧ (dgC z 16 (ds z 16) b) ≤ 1000 := dgC_in _ _ _ _
        refine i_istore (L' := [some (.ref (ad 0)), some (vi (best)), some (vi (most)), some (vi (b)), some (vi ((dgC z 16 (ds z 16) b))), none]) G dX7_nextToPlan_36 (by decide) rfl ?_
        refine i_aload_n G dX7_nextToPlan_38 rfl ?_
        refine i_getr G F_X7_19 0 rfl rfl dX7_nextToPlan_39 ?_
        refine i_getr G F_X7_167 14 rfl rfl dX7_nextToPlan_42 ?_
        refine i_iload_n G dX7_nextToPlan_45 rfl ?_
        refine j_zald_z G 19 rfl (by decide) (by decide) (by omega) (by omega) dX7_nextToPlan_46 ?_
        have b46 : 0 ≤ z 21 b ∧ z 21 b ≤ 1 := hR 21 _
        refine i_if_eq (tgt := 63) G dX7_nextToPlan_47 (by decide) (by omega) (fun h47 => ?_) (fun h47 => ?_)
        · skip
          refine i_iload G dX7_nextToPlan_63 rfl ?_
          refine i_if_le (tgt := 72) G dX7_nextToPlan_65 (by decide) (by omega) (fun h65 => ?_) (fun h65 => ?_)
          · skip
            refine i_iconst G dX7_nextToPlan_72 ?_
            refine i_istore (L' := [some (.ref (ad 0)), some (vi (best)), some (vi (most)), some (vi (b)), some (vi ((dgC z 16 (ds z 16) b))), some (vi (0))]) G dX7_nextToPlan_73 (by decide) rfl ?_
            refine i_iload G dX7_nextToPlan_75 rfl ?_
            refine i_if_eq (tgt := 107) G dX7_nextToPlan_77 (by decide) (by omega) (fun h77 => ?_) (fun h77 => ?_)
            · skip
              refine i_iinc (L' := [some (.ref (ad 0)), some (vi (best)), some (vi (most)), some (vi (b + 1)), some (vi ((dgC z 16 (ds z 16) b))), some (vi (0))]) G dX7_nextToPlan_107 (by decide) rfl rfl ?_
              refine i_goto (tgt := 6) G dX7_nextToPlan_110 (by decide) ?_
              refine i_forget (L' := [some (.ref (ad 0)), some (vi (best)), some (vi (most)), some (vi (b + 1)), none, none]) ⟨rfl, ⟨rfl, ⟨rfl, ⟨rfl, trivial⟩⟩⟩⟩ ?_
              exact ih6 _ _ (b + 1) (by omega) (by omega) (by omega) (by omega) (by
                rw [← hF, ntL, if_neg]
                intro hc
                have a1 := hc.1
                have a2 := hc.2.1
                have a3 := hc.2.2
                unfold wrI dng at a1
                unfold dng at a2
                (repeat' split at a1) <;> omega)
            · skip
              exfalso; omega
          · skip
            refine i_iconst G dX7_nextToPlan_68 ?_
            refine i_goto (tgt := 73) G dX7_nextToPlan_69 (by decide) ?_
            refine i_istore (L' := [some (.ref (ad 0)), some (vi (best)), some (vi (most)), some (vi (b)), some (vi ((dgC z 16 (ds z 16) b))), some (vi (1))]) G dX7_nextToPlan_73 (by decide) rfl ?_
            refine i_iload G dX7_nextToPlan_75 rfl ?_
            refine i_if_eq (tgt := 107) G dX7_nextToPlan_77 (by decide) (by omega) (fun h77 => ?_) (fun h77 => ?_)
            · skip
              exfalso; omega
            · skip
              refine i_iload G dX7_nextToPlan_80 rfl ?_
              refine i_iload_n G dX7_nextToPlan_82 rfl ?_
              refine i_icmp_le (tgt := 107) G dX7_nextToPlan_83 (by decide) (by omega) (by omega) (fun h83 => ?_) (fun h83 => ?_)
              · skip
                refine i_iinc (L' := [some (.ref (ad 0)), some (vi (best)), some (vi (most)), some (vi (b + 1)), some (vi ((dgC z 16 (ds z 16) b))), some (vi (1))]) G dX7_nextToPlan_107 (by decide) rfl rfl ?_
                refine i_goto (tgt := 6) G dX7_nextToPlan_110 (by decide) ?_
                refine i_forget (L' := [some (.ref (ad 0)), some (vi (best)), some (vi (most)), some (vi (b + 1)), none, none]) ⟨rfl, ⟨rfl, ⟨rfl, ⟨rfl, trivial⟩⟩⟩⟩ ?_
                exact ih6 _ _ (b + 1) (by omega) (by omega) (by omega) (by omega) (by
                  rw [← hF, ntL, if_neg]
                  intro hc
                  have a1 := hc.1
                  have a2 := hc.2.1
                  have a3 := hc.2.2
                  unfold wrI dng at a1
                  unfold dng at a2
                  (repeat' split at a1) <;> omega)
              · skip
                refine i_aload_n G dX7_nextToPlan_86 rfl ?_
                refine i_getr G F_X7_33 0 rfl rfl dX7_nextToPlan_87 ?_
                refine i_aload_n G dX7_nextToPlan_90 rfl ?_
                refine i_iload_n G dX7_nextToPlan_91 rfl ?_
                refine j_callE (q0 := 0) (As := [vi (b)]) (st := [.ref (ad 23)]) G K_X7_213 (c_kindToPlan l hd hR hY b (by first | assumption | omega)) rfl rfl rfl (rm_ok (by decide) (by decide)) ⟨Nat.le_refl _, Nat.le_refl _⟩ (Nat.le_of_ble_eq_true rfl) dX7_nextToPlan_92 ?_
                have b92 : (ktF z b) = 99 ∨ (ktF z b) = 117 := by unfold ktF; split <;> omega
                refine i_iload_n G dX7_nextToPlan_95 rfl ?_
                refine j_callE (q0 := 23) (As := [vi ((ktF z b)), vi (b)]) (st := []) G K_X7_309 (c_isAsked l hd hR hY (ktF z b) b (by omega) (by omega)) rfl rfl rfl (rm_ok (by decide) (by decide)) ⟨Nat.le_refl _, Nat.le_refl _⟩ (Nat.le_of_ble_eq_true rfl) dX7_nextToPlan_96 ?_
                have b96 : 0 ≤ (askL z (ktF z b) b (z 3 0).toNat 0) ∧ (askL z (ktF z b) b (z 3 0).toNat 0) ≤ 1 := askL_in _ _ _ _ _
                refine i_if_ne (tgt := 107) G dX7_nextToPlan_99 (by decide) (by omega) (fun h99 => ?_) (fun h99 => ?_)
                · skip
                  refine i_iinc (L' := [some (.ref (ad 0)), some (vi (best)), some (vi (most)), some (vi (b + 1)), some (vi ((dgC z 16 (ds z 16) b))), some (vi (1))]) G dX7_nextToPlan_107 (by decide) rfl rfl ?_
                  refine i_goto (tgt := 6) G dX7_nextToPlan_110 (by decide) ?_
                  refine i_forget (L' := [some (.ref (ad 0)), some (vi (best)), some (vi (most)), some (vi (b + 1)), none, none]) ⟨rfl, ⟨rfl, ⟨rfl, ⟨rfl, trivial⟩⟩⟩⟩ ?_
                  exact ih6 _ _ (b + 1) (by omega) (by omega) (by omega) (by omega) (by
                    rw [← hF, ntL, if_neg]
                    intro hc
                    have a1 := hc.1
                    have a2 := hc.2.1
                    have a3 := hc.2.2
                    unfold wrI dng at a1
                    unfold dng at a2
                    (repeat' split at a1) <;> omega)
                · skip
                  refine i_iload_n G dX7_nextToPlan_102 rfl ?_
                  refine i_istore_n (L' := [some (.ref (ad 0)), some (vi (b)), some (vi (most)), some (vi (b)), some (vi ((dgC z 16 (ds z 16) b))), some (vi (1))]) G dX7_nextToPlan_103 (by decide) rfl ?_
                  refine i_iload G dX7_nextToPlan_104 rfl ?_
                  refine i_istore_n (L' := [some (.ref (ad 0)), some (vi (b)), some (vi ((dgC z 16 (ds z 16) b))), some (vi (b)), some (vi ((dgC z 16 (ds z 16) b))), some (vi (1))]) G dX7_nextToPlan_106 (by decide) rfl ?_
                  refine i_iinc (L' := [some (.ref (ad 0)), some (vi (b)), some (vi ((dgC z 16 (ds z 16) b))), some (vi (b + 1)), some (vi ((dgC z 16 (ds z 16) b))), some (vi (1))]) G dX7_nextToPlan_107 (by decide) rfl rfl ?_
                  refine i_goto (tgt := 6) G dX7_nextToPlan_110 (by decide) ?_
                  refine i_forget (L' := [some (.ref (ad 0)), some (vi (b)), some (vi ((dgC z 16 (ds z 16) b))), some (vi (b + 1)), none, none]) ⟨rfl, ⟨rfl, ⟨rfl, ⟨rfl, trivial⟩⟩⟩⟩ ?_
                  have a1 : wrI z b = 1 := by unfold wrI dng; (repeat' split) <;> omega
                  exact ih6 _ _ (b + 1) (by omega) (by omega) (by omega) (by omega) (by rw [← hF, ntL, if_pos ⟨a1, by unfold dng; omega, by omega⟩]; rfl)
        · skip
          refine i_iload G dX7_nextToPlan_50 rfl ?_
          refine i_if_ne (tgt := 59) G dX7_nextToPlan_52 (by decide) (by omega) (fun h52 => ?_) (fun h52 => ?_)
          · skip
            refine i_iconst G dX7_nextToPlan_59 ?_
            refine i_goto (tgt := 73) G dX7_nextToPlan_60 (by decide) ?_
            refine i_istore (L' := [some (.ref (ad 0)), some (vi (best)), some (vi (most)), some (vi (b)), some (vi ((dgC z 16 (ds z 16) b))), some (vi (0))]) G dX7_nextToPlan_73 (by decide) rfl ?_
            refine i_iload G dX7_nextToPlan_75 rfl ?_
            refine i_if_eq (tgt := 107) G dX7_nextToPlan_77 (by decide) (by omega) (fun h77 => ?_) (fun h77 => ?_)
            · skip
              refine i_iinc (L' := [some (.ref (ad 0)), some (vi (best)), some (vi (most)), some (vi (b + 1)), some (vi ((dgC z 16 (ds z 16) b))), some (vi (0))]) G dX7_nextToPlan_107 (by decide) rfl rfl ?_
              refine i_goto (tgt := 6) G dX7_nextToPlan_110 (by decide) ?_
              refine i_forget (L' := [some (.ref (ad 0)), some (vi (best)), some (vi (most)), some (vi (b + 1)), none, none]) ⟨rfl, ⟨rfl, ⟨rfl, ⟨rfl, trivial⟩⟩⟩⟩ ?_
              exact ih6 _ _ (b + 1) (by omega) (by omega) (by omega) (by omega) (by
                rw [← hF, ntL, if_neg]
                intro hc
                have a1 := hc.1
                have a2 := hc.2.1
                have a3 := hc.2.2
                unfold wrI dng at a1
                unfold dng at a2
                (repeat' split at a1) <;> omega)
            · skip
              exfalso; omega
          · skip
            refine i_iconst G dX7_nextToPlan_55 ?_
            refine i_goto (tgt := 73) G dX7_nextToPlan_56 (by decide) ?_
            refine i_istore (L' := [some (.ref (ad 0)), some (vi (best)), some (vi (most)), some (vi (b)), some (vi ((dgC z 16 (ds z 16) b))), some (vi (1))]) G dX7_nextToPlan_73 (by decide) rfl ?_
            refine i_iload G dX7_nextToPlan_75 rfl ?_
            refine i_if_eq (tgt := 107) G dX7_nextToPlan_77 (by decide) (by omega) (fun h77 => ?_) (fun h77 => ?_)
            · skip
              exfalso; omega
            · skip
              refine i_iload G dX7_nextToPlan_80 rfl ?_
              refine i_iload_n G dX7_nextToPlan_82 rfl ?_
              refine i_icmp_le (tgt := 107) G dX7_nextToPlan_83 (by decide) (by omega) (by omega) (fun h83 => ?_) (fun h83 => ?_)
              · skip
                refine i_iinc (L' := [some (.ref (ad 0)), some (vi (best)), some (vi (most)), some (vi (b + 1)), some (vi ((dgC z 16 (ds z 16) b))), some (vi (1))]) G dX7_nextToPlan_107 (by decide) rfl rfl ?_
                refine i_goto (tgt := 6) G dX7_nextToPlan_110 (by decide) ?_
                refine i_forget (L' := [some (.ref (ad 0)), some (vi (best)), some (vi (most)), some (vi (b + 1)), none, none]) ⟨rfl, ⟨rfl, ⟨rfl, ⟨rfl, trivial⟩⟩⟩⟩ ?_
                exact ih6 _ _ (b + 1) (by omega) (by omega) (by omega) (by omega) (by
                  rw [← hF, ntL, if_neg]
                  intro hc
                  have a1 := hc.1
                  have a2 := hc.2.1
                  have a3 := hc.2.2
                  unfold wrI dng at a1
                  unfold dng at a2
                  (repeat' split at a1) <;> omega)
              · skip
                refine i_aload_n G dX7_nextToPlan_86 rfl ?_
                refine i_getr G F_X7_33 0 rfl rfl dX7_nextToPlan_87 ?_
                refine i_aload_n G dX7_nextToPlan_90 rfl ?_
                refine i_iload_n G dX7_nextToPlan_91 rfl ?_
                refine j_callE (q0 := 0) (As := [vi (b)]) (st := [.ref (ad 23)]) G K_X7_213 (c_kindToPlan l hd hR hY b (by first | assumption | omega)) rfl rfl rfl (rm_ok (by decide) (by decide)) ⟨Nat.le_refl _, Nat.le_refl _⟩ (Nat.le_of_ble_eq_true rfl) dX7_nextToPlan_92 ?_
                have b92 : (ktF z b) = 99 ∨ (ktF z b) = 117 := by unfold ktF; split <;> omega
                refine i_iload_n G dX7_nextToPlan_95 rfl ?_
                refine j_callE (q0 := 23) (As := [vi ((ktF z b)), vi (b)]) (st := []) G K_X7_309 (c_isAsked l hd hR hY (ktF z b) b (by omega) (by omega)) rfl rfl rfl (rm_ok (by decide) (by decide)) ⟨Nat.le_refl _, Nat.le_refl _⟩ (Nat.le_of_ble_eq_true rfl) dX7_nextToPlan_96 ?_
                have b96 : 0 ≤ (askL z (ktF z b) b (z 3 0).toNat 0) ∧ (askL z (ktF z b) b (z 3 0).toNat 0) ≤ 1 := askL_in _ _ _ _ _
                refine i_if_ne (tgt := 107) G dX7_nextToPlan_99 (by decide) (by omega) (fun h99 => ?_) (fun h99 => ?_)
                · skip
                  refine i_iinc (L' := [some (.ref (ad 0)), some (vi (best)), some (vi (most)), some (vi (b + 1)), some (vi ((dgC z 16 (ds z 16) b))), some (vi (1))]) G dX7_nextToPlan_107 (by decide) rfl rfl ?_
                  refine i_goto (tgt := 6) G dX7_nextToPlan_110 (by decide) ?_
                  refine i_forget (L' := [some (.ref (ad 0)), some (vi (best)), some (vi (most)), some (vi (b + 1)), none, none]) ⟨rfl, ⟨rfl, ⟨rfl, ⟨rfl, trivial⟩⟩⟩⟩ ?_
                  exact ih6 _ _ (b + 1) (by omega) (by omega) (by omega) (by omega) (by
                    rw [← hF, ntL, if_neg]
                    intro hc
                    have a1 := hc.1
                    have a2 := hc.2.1
                    have a3 := hc.2.2
                    unfold wrI dng at a1
                    unfold dng at a2
                    (repeat' split at a1) <;> omega)
                · skip
                  refine i_iload_n G dX7_nextToPlan_102 rfl ?_
                  refine i_istore_n (L' := [some (.ref (ad 0)), some (vi (b)), some (vi (most)), some (vi (b)), some (vi ((dgC z 16 (ds z 16) b))), some (vi (1))]) G dX7_nextToPlan_103 (by decide) rfl ?_
                  refine i_iload G dX7_nextToPlan_104 rfl ?_
                  refine i_istore_n (L' := [some (.ref (ad 0)), some (vi (b)), some (vi ((dgC z 16 (ds z 16) b))), some (vi (b)), some (vi ((dgC z 16 (ds z 16) b))), some (vi (1))]) G dX7_nextToPlan_106 (by decide) rfl ?_
                  refine i_iinc (L' := [some (.ref (ad 0)), some (vi (b)), some (vi ((dgC z 16 (ds z 16) b))), some (vi (b + 1)), some (vi ((dgC z 16 (ds z 16) b))), some (vi (1))]) G dX7_nextToPlan_107 (by decide) rfl rfl ?_
                  refine i_goto (tgt := 6) G dX7_nextToPlan_110 (by decide) ?_
                  refine i_forget (L' := [some (.ref (ad 0)), some (vi (b)), some (vi ((dgC z 16 (ds z 16) b))), some (vi (b + 1)), none, none]) ⟨rfl, ⟨rfl, ⟨rfl, ⟨rfl, trivial⟩⟩⟩⟩ ?_
                  have a1 : wrI z b = 1 := by unfold wrI dng; (repeat' split) <;> omega
                  exact ih6 _ _ (b + 1) (by omega) (by omega) (by omega) (by omega) (by rw [← hF, ntL, if_pos ⟨a1, by unfold dng; omega, by omega⟩]; rfl)
  exact lp6 (z 2 0).toNat (-1) (-1) 0 (by omega) (by omega) (by omega) (by omega) rfl
set_option maxHeartbeats 4000000 in
set_option maxRecDepth 100000 in
theorem c_plan (l : Launch) {D : va_G} {aC : Nat → ClassId} {ad : Nat → Nat} (hd : wDi ad shC) {z y : wZ} (hR : Rng z) (hY : Rng y) (hI_z_y : CW z y)   : cZi l D aC ad shC yX7_plan cX7_plan 4 (.int) (rmL 4) [.ref (ad 0)] z y (fun r_ z2 => r_ = (plL 30 z 0).1 ∧ z2 = (plL 30 z 0).2 ∧ Rng z2) := by
  refine c_i [some (.ref (ad 0)), none, none, none] (by decide +kernel) rfl (Nat.le_of_ble_eq_true rfl) rfl hd ?_
  intro p e s m args below meth c A G hr
  refine i_iconst G dX7_plan_0 ?_
  refine i_istore_n (L' := [some (.ref (ad 0)), some (vi (0)), none, none]) G dX7_plan_1 (by decide) rfl ?_
  refine i_iconst G dX7_plan_2 ?_
  refine i_istore_n (L' := [some (.ref (ad 0)), some (vi (0)), some (vi (0)), none]) G dX7_plan_3 (by decide) rfl ?_
  refine i_forget (L' := [some (.ref (ad 0)), some (vi (0)), some (vi (0)), none]) ⟨rfl, ⟨rfl, ⟨rfl, trivial⟩⟩⟩ ?_
  have lp4 : ∀ (n4 : Nat) (made turn : Int) (z4_ : wZ), Rng z4_ → (0 ≤ turn) → (turn + n4 = 30) → (CW z4_ y) → (plL n4 z4_ made = plL 30 z 0) → JW p l e (rmL 4) s m args below meth c 4 D aC ad A shC (MQ below (cQi D aC ad shC (fun r_ z_ y_ => y_ = y ∧ (fun r_ z2 => r_ = (plL 30 z 0).1 ∧ z2 = (plL 30 z 0).2 ∧ Rng z2) r_ z_) A) args s 0 0 A) 0 0 (zc z4_ y) 4 [some (.ref (ad 0)), some (vi (made)), some (vi (turn)), none] [] := by
    intro n4
    induction n4 with
    | zero => 
      intro made turn z4_ hRz4_ ht hn hI_z4__y hF
      refine i_iload_n G dX7_plan_4 rfl ?_
      refine i_bipush G dX7_plan_5 (by decide) ?_
      refine i_icmp_ge (tgt := 74) G dX7_plan_7 (by decide) (by omega) (by omega) (fun h7 => ?_) (fun h7 => ?_)
      · skip
        refine i_iload_n G dX7_plan_74 rfl ?_
        refine j_reti G hr dX7_plan_75 ?_
        have e : (made, z4_) = plL 30 z 0 := by first | exact hF | (rw [← hF, plL, if_neg (by omega)])
        exact ⟨rfl, by rw [← e], by rw [← e], hRz4_⟩
      · skip
        exfalso; omega
    | succ n4 ih4 => 
      intro made turn z4_ hRz4_ ht hn hI_z4__y hF
      have q2 : 0 ≤ z4_ 2 0 ∧ z4_ 2 0 ≤ 30 := hRz4_ 2 0
      refine i_iload_n G dX7_plan_4 rfl ?_
      refine i_bipush G dX7_plan_5 (by decide) ?_
      refine i_icmp_ge (tgt := 74) G dX7_plan_7 (by decide) (by omega) (by omega) (fun h7 => ?_) (fun h7 => ?_)
      · skip
        exfalso; omega
      · skip
        refine i_aload_n G dX7_plan_10 rfl ?_
        refine i_getr G F_X7_33 0 rfl rfl dX7_plan_11 ?_
        refine j_callE (q0 := 23) (As := []) (st := []) G K_X7_199 (c_hasRoom l hd hRz4_ hY  ) rfl rfl rfl (rm_ok (by decide) (by decide)) ⟨Nat.le_refl _, Nat.le_refl _⟩ (Nat.le_of_ble_eq_true rfl) dX7_plan_14 ?_
        obtain ⟨r14, er14⟩ : ∃ x_ : Int, x_ = (if z4_ 3 0 < 40 then 1 else 0) := ⟨_, rfl⟩
        rw [← er14]
        have b14 : (r14 = 0 ∧ 40 ≤ z4_ 3 0) ∨ (r14 = 1 ∧ z4_ 3 0 < 40) := by rw [er14]; split <;> omega
        refine i_if_eq (tgt := 74) G dX7_plan_17 (by decide) (by omega) (fun h17 => ?_) (fun h17 => ?_)
        · skip
          refine i_iload_n G dX7_plan_74 rfl ?_
          refine j_reti G hr dX7_plan_75 ?_
          have e : (made, z4_) = plL 30 z 0 := by first | exact hF | (rw [← hF, plL, if_neg (by omega)])
          exact ⟨rfl, by rw [← e], by rw [← e], hRz4_⟩
        · skip
          refine i_aload_n G dX7_plan_20 rfl ?_
          refine j_callE (q0 := 0) (As := []) (st := []) G K_X7_209 (c_nextToPlan l hd hRz4_ hY hI_z4__y  ) rfl rfl rfl (rm_ok (by decide) (by decide)) ⟨Nat.le_refl _, Nat.le_refl _⟩ (Nat.le_of_ble_eq_true rfl) dX7_plan_21 ?_
          have b21 : -1 ≤ (ntF z4_) ∧ (ntF z4_) < z4_ 2 0 := ntF_in hRz4_
          refine i_istore_n (L' := [some (.ref (ad 0)), some (vi (made)), some (vi (turn)), some (vi ((ntF z4_)))]) G dX7_plan_24 (by decide) rfl ?_
          refine i_iload_n G dX7_plan_25 rfl ?_
          refine i_iconst G dX7_plan_26 ?_
          refine i_icmp_ne (tgt := 32) G dX7_plan_27 (by decide) (by omega) (by omega) (fun h27 => ?_) (fun h27 => ?_)
          · skip
            refine i_aload_n G dX7_plan_32 rfl ?_
            refine i_getr G F_X7_33 0 rfl rfl dX7_plan_33 ?_
            refine i_aload_n G dX7_plan_36 rfl ?_
            refine i_iload_n G dX7_plan_37 rfl ?_
            refine j_callE (q0 := 0) (As := [vi ((ntF z4_))]) (st := [.ref (ad 23)]) G K_X7_213 (c_kindToPlan l hd hRz4_ hY (ntF z4_) (by first | assumption | omega)) rfl rfl rfl (rm_ok (by decide) (by decide)) ⟨Nat.le_refl _, Nat.le_refl _⟩ (Nat.le_of_ble_eq_true rfl) dX7_plan_38 ?_
            have b38 : (ktF z4_ (ntF z4_)) = 99 ∨ (ktF z4_ (ntF z4_)) = 117 := by unfold ktF; split <;> omega
            refine i_iload_n G dX7_plan_41 rfl ?_
            refine i_aload_n G dX7_plan_42 rfl ?_
            refine i_getr G F_X7_19 0 rfl rfl dX7_plan_43 ?_
            refine i_iload_n G dX7_plan_46 rfl ?_
            refine i_aload_n G dX7_plan_47 rfl ?_
            refine i_getr G F_X7_10 0 rfl rfl dX7_plan_48 ?_
            refine i_aload_n G dX7_plan_51 rfl ?_
            refine i_getr G F_X7_10 0 rfl rfl dX7_plan_52 ?_
            refine i_getr G F_X7_181 1 rfl rfl dX7_plan_55 ?_
            refine j_callE (q0 := 14) (As := [vi ((ntF z4_)), .ref (ad 1), .ref (ad 10)]) (st := [vi ((ntF z4_)), vi ((ktF z4_ (ntF z4_))), .ref (ad 23)]) G K_X7_170 (d_danger_0 l hd hRz4_ hY hI_z4__y (ntF z4_) (by first | assumption | omega)) rfl rfl rfl (rm_ok (by decide) (by decide)) ⟨Nat.le_refl _, Nat.le_refl _⟩ (Nat.le_of_ble_eq_true rfl) dX7_plan_58 ?_
            have b58 : 0 ≤ (dgC z4_ 16 (ds z4_ 16) (ntF z4_)) ∧ (dgC z4_ 16 (ds z4_ 16) (ntF z4_)) ≤ 1000 := dgC_in _ _ _ _
            refine j_callZi (q0 := 23) (As := [vi ((ktF z4_ (ntF z4_))), vi ((ntF z4_)), vi ((dgC z4_ 16 (ds z4_ 16) (ntF z4_)))]) (st := []) G K_X7_205 (c_make l hd hRz4_ hY (ktF z4_ (ntF z4_)) (ntF z4_) (dgC z4_ 16 (ds z4_ 16) (ntF z4_)) (by omega) (by omega) (by omega) (by omega)) rfl rfl rfl (rm_ok (by decide) (by decide)) ⟨Nat.le_refl _, Nat.le_refl _⟩ (Nat.le_of_ble_eq_true rfl) dX7_plan_61 (fun r61 z61 q61 => ?_)
            obtain ⟨er61, ez61, hRz61⟩ := q61
            refine i_pop G rfl dX7_plan_64 ?_
            refine i_iinc (L' := [some (.ref (ad 0)), some (vi (made + 1)), some (vi (turn)), some (vi ((ntF z4_)))]) G dX7_plan_65 (by decide) rfl rfl ?_
            refine i_iinc (L' := [some (.ref (ad 0)), some (vi (made + 1)), some (vi (turn + 1)), some (vi ((ntF z4_)))]) G dX7_plan_68 (by decide) rfl rfl ?_
            refine i_goto (tgt := 4) G dX7_plan_71 (by decide) ?_
            refine i_forget (L' := [some (.ref (ad 0)), some (vi (made + 1)), some (vi (turn + 1)), none]) ⟨rfl, ⟨rfl, ⟨rfl, trivial⟩⟩⟩ ?_
            have hW9 : WF z61 := by rw [ez61]; exact WF_mk hI_z4__y.1 hRz4_ (by omega) (by omega) (by omega)
            have hI9 : CW z61 y := CW_k hI_z4__y hW9 (fun i hi => by rw [ez61]; exact mkF_k _ _ _ _ (by omega))
            exact ih4 _ (turn + 1) z61 hRz61 (by omega) (by omega) hI9 (by rw [← hF, plL, if_pos (by omega), if_neg (by omega), ez61]; rfl)
          · skip
            refine i_iload_n G dX7_plan_30 rfl ?_
            refine j_reti G hr dX7_plan_31 ?_
            have e := hF
            rw [plL, if_pos (by omega), if_pos (by omega)] at e
            exact ⟨rfl, by rw [← e], by rw [← e], hRz4_⟩
  exact lp4 30 0 0 z hR (by omega) (by omega) hI_z_y rfl
set_option maxHeartbeats 4000000 in
set_option maxRecDepth 100000 in
theorem c_unsafe_0 (l : Launch) {D : va_G} {aC : Nat → ClassId} {ad : Nat → Nat} (hd : wDi ad shC) {z y : wZ} (hR : Rng z) (hY : Rng y) (hI_z_y : CW z y)   : cE l D aC ad shC yX7_unsafe cX7_unsafe 4 (.int) (rmL 3) [.ref (ad 0), vi 0] z y (unL z 16 (z 2 0).toNat 0 0) := by
  refine c_i [some (.ref (ad 0)), some (vi (0)), none, none] (by decide +kernel) rfl (Nat.le_of_ble_eq_true rfl) rfl hd ?_
  intro p e s m args below meth c A G hr
  have q2 : 0 ≤ z 2 0 ∧ z 2 0 ≤ 30 := hR 2 0
  refine i_iconst G dX7_unsafe_0 ?_
  refine i_istore_n (L' := [some (.ref (ad 0)), some (vi (0)), some (vi (0)), none]) G dX7_unsafe_1 (by decide) rfl ?_
  refine i_iconst G dX7_unsafe_2 ?_
  refine i_istore_n (L' := [some (.ref (ad 0)), some (vi (0)), some (vi (0)), some (vi (0))]) G dX7_unsafe_3 (by decide) rfl ?_
  have lp4 : ∀ (n4 : Nat) (acc b : Int), (0 ≤ b) → (b + n4 = z 2 0) → (unL z 16 n4 b acc = unL z 16 (z 2 0).toNat 0 0) → JW p l e (rmL 3) s m args below meth c 4 D aC ad A shC (MQ below (cQi D aC ad shC (fun r_ z_ y_ => r_ = (unL z 16 (z 2 0).toNat 0 0) ∧ z_ = z ∧ y_ = y) A) args s 0 0 A) 0 0 (zc z y) 4 [some (.ref (ad 0)), some (vi (0)), some (vi (acc)), some (vi (b))] [] := by
    intro n4
    induction n4 with
    | zero => 
      intro acc b hb hn hF
      refine i_iload_n G dX7_unsafe_4 rfl ?_
      refine i_aload_n G dX7_unsafe_5 rfl ?_
      refine i_getr G F_X7_19 0 rfl rfl dX7_unsafe_6 ?_
      refine j_getz G F_X7_143 14 rfl rfl (by decide) dX7_unsafe_9 ?_
      have b9 : 0 ≤ z 2 0 ∧ z 2 0 ≤ 30 := hR 2 _
      refine i_icmp_ge (tgt := 62) G dX7_unsafe_12 (by decide) (by omega) (by omega) (fun h12 => ?_) (fun h12 => ?_)
      · skip
        refine i_iload_n G dX7_unsafe_62 rfl ?_
        refine j_reti G hr dX7_unsafe_63 ?_
        exact ⟨hF, rfl, rfl⟩
      · skip
        exfalso; omega
    | succ n4 ih4 => 
      intro acc b hb hn hF
      refine i_iload_n G dX7_unsafe_4 rfl ?_
      refine i_aload_n G dX7_unsafe_5 rfl ?_
      refine i_getr G F_X7_19 0 rfl rfl dX7_unsafe_6 ?_
      refine j_getz G F_X7_143 14 rfl rfl (by decide) dX7_unsafe_9 ?_
      have b9 : 0 ≤ z 2 0 ∧ z 2 0 ≤ 30 := hR 2 _
      refine i_icmp_ge (tgt := 62) G dX7_unsafe_12 (by decide) (by omega) (by omega) (fun h12 => ?_) (fun h12 => ?_)
      · skip
        exfalso; omega
      · skip
        refine i_aload_n G dX7_unsafe_15 rfl ?_
        refine i_getr G F_X7_19 0 rfl rfl dX7_unsafe_16 ?_
        refine i_getr G F_X7_167 14 rfl rfl dX7_unsafe_19 ?_
        refine i_iload_n G dX7_unsafe_22 rfl ?_
        refine j_zald_z G 19 rfl (by decide) (by decide) (by omega) (by omega) dX7_unsafe_23 ?_
        have b23 : 0 ≤ z 21 b ∧ z 21 b ≤ 1 := hR 21 _
        refine i_if_ne (tgt := 56) G dX7_unsafe_24 (by decide) (by omega) (fun h24 => ?_) (fun h24 => ?_)
        · skip
          refine i_iinc (L' := [some (.ref (ad 0)), some (vi (0)), some (vi (acc)), some (vi (b + 1))]) G dX7_unsafe_56 (by decide) rfl rfl ?_
          refine i_goto (tgt := 4) G dX7_unsafe_59 (by decide) ?_
          exact ih4 _ (b + 1) (by omega) (by omega) (by rw [← hF, unL]; first | rw [if_pos (by omega)] | rw [if_neg (by omega)])
        · skip
          refine i_aload_n G dX7_unsafe_27 rfl ?_
          refine i_getr G F_X7_19 0 rfl rfl dX7_unsafe_28 ?_
          refine i_iload_n G dX7_unsafe_31 rfl ?_
          refine i_aload_n G dX7_unsafe_32 rfl ?_
          refine i_getr G F_X7_10 0 rfl rfl dX7_unsafe_33 ?_
          refine i_aload_n G dX7_unsafe_36 rfl ?_
          refine i_getr G F_X7_10 0 rfl rfl dX7_unsafe_37 ?_
          refine i_iload_n G dX7_unsafe_40 rfl ?_
          refine j_callr (q0 := 1) (As := [vi (0)]) (st := [.ref (ad 1), vi (b), .ref (ad 14)]) G K_X7_106 (c_view_0 l hd hR hY  ) rfl rfl rfl (rm_ok (by decide) (by decide)) ⟨Nat.le_refl _, Nat.le_refl _⟩ (Nat.le_of_ble_eq_true rfl) dX7_unsafe_41 ?_
          refine j_callE (q0 := 14) (As := [vi (b), .ref (ad 1), .ref (ad 10)]) (st := []) G K_X7_170 (d_danger_0 l hd hR hY hI_z_y b (by first | assumption | omega)) rfl rfl rfl (rm_ok (by decide) (by decide)) ⟨Nat.le_refl _, Nat.le_refl _⟩ (Nat.le_of_ble_eq_true rfl) dX7_unsafe_44 ?_
          have b44 : 0 ≤ (dgC z 16 (ds z 16) b) ∧ (dgC z 16 (ds z 16) b) ≤ 1000 := dgC_in _ _ _ _
          refine i_sipush G dX7_unsafe_47 (by decide) ?_
          refine i_icmp_ne (tgt := 56) G dX7_unsafe_50 (by decide) (by omega) (by omega) (fun h50 => ?_) (fun h50 => ?_)
          · skip
            refine i_iinc (L' := [some (.ref (ad 0)), some (vi (0)), some (vi (acc)), some (vi (b + 1))]) G dX7_unsafe_56 (by decide) rfl rfl ?_
            refine i_goto (tgt := 4) G dX7_unsafe_59 (by decide) ?_
            exact ih4 _ (b + 1) (by omega) (by omega) (by rw [← hF, unL]; first | rw [if_pos (by omega)] | rw [if_neg (by omega)])
          · skip
            refine i_iinc (L' := [some (.ref (ad 0)), some (vi (0)), some (vi (acc + 1)), some (vi (b))]) G dX7_unsafe_53 (by decide) rfl rfl ?_
            refine i_iinc (L' := [some (.ref (ad 0)), some (vi (0)), some (vi (acc + 1)), some (vi (b + 1))]) G dX7_unsafe_56 (by decide) rfl rfl ?_
            refine i_goto (tgt := 4) G dX7_unsafe_59 (by decide) ?_
            exact ih4 _ (b + 1) (by omega) (by omega) (by rw [← hF, unL]; first | rw [if_pos (by omega)] | rw [if_neg (by omega)])
  exact lp4 (z 2 0).toNat 0 0 (by omega) (by omega) rfl
set_option maxHeartbeats 4000000 in
set_option maxRecDepth 100000 in
theorem c_unsafe_1 (l : Launch) {D : va_G} {aC : Nat → ClassId} {ad : Nat → Nat} (hd : wDi ad shC) {z y : wZ} (hR : Rng z) (hY : Rng y) (hI_z_y : CW z y)   : cE l D aC ad shC yX7_unsafe cX7_unsafe 4 (.int) (rmL 3) [.ref (ad 0), vi 1] z y (unL z 15 (z 2 0).toNat 0 0) := by
  refine c_i [some (.ref (ad 0)), some (vi (1)), none, none] (by decide +kernel) rfl (Nat.le_of_ble_eq_true rfl) rfl hd ?_
  intro p e s m args below meth c A G hr
  have q2 : 0 ≤ z 2 0 ∧ z 2 0 ≤ 30 := hR 2 0
  refine i_iconst G dX7_unsafe_0 ?_
  refine i_istore_n (L' := [some (.ref (ad 0)), some (vi (1)), some (vi (0)), none]) G dX7_unsafe_1 (by decide) rfl ?_
  refine i_iconst G dX7_unsafe_2 ?_
  refine i_istore_n (L' := [some (.ref (ad 0)), some (vi (1)), some (vi (0)), some (vi (0))]) G dX7_unsafe_3 (by decide) rfl ?_
  have lp4 : ∀ (n4 : Nat) (acc b : Int), (0 ≤ b) → (b + n4 = z 2 0) → (unL z 15 n4 b acc = unL z 15 (z 2 0).toNat 0 0) → JW p l e (rmL 3) s m args below meth c 4 D aC ad A shC (MQ below (cQi D aC ad shC (fun r_ z_ y_ => r_ = (unL z 15 (z 2 0).toNat 0 0) ∧ z_ = z ∧ y_ = y) A) args s 0 0 A) 0 0 (zc z y) 4 [some (.ref (ad 0)), some (vi (1)), some (vi (acc)), some (vi (b))] [] := by
    intro n4
    induction n4 with
    | zero => 
      intro acc b hb hn hF
      refine i_iload_n G dX7_unsafe_4 rfl ?_
      refine i_aload_n G dX7_unsafe_5 rfl ?_
      refine i_getr G F_X7_19 0 rfl rfl dX7_unsafe_6 ?_
      refine j_getz G F_X7_143 14 rfl rfl (by decide) dX7_unsafe_9 ?_
      have b9 : 0 ≤ z 2 0 ∧ z 2 0 ≤ 30 := hR 2 _
      refine i_icmp_ge (tgt := 62) G dX7_unsafe_12 (by decide) (by omega) (by omega) (fun h12 => ?_) (fun h12 => ?_)
      · skip
        refine i_iload_n G dX7_unsafe_62 rfl ?_
        refine j_reti G hr dX7_unsafe_63 ?_
        exact ⟨hF, rfl, rfl⟩
      · skip
        exfalso; omega
    | succ n4 ih4 => 
      intro acc b hb hn hF
      refine i_iload_n G dX7_unsafe_4 rfl ?_
      refine i_aload_n G dX7_unsafe_5 rfl ?_
      refine i_getr G F_X7_19 0 rfl rfl dX7_unsafe_6 ?_
      refine j_getz G F_X7_143 14 rfl rfl (by decide) dX7_unsafe_9 ?_
      have b9 : 0 ≤ z 2 0 ∧ z 2 0 ≤ 30 := hR 2 _
      refine i_icmp_ge (tgt := 62) G dX7_unsafe_12 (by decide) (by omega) (by omega) (fun h12 => ?_) (fun h12 => ?_)
      · skip
        exfalso; omega
      · skip
        refine i_aload_n G dX7_unsafe_15 rfl ?_
        refine i_getr G F_X7_19 0 rfl rfl dX7_unsafe_16 ?_
        refine i_getr G F_X7_167 14 rfl rfl dX7_unsafe_19 ?_
        refine i_iload_n G dX7_unsafe_22 rfl ?_
        refine j_zald_z G 19 rfl (by decide) (by decide) (by omega) (by omega) dX7_unsafe_23 ?_
        have b23 : 0 ≤ z 21 b ∧ z 21 b ≤ 1 := hR 21 _
        refine i_if_ne (tgt := 56) G dX7_unsafe_24 (by decide) (by omega) (fun h24 => ?_) (fun h24 => ?_)
        · skip
          refine i_iinc (L' := [some (.ref (ad 0)), some (vi (1)), some (vi (acc)), some (vi (b + 1))]) G dX7_unsafe_56 (by decide) rfl rfl ?_
          refine i_goto (tgt := 4) G dX7_unsafe_59 (by decide) ?_
          exact ih4 _ (b + 1) (by omega) (by omega) (by rw [← hF, unL]; first | rw [if_pos (by omega)] | rw [if_neg (by omega)])
        · skip
          refine i_aload_n G dX7_unsafe_27 rfl ?_
          refine i_getr G F_X7_19 0 rfl rfl dX7_unsafe_28 ?_
          refine i_iload_n G dX7_unsafe_31 rfl ?_
          refine i_aload_n G dX7_unsafe_32 rfl ?_
          refine i_getr G F_X7_10 0 rfl rfl dX7_unsafe_33 ?_
          refine i_aload_n G dX7_unsafe_36 rfl ?_
          refine i_getr G F_X7_10 0 rfl rfl dX7_unsafe_37 ?_
          refine i_iload_n G dX7_unsafe_40 rfl ?_
          refine j_callr (q0 := 1) (As := [vi (1)]) (st := [.ref (ad 1), vi (b), .ref (ad 14)]) G K_X7_106 (c_view_1 l hd hR hY  ) rfl rfl rfl (rm_ok (by decide) (by decide)) ⟨Nat.le_refl _, Nat.le_refl _⟩ (Nat.le_of_ble_eq_true rfl) dX7_unsafe_41 ?_
          refine j_callE (q0 := 14) (As := [vi (b), .ref (ad 1), .ref (ad 7)]) (st := []) G K_X7_170 (d_danger_1 l hd hR hY hI_z_y b (by first | assumption | omega)) rfl rfl rfl (rm_ok (by decide) (by decide)) ⟨Nat.le_refl _, Nat.le_refl _⟩ (Nat.le_of_ble_eq_true rfl) dX7_unsafe_44 ?_
          have b44 : 0 ≤ (dgC z 15 (ds z 15) b) ∧ (dgC z 15 (ds z 15) b) ≤ 1000 := dgC_in _ _ _ _
          refine i_sipush G dX7_unsafe_47 (by decide) ?_
          refine i_icmp_ne (tgt := 56) G dX7_unsafe_50 (by decide) (by omega) (by omega) (fun h50 => ?_) (fun h50 => ?_)
          · skip
            refine i_iinc (L' := [some (.ref (ad 0)), some (vi (1)), some (vi (acc)), some (vi (b + 1))]) G dX7_unsafe_56 (by decide) rfl rfl ?_
            refine i_goto (tgt := 4) G dX7_unsafe_59 (by decide) ?_
            exact ih4 _ (b + 1) (by omega) (by omega) (by rw [← hF, unL]; first | rw [if_pos (by omega)] | rw [if_neg (by omega)])
          · skip
            refine i_iinc (L' := [some (.ref (ad 0)), some (vi (1)), some (vi (acc + 1)), some (vi (b))]) G dX7_unsafe_53 (by decide) rfl rfl ?_
            refine i_iinc (L' := [some (.ref (ad 0)), some (vi (1)), some (vi (acc + 1)), some (vi (b + 1))]) G dX7_unsafe_56 (by decide) rfl rfl ?_
            refine i_goto (tgt := 4) G dX7_unsafe_59 (by decide) ?_
            exact ih4 _ (b + 1) (by omega) (by omega) (by rw [← hF, unL]; first | rw [if_pos (by omega)] | rw [if_neg (by omega)])
  exact lp4 (z 2 0).toNat 0 0 (by omega) (by omega) rfl
set_option maxHeartbeats 4000000 in
set_option maxRecDepth 100000 in
theorem c_openTasks (l : Launch) {D : va_G} {aC : Nat → ClassId} {ad : Nat → Nat} (hd : wDi ad shC) {z y : wZ} (hR : Rng z) (hY : Rng y)   : cE l D aC ad shC yX7_openTasks cX7_openTasks 3 (.int) (rmL 1) [.ref (ad 0)] z y (opL z (z 3 0).toNat 0 0) := by
  refine c_i [some (.ref (ad 0)), none, none] (by decide +kernel) rfl (Nat.le_of_ble_eq_true rfl) rfl hd ?_
  intro p e s m args below meth c A G hr
  have q3 : 0 ≤ z 3 0 ∧ z 3 0 ≤ 40 := hR 3 0
  refine i_iconst G dX7_openTasks_0 ?_
  refine i_istore_n (L' := [some (.ref (ad 0)), some (vi (0)), none]) G dX7_openTasks_1 (by decide) rfl ?_
  refine i_iconst G dX7_openTasks_2 ?_
  refine i_istore_n (L' := [some (.ref (ad 0)), some (vi (0)), some (vi (0))]) G dX7_openTasks_3 (by decide) rfl ?_
  have lp4 : ∀ (n4 : Nat) (acc t : Int), (0 ≤ t) → (t + n4 = z 3 0) → (opL z n4 t acc = opL z (z 3 0).toNat 0 0) → JW p l e (rmL 1) s m args below meth c 3 D aC ad A shC (MQ below (cQi D aC ad shC (fun r_ z_ y_ => r_ = (opL z (z 3 0).toNat 0 0) ∧ z_ = z ∧ y_ = y) A) args s 0 0 A) 0 0 (zc z y) 4 [some (.ref (ad 0)), some (vi (acc)), some (vi (t))] [] := by
    intro n4
    induction n4 with
    | zero => 
      intro acc t ht hn hF
      refine i_iload_n G dX7_openTasks_4 rfl ?_
      refine i_aload_n G dX7_openTasks_5 rfl ?_
      refine i_getr G F_X7_33 0 rfl rfl dX7_openTasks_6 ?_
      refine j_getz G F_X7_236 23 rfl rfl (by decide) dX7_openTasks_9 ?_
      have b9 : 0 ≤ z 3 0 ∧ z 3 0 ≤ 40 := hR 3 _
      refine i_icmp_ge (tgt := 35) G dX7_openTasks_12 (by decide) (by omega) (by omega) (fun h12 => ?_) (fun h12 => ?_)
      · skip
        refine i_iload_n G dX7_openTasks_35 rfl ?_
        refine j_reti G hr dX7_openTasks_36 ?_
        exact ⟨hF, rfl, rfl⟩
      · skip
        exfalso; omega
    | succ n4 ih4 => 
      intro acc t ht hn hF
      refine i_iload_n G dX7_openTasks_4 rfl ?_
      refine i_aload_n G dX7_openTasks_5 rfl ?_
      refine i_getr G F_X7_33 0 rfl rfl dX7_openTasks_6 ?_
      refine j_getz G F_X7_236 23 rfl rfl (by decide) dX7_openTasks_9 ?_
      have b9 : 0 ≤ z 3 0 ∧ z 3 0 ≤ 40 := hR 3 _
      refine i_icmp_ge (tgt := 35) G dX7_openTasks_12 (by decide) (by omega) (by omega) (fun h12 => ?_) (fun h12 => ?_)
      · skip
        exfalso; omega
      · skip
        refine i_aload_n G dX7_openTasks_15 rfl ?_
        refine i_getr G F_X7_33 0 rfl rfl dX7_openTasks_16 ?_
        refine i_iload_n G dX7_openTasks_19 rfl ?_
        refine j_callE (q0 := 23) (As := [vi (t)]) (st := []) G K_X7_227 (c_isOpen l hd hR hY t (by omega)) rfl rfl rfl (rm_ok (by decide) (by decide)) ⟨Nat.le_refl _, Nat.le_refl _⟩ (Nat.le_of_ble_eq_true rfl) dX7_openTasks_20 ?_
        obtain ⟨r20, er20⟩ : ∃ x_ : Int, x_ = (if z 26 t = -1 then 1 else 0) := ⟨_, rfl⟩
        rw [← er20]
        have b20 : (r20 = 1 ∧ z 26 t = -1) ∨ (r20 = 0 ∧ ¬ z 26 t = -1) := by rw [er20]; split <;> omega
        refine i_if_eq (tgt := 29) G dX7_openTasks_23 (by decide) (by omega) (fun h23 => ?_) (fun h23 => ?_)
        · skip
          refine i_iinc (L' := [some (.ref (ad 0)), some (vi (acc)), some (vi (t + 1))]) G dX7_openTasks_29 (by decide) rfl rfl ?_
          refine i_goto (tgt := 4) G dX7_openTasks_32 (by decide) ?_
          exact ih4 _ (t + 1) (by omega) (by omega) (by rw [← hF, opL]; first | rw [if_pos (by omega)] | rw [if_neg (by omega)])
        · skip
          refine i_iinc (L' := [some (.ref (ad 0)), some (vi (acc + 1)), some (vi (t))]) G dX7_openTasks_26 (by decide) rfl rfl ?_
          refine i_iinc (L' := [some (.ref (ad 0)), some (vi (acc + 1)), some (vi (t + 1))]) G dX7_openTasks_29 (by decide) rfl rfl ?_
          refine i_goto (tgt := 4) G dX7_openTasks_32 (by decide) ?_
          exact ih4 _ (t + 1) (by omega) (by omega) (by rw [← hF, opL]; first | rw [if_pos (by omega)] | rw [if_neg (by omega)])
  exact lp4 (z 3 0).toNat 0 0 (by omega) (by omega) rfl
set_option maxHeartbeats 4000000 in
set_option maxRecDepth 100000 in
theorem c_isSound (l : Launch) {D : va_G} {aC : Nat → ClassId} {ad : Nat → Nat} (hd : wDi ad shC) {z y : wZ} (hR : Rng z) (hY : Rng y) (hI_z_y : CW z y)   : cYi l D aC ad shC yX7_isSound cX7_isSound 1 (.boolean) (rmL 3) [.ref (ad 0)] z y (fun r_ y2 => r_ = 1 ∧ Rng y2 ∧ ∀ k', k' ≠ 66 → y2 k' = y k') := by
  refine c_i [some (.ref (ad 0))] (by decide +kernel) rfl (Nat.le_of_ble_eq_true rfl) rfl hd ?_
  intro p e s m args below meth c A G hr
  have q3 : 0 ≤ z 3 0 ∧ z 3 0 ≤ 40 := hR 3 0
  have hW := hI_z_y.1.1
  have hC1 := hI_z_y.2.1
  have hC2 := hI_z_y.2.2
  refine i_aload_n G dX7_isSound_0 rfl ?_
  refine i_getr G F_X7_10 0 rfl rfl dX7_isSound_1 ?_
  refine i_aload_n G dX7_isSound_4 rfl ?_
  refine i_getr G F_X7_10 0 rfl rfl dX7_isSound_5 ?_
  refine i_getr G F_X7_93 1 rfl rfl dX7_isSound_8 ?_
  refine j_callYi (q0 := 1) (As := [.ref (ad 7)]) (st := []) G K_X7_280 (c_hasLeastMinutes_1 l hd hR hY  (by first | assumption | omega) (by first | assumption | omega)) rfl rfl rfl (rm_ok (by decide) (by decide)) ⟨Nat.le_refl _, Nat.le_refl _⟩ (Nat.le_of_ble_eq_true rfl) dX7_isSound_11 (fun r11 y11 q11 => ?_)
  obtain ⟨er11, hRy11, ho11⟩ := q11
  refine i_if_eq (tgt := 55) G dX7_isSound_14 (by decide) (by omega) (fun h14 => ?_) (fun h14 => ?_)
  · skip
    exfalso; omega
  · skip
    refine i_aload_n G dX7_isSound_17 rfl ?_
    refine i_getr G F_X7_10 0 rfl rfl dX7_isSound_18 ?_
    refine i_aload_n G dX7_isSound_21 rfl ?_
    refine i_getr G F_X7_10 0 rfl rfl dX7_isSound_22 ?_
    refine i_getr G F_X7_181 1 rfl rfl dX7_isSound_25 ?_
    have hC3 : CIv z y11 16 65 := CIv_y hC2 (ho11 65 (by decide))
    refine j_callYi (q0 := 1) (As := [.ref (ad 10)]) (st := []) G K_X7_280 (c_hasLeastMinutes_0 l hd hR hRy11  (by first | assumption | omega) (by first | assumption | omega)) rfl rfl rfl (rm_ok (by decide) (by decide)) ⟨Nat.le_refl _, Nat.le_refl _⟩ (Nat.le_of_ble_eq_true rfl) dX7_isSound_28 (fun r28 y28 q28 => ?_)
    obtain ⟨er28, hRy28, ho28⟩ := q28
    refine i_if_eq (tgt := 55) G dX7_isSound_31 (by decide) (by omega) (fun h31 => ?_) (fun h31 => ?_)
    · skip
      exfalso; omega
    · skip
      refine i_aload_n G dX7_isSound_34 rfl ?_
      refine i_getr G F_X7_33 0 rfl rfl dX7_isSound_35 ?_
      refine i_aload_n G dX7_isSound_38 rfl ?_
      refine i_getr G F_X7_40 0 rfl rfl dX7_isSound_39 ?_
      refine j_getz G F_X7_239 28 rfl rfl (by decide) dX7_isSound_42 ?_
      have b42 : 0 ≤ z 4 0 ∧ z 4 0 ≤ 4 := hR 4 _
      refine j_callE (q0 := 23) (As := [vi ((z 4 0))]) (st := []) G K_X7_284 (c_areDoneByOneOf l hd hR hRy28 (z 4 0) (by omega)) rfl rfl rfl (rm_ok (by decide) (by decide)) ⟨Nat.le_refl _, Nat.le_refl _⟩ (Nat.le_of_ble_eq_true rfl) dX7_isSound_45 ?_
      have b45 : 0 ≤ (adL z (z 4 0) (z 3 0).toNat 0) ∧ (adL z (z 4 0) (z 3 0).toNat 0) ≤ 1 := adL_in _ _ _ _
      have a48 : adL z (z 4 0) (z 3 0).toNat 0 = 1 := adL_1 hR _ 0 (fun s h1 h2 => (hI_z_y.1.2.2.1 s h1 (by omega)).2.2.2)
      refine i_if_eq (tgt := 55) G dX7_isSound_48 (by decide) (by omega) (fun h48 => ?_) (fun h48 => ?_)
      · skip
        exfalso; omega
      · skip
        refine i_iconst G dX7_isSound_51 ?_
        refine i_goto (tgt := 56) G dX7_isSound_52 (by decide) ?_
        refine j_retz G hr (by omega) dX7_isSound_56 ?_
        exact ⟨rfl, rfl, hRy28, fun k' hk => (ho28 k' hk).trans (ho11 k' hk)⟩
set_option maxHeartbeats 4000000 in
set_option maxRecDepth 100000 in
theorem c_carryOut (l : Launch) {D : va_G} {aC : Nat → ClassId} {ad : Nat → Nat} (hd : wDi ad shC) {z y : wZ} (hR : Rng z) (hY : Rng y) (hI_z_y : CW z y) (r : Int) (t : Int) (hr0 : 0 ≤ r ∧ r < z 4 0) (ht : 0 ≤ t ∧ t < z 3 0) (hms : msF z t = 1) (hmn : mnK (z 23 t) ≤ z 8 0) (hsum : z 29 r + z 8 0 ≤ 60000) : cMv l D aC ad shC yX7_carryOut cX7_carryOut 5 (rmL 4) [.ref (ad 0), vi r, vi t] z y (fun z2 y2 => z2 = coF z r t ∧ Rng z2 ∧ Rng y2 ∧ CW z2 y2 ∧ ∀ k', k' ≠ 64 → k' ≠ 65 → y2 k' = y k') := by
  refine c_v [some (.ref (ad 0)), some (vi (r)), some (vi (t)), none, none] (by decide +kernel) rfl (Nat.le_of_ble_eq_true rfl) rfl hd ?_
  intro p e s m args below meth c A G hr
  have q3 : 0 ≤ z 3 0 ∧ z 3 0 ≤ 40 := hR 3 0
  have q4 : 0 ≤ z 4 0 ∧ z 4 0 ≤ 4 := hR 4 0
  have q1 : 0 ≤ z 1 0 ∧ z 1 0 ≤ 24 := hR 1 0
  have q2 : 0 ≤ z 2 0 ∧ z 2 0 ≤ 30 := hR 2 0
  have hk := hI_z_y.1.2.2.1 t ht.1 ht.2
  have hm2 : z 23 t = 114 → 0 < z 6 0 ∧ ds z 16 (z 17 (z 24 t)) (z 18 (z 24 t)) ≤ 300 := fun h => by
    have hq := hms
    unfold msF at hq
    rw [if_neg (by omega), if_pos h] at hq
    by_cases q : 0 < z 6 0 ∧ ds z 16 (z 17 (z 24 t)) (z 18 (z 24 t)) ≤ 300
    · exact q
    · rw [if_neg q] at hq; omega
  refine i_aload_n G dX7_carryOut_0 rfl ?_
  refine i_getr G F_X7_33 0 rfl rfl dX7_carryOut_1 ?_
  refine i_getr G F_X7_220 23 rfl rfl dX7_carryOut_4 ?_
  refine i_iload_n G dX7_carryOut_7 rfl ?_
  refine j_cald_z G 24 rfl (by decide) (by decide) (by omega) (by omega) dX7_carryOut_8 ?_
  have b8 : 0 ≤ z 23 t ∧ z 23 t ≤ 65535 := hR 23 _
  refine i_istore_n (L' := [some (.ref (ad 0)), some (vi (r)), some (vi (t)), some (vi ((z 23 t))), none]) G dX7_carryOut_9 (by decide) rfl ?_
  refine i_aload_n G dX7_carryOut_10 rfl ?_
  refine i_getr G F_X7_33 0 rfl rfl dX7_carryOut_11 ?_
  refine i_getr G F_X7_224 23 rfl rfl dX7_carryOut_14 ?_
  refine i_iload_n G dX7_carryOut_17 rfl ?_
  refine j_iald_z G 25 rfl (by decide) (by decide) (by omega) (by omega) dX7_carryOut_18 ?_
  have b18 : 0 ≤ z 24 t ∧ z 24 t ≤ 29 := hR 24 _
  refine i_istore (L' := [some (.ref (ad 0)), some (vi (r)), some (vi (t)), some (vi ((z 23 t))), some (vi ((z 24 t)))]) G dX7_carryOut_19 (by decide) rfl ?_
  refine i_iload_n G dX7_carryOut_21 rfl ?_
  refine i_bipush G dX7_carryOut_22 (by decide) ?_
  refine i_icmp_ne (tgt := 70) G dX7_carryOut_24 (by decide) (by omega) (by omega) (fun h24 => ?_) (fun h24 => ?_)
  · skip
    refine i_iload_n G dX7_carryOut_70 rfl ?_
    refine i_bipush G dX7_carryOut_71 (by decide) ?_
    refine i_icmp_ne (tgt := 85) G dX7_carryOut_73 (by decide) (by omega) (by omega) (fun h73 => ?_) (fun h73 => ?_)
    · skip
      refine i_aload_n G dX7_carryOut_85 rfl ?_
      refine i_getr G F_X7_19 0 rfl rfl dX7_carryOut_86 ?_
      refine i_getr G F_X7_167 14 rfl rfl dX7_carryOut_89 ?_
      refine i_iload G dX7_carryOut_92 rfl ?_
      refine i_iload_n G dX7_carryOut_94 rfl ?_
      refine i_bipush G dX7_carryOut_95 (by decide) ?_
      refine i_icmp_ne (tgt := 104) G dX7_carryOut_97 (by decide) (by omega) (by omega) (fun h97 => ?_) (fun h97 => ?_)
      · skip
        refine i_iconst G dX7_carryOut_104 ?_
        refine j_zast_z G 19 rfl (by decide) (by decide) (by omega) (by omega) (by omega) (by decide) hR (by show (0 : Int) ≤ _ ∧ _ ≤ (1 : Int); omega) dX7_carryOut_105 (fun z105 ez105 hRz105 => ?_)
        have hD : z105 = dnF z t := by unfold dnF; rw [if_neg (by omega), if_neg (by omega), ez105]; first | rw [if_pos (by omega)] | rw [if_neg (by omega)]
        have hX1 : CIv z105 y 15 64 := CIv_congr hI_z_y.2.1 (fun i hi => by rw [ez105, zp_nk _ (by omega)])
        have hX2 : CIv z105 y 16 65 := CIv_congr hI_z_y.2.2 (fun i hi => by rw [ez105, zp_nk _ (by omega)])
        have hYo : ∀ k', k' ≠ 64 → k' ≠ 65 → y k' = y k' := fun _ _ _ => rfl
        have d8 : z105 8 0 = z 8 0 := by rw [hD, dnF_k z t (by decide)]
        have d29 : z105 29 r = z 29 r := by rw [hD, dnF_k z t (by decide)]
        refine i_aload_n G dX7_carryOut_106 rfl ?_
        refine i_getr G F_X7_40 0 rfl rfl dX7_carryOut_107 ?_
        refine i_iload_n G dX7_carryOut_110 rfl ?_
        refine i_iload_n G dX7_carryOut_111 rfl ?_
        refine j_callsE (As := [vi ((z 23 t))]) (st := [vi (r), .ref (ad 28)]) G K_X7_345 (c_minutesFor l hd hRz105 hY (z 23 t) (by first | assumption | omega)) rfl (rm_ok (by decide) (by decide)) ⟨Nat.le_refl _, Nat.le_refl _⟩ (Nat.le_of_ble_eq_true rfl) dX7_carryOut_112 ?_
        have b112 : 10 ≤ (mnK (z 23 t)) ∧ (mnK (z 23 t)) ≤ 200 := mnK_in _
        refine j_callZv (q0 := 28) (As := [vi (r), vi ((mnK (z 23 t)))]) (st := []) G K_X7_357 (c_spend l hd hRz105 hY r (mnK (z 23 t)) (by omega) (by omega) (by omega)) rfl rfl rfl (rm_ok (by decide) (by decide)) ⟨Nat.le_refl _, Nat.le_refl _⟩ (Nat.le_of_ble_eq_true rfl) dX7_carryOut_115 (fun z115 q115 => ?_)
        obtain ⟨ez115, hRz115⟩ := q115
        refine i_aload_n G dX7_carryOut_118 rfl ?_
        refine i_getr G F_X7_33 0 rfl rfl dX7_carryOut_119 ?_
        refine i_getr G F_X7_233 23 rfl rfl dX7_carryOut_122 ?_
        refine i_iload_n G dX7_carryOut_125 rfl ?_
        refine i_iload_n G dX7_carryOut_126 rfl ?_
        refine j_iast_z G 27 rfl (by decide) (by decide) (by omega) (by omega) (by decide) hRz115 (by show (-1 : Int) ≤ _ ∧ _ ≤ (3 : Int); omega) dX7_carryOut_127 (fun z127 ez127 hRz127 => ?_)
        refine j_retv G hr dX7_carryOut_128 ?_
        have hE : z127 = coF z r t := by rw [ez127, ez115, hD]; rfl
        have hk9 : ∀ i, i ≠ 8 → i ≠ 29 → i ≠ 26 → z127 i = z105 i := fun i a b c => by rw [ez127, ez115]; unfold spdF; rw [zp_nk _ c, zp_nk _ b, zp_nk _ a]
        exact ⟨hE, hRz127, hY, ⟨by rw [hE]; exact WF_co hI_z_y.1 hR ht.1 ht.2 hr0.2 hms, CIv_congr hX1 (fun i hi => hk9 i (by omega) (by omega) (by omega)), CIv_congr hX2 (fun i hi => hk9 i (by omega) (by omega) (by omega))⟩, hYo⟩
      · skip
        refine i_iconst G dX7_carryOut_100 ?_
        refine i_goto (tgt := 105) G dX7_carryOut_101 (by decide) ?_
        refine j_zast_z G 19 rfl (by decide) (by decide) (by omega) (by omega) (by omega) (by decide) hR (by show (0 : Int) ≤ _ ∧ _ ≤ (1 : Int); omega) dX7_carryOut_105 (fun z105 ez105 hRz105 => ?_)
        have hD : z105 = dnF z t := by unfold dnF; rw [if_neg (by omega), if_neg (by omega), ez105]; first | rw [if_pos (by omega)] | rw [if_neg (by omega)]
        have hX1 : CIv z105 y 15 64 := CIv_congr hI_z_y.2.1 (fun i hi => by rw [ez105, zp_nk _ (by omega)])
        have hX2 : CIv z105 y 16 65 := CIv_congr hI_z_y.2.2 (fun i hi => by rw [ez105, zp_nk _ (by omega)])
        have hYo : ∀ k', k' ≠ 64 → k' ≠ 65 → y k' = y k' := fun _ _ _ => rfl
        have d8 : z105 8 0 = z 8 0 := by rw [hD, dnF_k z t (by decide)]
        have d29 : z105 29 r = z 29 r := by rw [hD, dnF_k z t (by decide)]
        refine i_aload_n G dX7_carryOut_106 rfl ?_
        refine i_getr G F_X7_40 0 rfl rfl dX7_carryOut_107 ?_
        refine i_iload_n G dX7_carryOut_110 rfl ?_
        refine i_iload_n G dX7_carryOut_111 rfl ?_
        refine j_callsE (As := [vi ((z 23 t))]) (st := [vi (r), .ref (ad 28)]) G K_X7_345 (c_minutesFor l hd hRz105 hY (z 23 t) (by first | assumption | omega)) rfl (rm_ok (by decide) (by decide)) ⟨Nat.le_refl _, Nat.le_refl _⟩ (Nat.le_of_ble_eq_true rfl) dX7_carryOut_112 ?_
        have b112 : 10 ≤ (mnK (z 23 t)) ∧ (mnK (z 23 t)) ≤ 200 := mnK_in _
        refine j_callZv (q0 := 28) (As := [vi (r), vi ((mnK (z 23 t)))]) (st := []) G K_X7_357 (c_spend l hd hRz105 hY r (mnK (z 23 t)) (by omega) (by omega) (by omega)) rfl rfl rfl (rm_ok (by decide) (by decide)) ⟨Nat.le_refl _, Nat.le_refl _⟩ (Nat.le_of_ble_eq_true rfl) dX7_carryOut_115 (fun z115 q115 => ?_)
        obtain ⟨ez115, hRz115⟩ := q115
        refine i_aload_n G dX7_carryOut_118 rfl ?_
        refine i_getr G F_X7_33 0 rfl rfl dX7_carryOut_119 ?_
        refine i_getr G F_X7_233 23 rfl rfl dX7_carryOut_122 ?_
        refine i_iload_n G dX7_carryOut_125 rfl ?_
        refine i_iload_n G dX7_carryOut_126 rfl ?_
        refine j_iast_z G 27 rfl (by decide) (by decide) (by omega) (by omega) (by decide) hRz115 (by show (-1 : Int) ≤ _ ∧ _ ≤ (3 : Int); omega) dX7_carryOut_127 (fun z127 ez127 hRz127 => ?_)
        refine j_retv G hr dX7_carryOut_128 ?_
        have hE : z127 = coF z r t := by rw [ez127, ez115, hD]; rfl
        have hk9 : ∀ i, i ≠ 8 → i ≠ 29 → i ≠ 26 → z127 i = z105 i := fun i a b c => by rw [ez127, ez115]; unfold spdF; rw [zp_nk _ c, zp_nk _ b, zp_nk _ a]
        exact ⟨hE, hRz127, hY, ⟨by rw [hE]; exact WF_co hI_z_y.1 hR ht.1 ht.2 hr0.2 hms, CIv_congr hX1 (fun i hi => hk9 i (by omega) (by omega) (by omega)), CIv_congr hX2 (fun i hi => hk9 i (by omega) (by omega) (by omega))⟩, hYo⟩
    · skip
      refine i_aload_n G dX7_carryOut_76 rfl ?_
      refine i_iload G dX7_carryOut_77 rfl ?_
      have hm3 := hm2 h73
      refine j_callZv (q0 := 0) (As := [vi ((z 24 t))]) (st := []) G K_X7_155 (c_putUp l hd hR hY hI_z_y (z 24 t) (by first | assumption | omega) (by first | assumption | omega) (by first | assumption | omega) (by first | assumption | omega)) rfl rfl rfl (rm_ok (by decide) (by decide)) ⟨Nat.le_refl _, Nat.le_refl _⟩ (Nat.le_of_ble_eq_true rfl) dX7_carryOut_79 (fun z79 q79 => ?_)
      obtain ⟨ez79, hRz79⟩ := q79
      refine i_goto (tgt := 106) G dX7_carryOut_82 (by decide) ?_
      have hD : z79 = dnF z t := by unfold dnF; rw [if_neg (by omega), if_pos (by omega), ez79]
      have hX1 : CIv z79 y 15 64 := CIv_congr hI_z_y.2.1 (fun i hi => by rw [ez79]; exact puF_k _ _ (by omega) (by omega) (by omega) (by omega))
      have hX2 : CIv z79 y 16 65 := CIv_congr hI_z_y.2.2 (fun i hi => by rw [ez79]; exact puF_k _ _ (by omega) (by omega) (by omega) (by omega))
      have hYo : ∀ k', k' ≠ 64 → k' ≠ 65 → y k' = y k' := fun _ _ _ => rfl
      have d8 : z79 8 0 = z 8 0 := by rw [hD, dnF_k z t (by decide)]
      have d29 : z79 29 r = z 29 r := by rw [hD, dnF_k z t (by decide)]
      refine i_aload_n G dX7_carryOut_106 rfl ?_
      refine i_getr G F_X7_40 0 rfl rfl dX7_carryOut_107 ?_
      refine i_iload_n G dX7_carryOut_110 rfl ?_
      refine i_iload_n G dX7_carryOut_111 rfl ?_
      refine j_callsE (As := [vi ((z 23 t))]) (st := [vi (r), .ref (ad 28)]) G K_X7_345 (c_minutesFor l hd hRz79 hY (z 23 t) (by first | assumption | omega)) rfl (rm_ok (by decide) (by decide)) ⟨Nat.le_refl _, Nat.le_refl _⟩ (Nat.le_of_ble_eq_true rfl) dX7_carryOut_112 ?_
      have b112 : 10 ≤ (mnK (z 23 t)) ∧ (mnK (z 23 t)) ≤ 200 := mnK_in _
      refine j_callZv (q0 := 28) (As := [vi (r), vi ((mnK (z 23 t)))]) (st := []) G K_X7_357 (c_spend l hd hRz79 hY r (mnK (z 23 t)) (by omega) (by omega) (by omega)) rfl rfl rfl (rm_ok (by decide) (by decide)) ⟨Nat.le_refl _, Nat.le_refl _⟩ (Nat.le_of_ble_eq_true rfl) dX7_carryOut_115 (fun z115 q115 => ?_)
      obtain ⟨ez115, hRz115⟩ := q115
      refine i_aload_n G dX7_carryOut_118 rfl ?_
      refine i_getr G F_X7_33 0 rfl rfl dX7_carryOut_119 ?_
      refine i_getr G F_X7_233 23 rfl rfl dX7_carryOut_122 ?_
      refine i_iload_n G dX7_carryOut_125 rfl ?_
      refine i_iload_n G dX7_carryOut_126 rfl ?_
      refine j_iast_z G 27 rfl (by decide) (by decide) (by omega) (by omega) (by decide) hRz115 (by show (-1 : Int) ≤ _ ∧ _ ≤ (3 : Int); omega) dX7_carryOut_127 (fun z127 ez127 hRz127 => ?_)
      refine j_retv G hr dX7_carryOut_128 ?_
      have hE : z127 = coF z r t := by rw [ez127, ez115, hD]; rfl
      have hk9 : ∀ i, i ≠ 8 → i ≠ 29 → i ≠ 26 → z127 i = z79 i := fun i a b c => by rw [ez127, ez115]; unfold spdF; rw [zp_nk _ c, zp_nk _ b, zp_nk _ a]
      exact ⟨hE, hRz127, hY, ⟨by rw [hE]; exact WF_co hI_z_y.1 hR ht.1 ht.2 hr0.2 hms, CIv_congr hX1 (fun i hi => hk9 i (by omega) (by omega) (by omega)), CIv_congr hX2 (fun i hi => hk9 i (by omega) (by omega) (by omega))⟩, hYo⟩
  · skip
    refine i_aload_n G dX7_carryOut_27 rfl ?_
    refine i_iload G dX7_carryOut_28 rfl ?_
    refine j_callv (q0 := 0) (As := [vi ((z 24 t))]) (st := []) G K_X7_351 (c_see l hd hR hY hI_z_y (z 24 t) (by first | assumption | omega)) rfl rfl rfl (rm_ok (by decide) (by decide)) ⟨Nat.le_refl _, Nat.le_refl _⟩ (Nat.le_of_ble_eq_true rfl) dX7_carryOut_30 (fun z30 y30 q30 => ?_)
    obtain ⟨ez30, hRz30, hRy30, hI_z30_y30, ho30⟩ := q30
    refine i_aload_n G dX7_carryOut_33 rfl ?_
    refine i_getr G F_X7_10 0 rfl rfl dX7_carryOut_34 ?_
    refine i_aload_n G dX7_carryOut_37 rfl ?_
    refine i_getr G F_X7_10 0 rfl rfl dX7_carryOut_38 ?_
    refine i_getr G F_X7_93 1 rfl rfl dX7_carryOut_41 ?_
    refine i_iload G dX7_carryOut_44 rfl ?_
    refine i_iconst G dX7_carryOut_46 ?_
    have hW := hI_z30_y30.1.1
    have hC := hI_z30_y30.2.1
    refine j_callv (q0 := 1) (As := [.ref (ad 7), vi ((z 24 t)), vi (0)]) (st := []) G K_X7_102 (c_setGone_1 l hd hRz30 hRy30 (z 24 t) 0 (by first | assumption | omega) (by first | assumption | omega) (by first | assumption | omega) (by first | assumption | omega)) rfl rfl rfl (rm_ok (by decide) (by decide)) ⟨Nat.le_refl _, Nat.le_refl _⟩ (Nat.le_of_ble_eq_true rfl) dX7_carryOut_47 (fun z47 y47 q47 => ?_)
    obtain ⟨ez47, hRz47, hRy47, ho47, hc47⟩ := q47
    refine i_aload_n G dX7_carryOut_50 rfl ?_
    refine i_getr G F_X7_10 0 rfl rfl dX7_carryOut_51 ?_
    refine i_aload_n G dX7_carryOut_54 rfl ?_
    refine i_getr G F_X7_10 0 rfl rfl dX7_carryOut_55 ?_
    refine i_getr G F_X7_181 1 rfl rfl dX7_carryOut_58 ?_
    refine i_iload G dX7_carryOut_61 rfl ?_
    refine i_iconst G dX7_carryOut_63 ?_
    have hW2 : WT z47 := by rw [ez47]; exact WT_zp hW _ _ (by decide)
    have hC2 : CIv z47 y47 16 65 := CIv_congr (CIv_y hI_z30_y30.2.2 (ho47 65 (by decide))) (fun i hi => by rw [ez47, zp_nk _ (by omega)])
    refine j_callv (q0 := 1) (As := [.ref (ad 10), vi ((z 24 t)), vi (0)]) (st := []) G K_X7_102 (c_setGone_0 l hd hRz47 hRy47 (z 24 t) 0 (by first | assumption | omega) (by first | assumption | omega) (by first | assumption | omega) (by first | assumption | omega)) rfl rfl rfl (rm_ok (by decide) (by decide)) ⟨Nat.le_refl _, Nat.le_refl _⟩ (Nat.le_of_ble_eq_true rfl) dX7_carryOut_64 (fun z64 y64 q64 => ?_)
    obtain ⟨ez64, hRz64, hRy64, ho64, hc64⟩ := q64
    refine i_goto (tgt := 106) G dX7_carryOut_67 (by decide) ?_
    have hD : z64 = dnF z t := by unfold dnF; rw [if_pos (by omega), ez64, ez47, ez30]
    have hX1 : CIv z64 y64 15 64 := CIv_y (CIv_congr hc47 (fun i hi => by rw [ez64, zp_nk _ (by omega)])) (ho64 64 (by decide))
    have hX2 : CIv z64 y64 16 65 := hc64
    have hYo : ∀ k', k' ≠ 64 → k' ≠ 65 → y64 k' = y k' := fun k' a b => (ho64 k' b).trans ((ho47 k' a).trans (ho30 k' b))
    have d8 : z64 8 0 = z 8 0 := by rw [hD, dnF_k z t (by decide)]
    have d29 : z64 29 r = z 29 r := by rw [hD, dnF_k z t (by decide)]
    refine i_aload_n G dX7_carryOut_106 rfl ?_
    refine i_getr G F_X7_40 0 rfl rfl dX7_carryOut_107 ?_
    refine i_iload_n G dX7_carryOut_110 rfl ?_
    refine i_iload_n G dX7_carryOut_111 rfl ?_
    refine j_callsE (As := [vi ((z 23 t))]) (st := [vi (r), .ref (ad 28)]) G K_X7_345 (c_minutesFor l hd hRz64 hRy64 (z 23 t) (by first | assumption | omega)) rfl (rm_ok (by decide) (by decide)) ⟨Nat.le_refl _, Nat.le_refl _⟩ (Nat.le_of_ble_eq_true rfl) dX7_carryOut_112 ?_
    have b112 : 10 ≤ (mnK (z 23 t)) ∧ (mnK (z 23 t)) ≤ 200 := mnK_in _
    refine j_callZv (q0 := 28) (As := [vi (r), vi ((mnK (z 23 t)))]) (st := []) G K_X7_357 (c_spend l hd hRz64 hRy64 r (mnK (z 23 t)) (by omega) (by omega) (by omega)) rfl rfl rfl (rm_ok (by decide) (by decide)) ⟨Nat.le_refl _, Nat.le_refl _⟩ (Nat.le_of_ble_eq_true rfl) dX7_carryOut_115 (fun z115 q115 => ?_)
    obtain ⟨ez115, hRz115⟩ := q115
    refine i_aload_n G dX7_carryOut_118 rfl ?_
    refine i_getr G F_X7_33 0 rfl rfl dX7_carryOut_119 ?_
    refine i_getr G F_X7_233 23 rfl rfl dX7_carryOut_122 ?_
    refine i_iload_n G dX7_carryOut_125 rfl ?_
    refine i_iload_n G dX7_carryOut_126 rfl ?_
    refine j_iast_z G 27 rfl (by decide) (by decide) (by omega) (by omega) (by decide) hRz115 (by show (-1 : Int) ≤ _ ∧ _ ≤ (3 : Int); omega) dX7_carryOut_127 (fun z127 ez127 hRz127 => ?_)
    refine j_retv G hr dX7_carryOut_128 ?_
    have hE : z127 = coF z r t := by rw [ez127, ez115, hD]; rfl
    have hk9 : ∀ i, i ≠ 8 → i ≠ 29 → i ≠ 26 → z127 i = z64 i := fun i a b c => by rw [ez127, ez115]; unfold spdF; rw [zp_nk _ c, zp_nk _ b, zp_nk _ a]
    exact ⟨hE, hRz127, hRy64, ⟨by rw [hE]; exact WF_co hI_z_y.1 hR ht.1 ht.2 hr0.2 hms, CIv_congr hX1 (fun i hi => hk9 i (by omega) (by omega) (by omega)), CIv_congr hX2 (fun i hi => hk9 i (by omega) (by omega) (by omega))⟩, hYo⟩
set_option maxHeartbeats 4000000 in
set_option maxRecDepth 100000 in
theorem c_comesTo (l : Launch) {D : va_G} {aC : Nat → ClassId} {ad : Nat → Nat} (hd : wDi ad shC) {z y : wZ} (hR : Rng z) (hY : Rng y) (hI_z_y : CW z y) (r : Int) (t : Int) (hr0 : 0 ≤ r ∧ r < z 4 0) (ht : 0 ≤ t ∧ t < z 3 0) (hsum : z 29 r + z 8 0 ≤ 60000) (hh : htF z r t = 1) : cMi l D aC ad shC yX7_comesTo cX7_comesTo 7 (.boolean) (rmL 4) [.ref (ad 0), vi r, vi t] z y (fun r_ z2 y2 => r_ = (cmL r t (glF z t) 1000 z).1 ∧ z2 = (cmL r t (glF z t) 1000 z).2 ∧ Rng z2 ∧ Rng y2 ∧ CW z2 y2 ∧ (∀ k', k' ≠ 65 → y2 k' = y k') ∧ z2 29 r + z2 8 0 = z 29 r + z 8 0 ∧ (r_ = 1 → mnK (z2 23 t) ≤ z2 8 0) ∧ (r_ = 0 ∨ r_ = 1)) := by
  refine c_i [some (.ref (ad 0)), some (vi (r)), some (vi (t)), none, none, none, none] (by decide +kernel) rfl (Nat.le_of_ble_eq_true rfl) rfl hd ?_
  intro p e s m args below meth c A G hr
  have q3 : 0 ≤ z 3 0 ∧ z 3 0 ≤ 40 := hR 3 0
  have q4 : 0 ≤ z 4 0 ∧ z 4 0 ≤ 4 := hR 4 0
  have hh0 : z 27 r = glF z t → mnK (z 23 t) ≤ z 8 0 := fun e => by
    have hq := hh
    have hd9 := ds_in hI_z_y.1.1 hR 16 (z 27 r) (glF z t)
    unfold htF at hq
    split at hq <;> omega
  refine i_aload_n G dX7_comesTo_0 rfl ?_
  refine i_iload_n G dX7_comesTo_1 rfl ?_
  refine j_callE (q0 := 0) (As := [vi (t)]) (st := []) G K_X7_342 (c_goalOf l hd hR hY hI_z_y t (by first | assumption | omega)) rfl rfl rfl (rm_ok (by decide) (by decide)) ⟨Nat.le_refl _, Nat.le_refl _⟩ (Nat.le_of_ble_eq_true rfl) dX7_comesTo_2 ?_
  have b2 : 0 ≤ (glF z t) ∧ (glF z t) ≤ 15 := glF_in hR _
  refine i_istore_n (L' := [some (.ref (ad 0)), some (vi (r)), some (vi (t)), some (vi ((glF z t))), none, none, none]) G dX7_comesTo_5 (by decide) rfl ?_
  refine i_iconst G dX7_comesTo_6 ?_
  refine i_istore (L' := [some (.ref (ad 0)), some (vi (r)), some (vi (t)), some (vi ((glF z t))), some (vi (0)), none, none]) G dX7_comesTo_7 (by decide) rfl ?_
  refine i_forget (L' := [some (.ref (ad 0)), some (vi (r)), some (vi (t)), some (vi ((glF z t))), some (vi (0)), none, none]) ⟨rfl, ⟨rfl, ⟨rfl, ⟨rfl, ⟨rfl, trivial⟩⟩⟩⟩⟩ ?_
  have lp9 : ∀ (n9 : Nat) (j : Int) (z9_ : wZ) (y9_ : wZ), Rng z9_ → Rng y9_ → (0 ≤ j) → (j + n9 = 1000) → (CW z9_ y9_) → (∀ k, k ≠ 8 → k ≠ 27 → k ≠ 29 → k ≠ 16 → k ≠ 22 → k ≠ 32 → z9_ k = z k) → (z9_ 29 r + z9_ 8 0 = z 29 r + z 8 0) → (∀ k', k' ≠ 65 → y9_ k' = y k') → (z9_ 27 r = glF z t → mnK (z9_ 23 t) ≤ z9_ 8 0) → (cmL r t (glF z t) n9 z9_ = cmL r t (glF z t) 1000 z) → JW p l e (rmL 4) s m args below meth c 7 D aC ad A shC (MQ below (cQi D aC ad shC (fun r_ z2 y2 => r_ = (cmL r t (glF z t) 1000 z).1 ∧ z2 = (cmL r t (glF z t) 1000 z).2 ∧ Rng z2 ∧ Rng y2 ∧ CW z2 y2 ∧ (∀ k', k' ≠ 65 → y2 k' = y k') ∧ z2 29 r + z2 8 0 = z 29 r + z 8 0 ∧ (r_ = 1 → mnK (z2 23 t) ≤ z2 8 0) ∧ (r_ = 0 ∨ r_ = 1)) A) args s 0 0 A) 0 0 (zc z9_ y9_) 9 [some (.ref (ad 0)), some (vi (r)), some (vi (t)), some (vi ((glF z t))), some (vi (j)), none, none] [] := by
    intro n9
    induction n9 with
    | zero => 
      intro j z9_ y9_ hRz9_ hRy9_ hj hn hI_z9__y9_ hkk hs9 hyo hA hF
      refine i_iload G dX7_comesTo_9 rfl ?_
      refine i_sipush G dX7_comesTo_11 (by decide) ?_
      refine i_icmp_ge (tgt := 132) G dX7_comesTo_14 (by decide) (by omega) (by omega) (fun h14 => ?_) (fun h14 => ?_)
      · skip
        refine i_iconst G dX7_comesTo_132 ?_
        refine j_retz G hr (by omega) dX7_comesTo_133 ?_
        have e : ((0 : Int), z9_) = cmL r t (glF z t) 1000 z := hF
        exact ⟨by rw [← e], by rw [← e], hRz9_, hRy9_, hI_z9__y9_, hyo, hs9, fun h => by omega, Or.inl rfl⟩
      · skip
        exfalso; omega
    | succ n9 ih9 => 
      intro j z9_ y9_ hRz9_ hRy9_ hj hn hI_z9__y9_ hkk hs9 hyo hA hF
      have q1 : 0 ≤ z9_ 1 0 ∧ z9_ 1 0 ≤ 24 := hRz9_ 1 0
      have e3 : z9_ 3 0 = z 3 0 := by rw [hkk 3 (by decide) (by decide) (by decide) (by decide) (by decide) (by decide)]
      have e4 : z9_ 4 0 = z 4 0 := by rw [hkk 4 (by decide) (by decide) (by decide) (by decide) (by decide) (by decide)]
      have eg : glF z9_ t = glF z t := glF_cg t ⟨hkk 11 (by decide) (by decide) (by decide) (by decide) (by decide) (by decide), hkk 17 (by decide) (by decide) (by decide) (by decide) (by decide) (by decide), hkk 23 (by decide) (by decide) (by decide) (by decide) (by decide) (by decide), hkk 24 (by decide) (by decide) (by decide) (by decide) (by decide) (by decide)⟩
      have gi := glF_in hR t
      refine i_iload G dX7_comesTo_9 rfl ?_
      refine i_sipush G dX7_comesTo_11 (by decide) ?_
      refine i_icmp_ge (tgt := 132) G dX7_comesTo_14 (by decide) (by omega) (by omega) (fun h14 => ?_) (fun h14 => ?_)
      · skip
        exfalso; omega
      · skip
        refine i_aload_n G dX7_comesTo_17 rfl ?_
        refine i_getr G F_X7_40 0 rfl rfl dX7_comesTo_18 ?_
        refine i_getr G F_X7_248 28 rfl rfl dX7_comesTo_21 ?_
        refine i_iload_n G dX7_comesTo_24 rfl ?_
        refine j_iald_z G 29 rfl (by decide) (by decide) (by omega) (by omega) dX7_comesTo_25 ?_
        have b25 : 0 ≤ z9_ 27 r ∧ z9_ 27 r ≤ 15 := hRz9_ 27 _
        refine i_istore (L' := [some (.ref (ad 0)), some (vi (r)), some (vi (t)), some (vi ((glF z t))), some (vi (j)), some (vi ((z9_ 27 r))), none]) G dX7_comesTo_26 (by decide) rfl ?_
        refine i_iload G dX7_comesTo_28 rfl ?_
        refine i_iload_n G dX7_comesTo_30 rfl ?_
        refine i_icmp_ne (tgt := 36) G dX7_comesTo_31 (by decide) (by omega) (by omega) (fun h31 => ?_) (fun h31 => ?_)
        · skip
          refine i_aload_n G dX7_comesTo_36 rfl ?_
          refine i_getr G F_X7_10 0 rfl rfl dX7_comesTo_37 ?_
          refine i_iload G dX7_comesTo_40 rfl ?_
          refine i_iload_n G dX7_comesTo_42 rfl ?_
          refine j_callE (q0 := 1) (As := [vi ((z9_ 27 r)), vi ((glF z t))]) (st := []) G K_X7_120 (d_trail l hd hRz9_ hRy9_ hI_z9__y9_ (z9_ 27 r) (glF z t) (by first | assumption | omega) (by first | assumption | omega)) rfl rfl rfl (rm_ok (by decide) (by decide)) ⟨Nat.le_refl _, Nat.le_refl _⟩ (Nat.le_of_ble_eq_true rfl) dX7_comesTo_43 ?_
          have b43 : -1 ≤ (nxt z9_ (z9_ 27 r) (glF z t)) ∧ (nxt z9_ (z9_ 27 r) (glF z t)) < z9_ 1 0 := nxtF_in hRz9_ _ _ _
          refine i_istore (L' := [some (.ref (ad 0)), some (vi (r)), some (vi (t)), some (vi ((glF z t))), some (vi (j)), some (vi ((z9_ 27 r))), some (vi ((nxt z9_ (z9_ 27 r) (glF z t))))]) G dX7_comesTo_46 (by decide) rfl ?_
          refine i_iload G dX7_comesTo_48 rfl ?_
          refine i_iconst G dX7_comesTo_50 ?_
          refine i_icmp_eq (tgt := 63) G dX7_comesTo_51 (by decide) (by omega) (by omega) (fun h51 => ?_) (fun h51 => ?_)
          · skip
            refine i_iconst G dX7_comesTo_63 ?_
            refine j_retz G hr (by omega) dX7_comesTo_64 ?_
            have e := hF
            rw [cmL, if_neg h31, if_pos (by omega)] at e
            exact ⟨by rw [← e], by rw [← e], hRz9_, hRy9_, hI_z9__y9_, hyo, hs9, fun h => by omega, Or.inl rfl⟩
          · skip
            refine i_aload_n G dX7_comesTo_54 rfl ?_
            refine i_iload_n G dX7_comesTo_55 rfl ?_
            refine i_iload_n G dX7_comesTo_56 rfl ?_
            refine j_callE (q0 := 0) (As := [vi (r), vi (t)]) (st := []) G K_X7_339 (c_hasTimeFor l hd hRz9_ hRy9_ hI_z9__y9_ r t (by first | assumption | omega) (by first | assumption | omega)) rfl rfl rfl (rm_ok (by decide) (by decide)) ⟨Nat.le_refl _, Nat.le_refl _⟩ (Nat.le_of_ble_eq_true rfl) dX7_comesTo_57 ?_
            obtain ⟨r57, er57⟩ : ∃ x_ : Int, x_ = (htF z9_ r t) := ⟨_, rfl⟩
            rw [← er57]
            have b57 : (r57 = 1 ∧ ds z9_ 16 (z9_ 27 r) (glF z9_ t) + mnK (z9_ 23 t) ≤ z9_ 8 0) ∨ (r57 = 0 ∧ ¬ ds z9_ 16 (z9_ 27 r) (glF z9_ t) + mnK (z9_ 23 t) ≤ z9_ 8 0) := by rw [er57]; unfold htF; split <;> omega
            refine i_if_ne (tgt := 65) G dX7_comesTo_60 (by decide) (by omega) (fun h60 => ?_) (fun h60 => ?_)
            · skip
              refine i_aload_n G dX7_comesTo_65 rfl ?_
              refine i_iload G dX7_comesTo_66 rfl ?_
              have hp := nxt_P hRz9_ (a := z9_ 27 r) (b := glF z t) (by omega)
              refine j_callv (q0 := 0) (As := [vi ((nxt z9_ (z9_ 27 r) (glF z t)))]) (st := []) G K_X7_351 (c_see l hd hRz9_ hRy9_ hI_z9__y9_ (nxt z9_ (z9_ 27 r) (glF z t)) (by first | assumption | omega)) rfl rfl rfl (rm_ok (by decide) (by decide)) ⟨Nat.le_refl _, Nat.le_refl _⟩ (Nat.le_of_ble_eq_true rfl) dX7_comesTo_68 (fun z68 y68 q68 => ?_)
              obtain ⟨ez68, hRz68, hRy68, hI_z68_y68, ho68⟩ := q68
              refine i_aload_n G dX7_comesTo_71 rfl ?_
              refine i_getr G F_X7_10 0 rfl rfl dX7_comesTo_72 ?_
              refine i_getr G F_X7_93 1 rfl rfl dX7_comesTo_75 ?_
              refine i_getr G F_X7_97 7 rfl rfl dX7_comesTo_78 ?_
              refine i_iload G dX7_comesTo_81 rfl ?_
              refine j_zald_z G 8 rfl (by decide) (by decide) (by omega) (by omega) dX7_comesTo_83 ?_
              have b83 : 0 ≤ z68 15 (nxt z9_ (z9_ 27 r) (glF z t)) ∧ z68 15 (nxt z9_ (z9_ 27 r) (glF z t)) ≤ 1 := hRz68 15 _
              refine i_if_ne (tgt := 126) G dX7_comesTo_84 (by decide) (by omega) (fun h84 => ?_) (fun h84 => ?_)
              · skip
                refine i_iinc (L' := [some (.ref (ad 0)), some (vi (r)), some (vi (t)), some (vi ((glF z t))), some (vi (j + 1)), some (vi ((z9_ 27 r))), some (vi ((nxt z9_ (z9_ 27 r) (glF z t))))]) G dX7_comesTo_126 (by decide) rfl rfl ?_
                refine i_goto (tgt := 9) G dX7_comesTo_129 (by decide) ?_
                refine i_forget (L' := [some (.ref (ad 0)), some (vi (r)), some (vi (t)), some (vi ((glF z t))), some (vi (j + 1)), none, none]) ⟨rfl, ⟨rfl, ⟨rfl, ⟨rfl, ⟨rfl, trivial⟩⟩⟩⟩⟩ ?_
                have hne : ¬ z68 15 (nxt z9_ (z9_ 27 r) (glF z t)) = 0 := h84
                have e15 : z68 15 = z9_ 15 := by rw [ez68, seF_k _ _ (by decide) (by decide) (by decide)]
                have e27 : z68 27 = z9_ 27 := by rw [ez68, seF_k _ _ (by decide) (by decide) (by decide)]
                exact ih9 (j + 1) z68 y68 hRz68 hRy68 (by omega) (by omega) hI_z68_y68 (fun k a b c d e f => by rw [ez68, seF_k _ _ d e f]; exact hkk k a b c d e f) (by rw [ez68, seF_k _ _ (by decide) (by decide) (by decide), seF_k _ _ (by decide) (by decide) (by decide)]; exact hs9) (fun k' hk => (ho68 k' hk).trans (hyo k' hk)) (fun e => absurd (by rw [← e27]; exact e) h31) (by rw [← hF, cmL, if_neg h31, if_neg (by omega), if_neg (by rw [← e15]; exact hne), ez68])
              · skip
                refine i_aload_n G dX7_comesTo_87 rfl ?_
                refine i_getr G F_X7_40 0 rfl rfl dX7_comesTo_88 ?_
                refine i_iload_n G dX7_comesTo_91 rfl ?_
                refine i_aload_n G dX7_comesTo_92 rfl ?_
                refine i_getr G F_X7_10 0 rfl rfl dX7_comesTo_93 ?_
                refine i_iload G dX7_comesTo_96 rfl ?_
                refine i_iload G dX7_comesTo_98 rfl ?_
                refine j_callE (q0 := 1) (As := [vi ((nxt z9_ (z9_ 27 r) (glF z t))), vi ((z9_ 27 r))]) (st := [vi (r), .ref (ad 28)]) G K_X7_354 (c_minutesFrom l hd hRz68 hRy68 (nxt z9_ (z9_ 27 r) (glF z t)) (z9_ 27 r) (by omega) (by omega)) rfl rfl rfl (rm_ok (by decide) (by decide)) ⟨Nat.le_refl _, Nat.le_refl _⟩ (Nat.le_of_ble_eq_true rfl) dX7_comesTo_100 ?_
                have b100 : 0 ≤ (ofm z68 (nxt z9_ (z9_ 27 r) (glF z t)) (z9_ 27 r)) ∧ (ofm z68 (nxt z9_ (z9_ 27 r) (glF z t)) (z9_ 27 r)) ≤ 300 := ofm_in hRz68 _ _
                have e8 : z68 8 0 = z9_ 8 0 := by rw [ez68, seF_k _ _ (by decide) (by decide) (by decide)]
                have e29 : z68 29 r = z9_ 29 r := by rw [ez68, seF_k _ _ (by decide) (by decide) (by decide)]
                have e27 : z68 27 r = z9_ 27 r := by rw [ez68, seF_k _ _ (by decide) (by decide) (by decide)]
                have eo : ofm z68 (nxt z9_ (z9_ 27 r) (glF z t)) (z9_ 27 r) = ofm z9_ (nxt z9_ (z9_ 27 r) (glF z t)) (z9_ 27 r) := by rw [ez68, seF_ofm]
                have hnn := ds_in hI_z9__y9_.1.1 hRz9_ 16 (oth z9_ (nxt z9_ (z9_ 27 r) (glF z t)) (z9_ 27 r)) (glF z t)
                have hpe := hp.2.2.2.2.2.2
                have hmk := mnK_in (z9_ 23 t)
                rw [eg] at b57
                refine j_callZv (q0 := 28) (As := [vi (r), vi ((ofm z68 (nxt z9_ (z9_ 27 r) (glF z t)) (z9_ 27 r)))]) (st := []) G K_X7_357 (c_spend l hd hRz68 hRy68 r (ofm z68 (nxt z9_ (z9_ 27 r) (glF z t)) (z9_ 27 r)) (by omega) (by omega) (by omega)) rfl rfl rfl (rm_ok (by decide) (by decide)) ⟨Nat.le_refl _, Nat.le_refl _⟩ (Nat.le_of_ble_eq_true rfl) dX7_comesTo_103 (fun z103 q103 => ?_)
                obtain ⟨ez103, hRz103⟩ := q103
                refine i_aload_n G dX7_comesTo_106 rfl ?_
                refine i_getr G F_X7_40 0 rfl rfl dX7_comesTo_107 ?_
                refine i_getr G F_X7_248 28 rfl rfl dX7_comesTo_110 ?_
                refine i_iload_n G dX7_comesTo_113 rfl ?_
                refine i_aload_n G dX7_comesTo_114 rfl ?_
                refine i_getr G F_X7_10 0 rfl rfl dX7_comesTo_115 ?_
                refine i_iload G dX7_comesTo_118 rfl ?_
                refine i_iload G dX7_comesTo_120 rfl ?_
                refine j_callE (q0 := 1) (As := [vi ((nxt z9_ (z9_ 27 r) (glF z t))), vi ((z9_ 27 r))]) (st := [vi (r), .ref (ad 29)]) G K_X7_360 (c_otherEnd l hd hRz103 hRy68 (nxt z9_ (z9_ 27 r) (glF z t)) (z9_ 27 r) (by omega) (by omega)) rfl rfl rfl (rm_ok (by decide) (by decide)) ⟨Nat.le_refl _, Nat.le_refl _⟩ (Nat.le_of_ble_eq_true rfl) dX7_comesTo_122 ?_
                have b122 : 0 ≤ (oth z103 (nxt z9_ (z9_ 27 r) (glF z t)) (z9_ 27 r)) ∧ (oth z103 (nxt z9_ (z9_ 27 r) (glF z t)) (z9_ 27 r)) ≤ 15 := oth_in hRz103 _ _
                refine j_iast_z G 29 rfl (by decide) (by decide) (by omega) (by omega) (by decide) hRz103 (by show (0 : Int) ≤ _ ∧ _ ≤ (15 : Int); omega) dX7_comesTo_125 (fun z125 ez125 hRz125 => ?_)
                refine i_iinc (L' := [some (.ref (ad 0)), some (vi (r)), some (vi (t)), some (vi ((glF z t))), some (vi (j + 1)), some (vi ((z9_ 27 r))), some (vi ((nxt z9_ (z9_ 27 r) (glF z t))))]) G dX7_comesTo_126 (by decide) rfl rfl ?_
                refine i_goto (tgt := 9) G dX7_comesTo_129 (by decide) ?_
                refine i_forget (L' := [some (.ref (ad 0)), some (vi (r)), some (vi (t)), some (vi ((glF z t))), some (vi (j + 1)), none, none]) ⟨rfl, ⟨rfl, ⟨rfl, ⟨rfl, ⟨rfl, trivial⟩⟩⟩⟩⟩ ?_
                have e15 : z68 15 = z9_ 15 := by rw [ez68, seF_k _ _ (by decide) (by decide) (by decide)]
                have hM : z125 = mvF z68 r (nxt z9_ (z9_ 27 r) (glF z t)) := by
                  unfold mvF
                  rw [ez125, ez103, spd_oth, e27]
                have hW9 : WF z125 := by rw [hM]; exact WF_mv hI_z68_y68.1 hp.1 (by rw [ez68, seF_k _ _ (by decide) (by decide) (by decide)]; exact hp.2.1)
                have hI9 : CW z125 y68 := CW_k hI_z68_y68 hW9 (fun i hi => by rw [hM]; exact mvF_k _ _ _ (by omega) (by omega) (by omega))
                have e29' : z125 29 r = z68 29 r + ofm z68 (nxt z9_ (z9_ 27 r) (glF z t)) (z9_ 27 r) := by rw [ez125, ez103]; simp [spdF, zp]
                have e8' : z125 8 0 = z68 8 0 - ofm z68 (nxt z9_ (z9_ 27 r) (glF z t)) (z9_ 27 r) := by rw [ez125, ez103]; simp [spdF, zp]
                have e23' : z125 23 = z9_ 23 := by rw [hM, mvF_k _ _ _ (by decide) (by decide) (by decide), ez68, seF_k _ _ (by decide) (by decide) (by decide)]
                exact ih9 (j + 1) z125 y68 hRz125 hRy68 (by omega) (by omega) hI9 (fun k a b c d e f => by rw [hM, mvF_k _ _ _ a c b, ez68, seF_k _ _ d e f]; exact hkk k a b c d e f) (by omega) (fun k' hk => (ho68 k' hk).trans (hyo k' hk)) (fun _ => by rw [e23']; omega) (by rw [← hF, cmL, if_neg h31, if_neg (by omega), if_pos (by rw [← e15]; exact h84), hM, ez68])
            · skip
              refine i_iconst G dX7_comesTo_63 ?_
              refine j_retz G hr (by omega) dX7_comesTo_64 ?_
              have e := hF
              rw [cmL, if_neg h31, if_pos (by omega)] at e
              exact ⟨by rw [← e], by rw [← e], hRz9_, hRy9_, hI_z9__y9_, hyo, hs9, fun h => by omega, Or.inl rfl⟩
        · skip
          refine i_iconst G dX7_comesTo_34 ?_
          refine j_retz G hr (by omega) dX7_comesTo_35 ?_
          have e := hF
          rw [cmL, if_pos h31] at e
          exact ⟨by rw [← e], by rw [← e], hRz9_, hRy9_, hI_z9__y9_, hyo, hs9, fun _ => hA h31, Or.inr rfl⟩
  exact lp9 1000 0 z y hR hY (by omega) (by omega) hI_z_y (fun _ _ _ _ _ _ _ => rfl) rfl (fun _ _ => rfl) hh0 rfl
