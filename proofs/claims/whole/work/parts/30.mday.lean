/-! the measure of a day -/
section MUE
def misL (z : wZ) : Nat → Nat
  | 0 => 0
  | n + 1 => misL z n + if z 15 (n : Int) = z 16 (n : Int) then 0 else 1
theorem misL_in (z : wZ) : ∀ n, misL z n ≤ n
  | 0 => Nat.le_refl _
  | n + 1 => by have := misL_in z n; unfold misL; split <;> omega
theorem misL_le {z w : wZ} (h : ∀ t, z 15 t = z 16 t → w 15 t = w 16 t) : ∀ n, misL w n ≤ misL z n
  | 0 => Nat.le_refl _
  | n + 1 => by
    have := misL_le h n
    unfold misL
    by_cases c : z 15 (n : Int) = z 16 (n : Int)
    · rw [if_pos c, if_pos (h _ c)]; omega
    · rw [if_neg c]; split <;> omega
theorem misL_lt {z w : wZ} (h : ∀ t, z 15 t = z 16 t → w 15 t = w 16 t) {T : Int} (h0 : 0 ≤ T) (hz : z 15 T ≠ z 16 T) (hw : w 15 T = w 16 T) : ∀ n : Nat, T < n → misL w n < misL z n
  | 0, hn => by omega
  | n + 1, hn => by
    unfold misL
    by_cases e : T = n
    · have := misL_le h n
      subst e
      rw [if_pos hw, if_neg hz]; omega
    · have := misL_lt h h0 hz hw n (by omega)
      by_cases c : z 15 (n : Int) = z 16 (n : Int)
      · rw [if_pos c, if_pos (h _ c)]; omega
      · rw [if_neg c]; split <;> omega
def muZ (z : wZ) : Nat := (z 8 0).toNat + misL z 24
theorem muZ_in {z : wZ} (hR : Rng z) : muZ z ≤ 504 := by
  have h8 : 0 ≤ z 8 0 ∧ z 8 0 ≤ 480 := hR 8 0
  have := misL_in z 24
  unfold muZ; omega
theorem se_eq (z : wZ) (t : Int) : ∀ s, z 15 s = z 16 s → seF z t 15 s = seF z t 16 s := fun s h => by
  rw [seF_k z t (by decide) (by decide) (by decide), seF_16]
  by_cases c : s = t
  · subst c; rw [zp_same]
  · rw [zp_ne _ (by omega)]; exact h
theorem mu_se {z : wZ} {t : Int} (h0 : 0 ≤ t ∧ t < 24) (h15 : z 15 t = 1) (h16 : z 16 t = 0) : muZ (seF z t) < muZ z := by
  have k := misL_lt (se_eq z t) h0.1 (by omega) (by rw [seF_k z t (by decide) (by decide) (by decide), seF_16, zp_same]) 24 (by omega)
  unfold muZ
  rw [seF_k z t (by decide) (by decide) (by decide)]; omega
theorem mu_mv {z : wZ} {r t : Int} (h8 : ofm (seF z t) t (seF z t 27 r) ≤ z 8 0) (h1 : 1 ≤ ofm (seF z t) t (seF z t 27 r)) : muZ (mvF (seF z t) r t) < muZ z := by
  have e : ∀ k, k ≠ 8 → k ≠ 29 → k ≠ 27 → mvF (seF z t) r t k = seF z t k := fun k a b c => mvF_k _ r t a b c
  have e8 : mvF (seF z t) r t 8 0 = z 8 0 - ofm (seF z t) t (seF z t 27 r) := by
    unfold mvF spdF
    rw [zp_nk _ (by decide), zp_nk _ (by decide), zp_same, seF_k z t (by decide) (by decide) (by decide)]
  have k := misL_le (z := z) (w := mvF (seF z t) r t) (fun s hs => by rw [e 15 (by decide) (by decide) (by decide), e 16 (by decide) (by decide) (by decide)]; exact se_eq z t s hs) 24
  unfold muZ
  rw [e8]; omega
theorem jdgS_zp (t r w : Int) (z : wZ) {k : Nat} (h : k ≠ 22 ∧ k ≠ 32) (a x : Int) : jdgS (zp z k a x) t r w = zp (jdgS z t r w) k a x := by
  unfold jdgS
  rw [zp_nk _ (Ne.symm h.2), zp_nk _ (Ne.symm h.1), zp_comm _ (Ne.symm h.2)]
  congr 1
  (repeat' split) <;> first | rfl | exact zp_comm _ h.1 _ _ _ _
theorem jdgL_zp (t r : Int) {k : Nat} (h : k ≠ 22 ∧ k ≠ 32) (a x : Int) : ∀ (n : Nat) (w : Int) (z : wZ), jdgL t r n w (zp z k a x) = zp (jdgL t r n w z) k a x
  | 0, _, _ => rfl
  | n + 1, w, z => by
    unfold jdgL
    rw [jdgS_zp t r w z h, jdgL_zp t r h a x n]
theorem seF_zp (z : wZ) (t : Int) {k : Nat} (h : k ≠ 22 ∧ k ≠ 32 ∧ k ≠ 15 ∧ k ≠ 16) (a x : Int) : seF (zp z k a x) t = zp (seF z t) k a x := by
  unfold seF
  rw [zp_nk _ (Ne.symm h.2.2.1), zp_comm _ h.2.2.2, jdgL_zp _ _ ⟨h.1, h.2.1⟩]
theorem puF_zp (z : wZ) (b : Int) {k : Nat} (h : k = 8 ∨ k = 29 ∨ k = 26) (a x : Int) : puF (zp z k a x) b = zp (puF z b) k a x := by
  have e : ∀ j, j ≠ k → (zp z k a x) j = z j := fun j hj => zp_nk _ hj
  unfold puF
  rw [e 17 (by omega), e 18 (by omega), e 6 (by omega), nxt_zc (z := z) (fun j hj => e j (by omega)), ds_zc (z := z) (by decide) (fun j hj => e j (by omega)),
    zp_comm _ (by omega : k ≠ 19), zp_comm _ (by omega : k ≠ 20), zp_comm _ (by omega : k ≠ 21), zp_comm _ (by omega : k ≠ 6)]
theorem dnF_zp (z : wZ) (t : Int) {k : Nat} (h : k = 8 ∨ k = 29 ∨ k = 26) (a x : Int) : dnF (zp z k a x) t = zp (dnF z t) k a x := by
  unfold dnF
  rw [zp_nk _ (by omega : (23 : Nat) ≠ k), zp_nk _ (by omega : (24 : Nat) ≠ k)]
  split
  · rw [seF_zp z _ (by omega), zp_comm _ (by omega : k ≠ 15), zp_comm _ (by omega : k ≠ 16)]
  · split
    · exact puF_zp z _ h a x
    · rw [zp_comm _ (by omega : k ≠ 21)]
theorem coF_eq (z : wZ) (r t : Int) : coF z r t = dnF (zp (spdF z r (mnK (z 23 t))) 26 t r) t := by
  unfold coF spdF
  rw [dnF_zp _ t (by decide), dnF_zp _ t (by decide), dnF_zp _ t (by decide), dnF_k z t (k := 8) (by decide), dnF_k z t (k := 29) (by decide)]
theorem mu_co {z : wZ} {r t : Int} (h8 : mnK (z 23 t) ≤ z 8 0) : muZ (coF z r t) < muZ z := by
  have e : ∀ k, k ≠ 8 → k ≠ 29 → k ≠ 26 → coF z r t k = dnF z t k := fun k a b c => by unfold coF spdF; rw [zp_nk _ c, zp_nk _ b, zp_nk _ a]
  have e8 : coF z r t 8 0 = z 8 0 - mnK (z 23 t) := by
    unfold coF spdF
    rw [zp_nk _ (by decide), zp_nk _ (by decide), zp_same, dnF_k z t (by decide)]
  have hm := mnK_in (z 23 t)
  have k := misL_le (z := z) (w := coF z r t) (fun s hs => by
    rw [e 15 (by decide) (by decide) (by decide), e 16 (by decide) (by decide) (by decide)]
    unfold dnF
    split
    · by_cases c : s = z 24 t
      · subst c; rw [zp_same, zp_nk _ (by decide), zp_same]
      · rw [zp_nk _ (by decide), zp_ne _ (by omega), zp_ne _ (by omega), zp_nk _ (by decide)]
        exact se_eq z _ s hs
    · split
      · rw [puF_k _ _ (by decide) (by decide) (by decide) (by decide), puF_k _ _ (by decide) (by decide) (by decide) (by decide)]; exact hs
      · rw [zp_nk _ (by decide), zp_nk _ (by decide)]; exact hs) 24
  unfold muZ
  rw [e8]; omega
theorem snL_stop {z : wZ} {r : Int} (d : Int) (h : choF z r = -1) : ∀ n : Nat, snL r n z d = (d, z)
  | 0 => rfl
  | n + 1 => by rw [snL, if_pos h]
end MUE

set_option maxHeartbeats 4000000 in
set_option maxRecDepth 100000 in
theorem m_chosen (l : Launch) {D : va_G} {aC : Nat → ClassId} {ad : Nat → Nat} (hd : wDi ad shM) {z y : wZ} (hR : Rng z) (hY : Rng y) (r : Int) (hr0 : 0 ≤ r ∧ r < z 4 0) (hF : WF z) : cYi l D aC ad shM yX8_chosen cX8_chosen 4 (.int) (rmL 5) [.ref (ad 40), vi r] z y (fun r_ y2 => r_ = choF z r ∧ Rng y2 ∧ ∀ k', k' ≠ 70 → y2 k' = y k') := by
  refine c_i [some (.ref (ad 40)), some (vi (r)), none, none] (by decide +kernel) rfl (Nat.le_of_ble_eq_true rfl) rfl hd ?_
  intro p e s m args below meth c A G hr
  have q3 : 0 ≤ z 3 0 ∧ z 3 0 ≤ 40 := hR 3 0
  have q4 : 0 ≤ z 4 0 ∧ z 4 0 ≤ 4 := hR 4 0
  have hr1 := hF.2.2.2 r hr0.1 hr0.2
  refine i_iconst G dX8_chosen_0 ?_
  refine i_istore_n (L' := [some (.ref (ad 40)), some (vi (r)), some (vi ((-1))), none]) G dX8_chosen_1 (by decide) rfl ?_
  refine i_iconst G dX8_chosen_2 ?_
  refine i_istore_n (L' := [some (.ref (ad 40)), some (vi (r)), some (vi ((-1))), some (vi (0))]) G dX8_chosen_3 (by decide) rfl ?_
  have lp4 : ∀ (n4 : Nat) (best t : Int) (y4_ : wZ), Rng y4_ → (0 ≤ t) → (t + n4 = z 3 0) → (-1 ≤ best ∧ best < t) → (∀ k', k' ≠ 70 → y4_ k' = y k') → (chL z r n4 t best = choF z r) → JW p l e (rmL 5) s m args below meth c 4 D aC ad A shM (MQ below (cQi D aC ad shM (fun r_ z_ y_ => z_ = z ∧ (fun r_ y2 => r_ = choF z r ∧ Rng y2 ∧ ∀ k', k' ≠ 70 → y2 k' = y k') r_ y_) A) args s 0 0 A) 0 0 (zc z y4_) 4 [some (.ref (ad 40)), some (vi (r)), some (vi (best)), some (vi (t))] [] := by
    intro n4
    induction n4 with
    | zero => 
      intro best t y4_ hRy4_ ht hn hb ho hC
      refine i_iload_n G dX8_chosen_4 rfl ?_
      refine i_aload_n G dX8_chosen_5 rfl ?_
      refine j_getz G F_X8_104 0 rfl rfl (by decide) dX8_chosen_6 ?_
      have b6 : 0 ≤ z 3 0 ∧ z 3 0 ≤ 40 := hR 3 _
      refine i_icmp_ge (tgt := 79) G dX8_chosen_9 (by decide) (by omega) (by omega) (fun h9 => ?_) (fun h9 => ?_)
      · skip
        refine i_iload_n G dX8_chosen_79 rfl ?_
        refine j_reti G hr dX8_chosen_80 ?_
        refine ⟨rfl, ?_⟩
        exact ⟨hC, hRy4_, ho⟩
      · skip
        exfalso; omega
    | succ n4 ih4 => 
      intro best t y4_ hRy4_ ht hn hb ho hC
      refine i_iload_n G dX8_chosen_4 rfl ?_
      refine i_aload_n G dX8_chosen_5 rfl ?_
      refine j_getz G F_X8_104 0 rfl rfl (by decide) dX8_chosen_6 ?_
      have b6 : 0 ≤ z 3 0 ∧ z 3 0 ≤ 40 := hR 3 _
      refine i_icmp_ge (tgt := 79) G dX8_chosen_9 (by decide) (by omega) (by omega) (fun h9 => ?_) (fun h9 => ?_)
      · skip
        exfalso; omega
      · skip
        refine i_aload_n G dX8_chosen_12 rfl ?_
        refine i_getr G F_X8_67 0 rfl rfl dX8_chosen_13 ?_
        refine i_iload_n G dX8_chosen_16 rfl ?_
        refine j_iald_z G 18 rfl (by decide) (by decide) (by omega) (by omega) dX8_chosen_17 ?_
        have b17 : -1 ≤ z 26 t ∧ z 26 t ≤ 3 := hR 26 _
        refine i_iconst G dX8_chosen_18 ?_
        refine i_icmp_ne (tgt := 73) G dX8_chosen_19 (by decide) (by omega) (by omega) (fun h19 => ?_) (fun h19 => ?_)
        · skip
          refine i_iinc (L' := [some (.ref (ad 40)), some (vi (r)), some (vi (best)), some (vi (t + 1))]) G dX8_chosen_73 (by decide) rfl rfl ?_
          refine i_goto (tgt := 4) G dX8_chosen_76 (by decide) ?_
          exact ih4 _ (t + 1) y4_ hRy4_ (by omega) (by omega) (by omega) (fun k a => by first | exact ho k a | exact (ho53 k a).trans (ho k a) | exact (ho62 k a).trans ((ho53 k a).trans (ho k a))) (by rw [← hC, chL, if_neg (by omega)])
        · skip
          refine i_iload_n G dX8_chosen_22 rfl ?_
          refine i_iconst G dX8_chosen_23 ?_
          refine i_icmp_eq (tgt := 42) G dX8_chosen_24 (by decide) (by omega) (by omega) (fun h24 => ?_) (fun h24 => ?_)
          · skip
            refine i_aload_n G dX8_chosen_42 rfl ?_
            refine i_iload_n G dX8_chosen_43 rfl ?_
            refine i_iload_n G dX8_chosen_44 rfl ?_
            refine j_callE (q0 := 0) (As := [vi (r), vi (t)]) (st := []) G K_X8_191 (m_hasTool l hd hR hRy4_ r t (by first | assumption | omega) (by first | assumption | omega)) rfl rfl rfl (rm_ok (by decide) (by decide)) ⟨Nat.le_refl _, Nat.le_refl _⟩ (Nat.le_of_ble_eq_true rfl) dX8_chosen_45 ?_
            obtain ⟨r45, er45⟩ : ∃ x_ : Int, x_ = (hasT z r (tlK (z 23 t))) := ⟨_, rfl⟩
            rw [← er45]
            have b45 : r45 = hasT z r (tlK (z 23 t)) ∧ 0 ≤ r45 ∧ r45 ≤ 1 := ⟨er45, by rw [er45]; exact hasT_b hR _ _⟩
            refine i_if_eq (tgt := 73) G dX8_chosen_48 (by decide) (by omega) (fun h48 => ?_) (fun h48 => ?_)
            · skip
              refine i_iinc (L' := [some (.ref (ad 40)), some (vi (r)), some (vi (best)), some (vi (t + 1))]) G dX8_chosen_73 (by decide) rfl rfl ?_
              refine i_goto (tgt := 4) G dX8_chosen_76 (by decide) ?_
              exact ih4 _ (t + 1) y4_ hRy4_ (by omega) (by omega) (by omega) (fun k a => by first | exact ho k a | exact (ho53 k a).trans (ho k a) | exact (ho62 k a).trans ((ho53 k a).trans (ho k a))) (by rw [← hC, chL, if_neg (by omega)])
            · skip
              refine i_aload_n G dX8_chosen_51 rfl ?_
              refine i_iload_n G dX8_chosen_52 rfl ?_
              refine j_callYi (q0 := 0) (As := [vi (t)]) (st := []) G K_X8_194 (m_canBeDone l hd hR hRy4_ t (by first | assumption | omega) (by first | assumption | omega)) rfl rfl rfl (rm_ok (by decide) (by decide)) ⟨Nat.le_refl _, Nat.le_refl _⟩ (Nat.le_of_ble_eq_true rfl) dX8_chosen_53 (fun r53 y53 q53 => ?_)
              obtain ⟨er53, br53, hRy53, ho53⟩ := q53
              refine i_if_eq (tgt := 73) G dX8_chosen_56 (by decide) (by omega) (fun h56 => ?_) (fun h56 => ?_)
              · skip
                refine i_iinc (L' := [some (.ref (ad 40)), some (vi (r)), some (vi (best)), some (vi (t + 1))]) G dX8_chosen_73 (by decide) rfl rfl ?_
                refine i_goto (tgt := 4) G dX8_chosen_76 (by decide) ?_
                exact ih4 _ (t + 1) y53 hRy53 (by omega) (by omega) (by omega) (fun k a => by first | exact ho k a | exact (ho53 k a).trans (ho k a) | exact (ho62 k a).trans ((ho53 k a).trans (ho k a))) (by rw [← hC, chL, if_neg (by omega)])
              · skip
                refine i_aload_n G dX8_chosen_59 rfl ?_
                refine i_iload_n G dX8_chosen_60 rfl ?_
                refine i_iload_n G dX8_chosen_61 rfl ?_
                refine j_callYi (q0 := 0) (As := [vi (r), vi (t)]) (st := []) G K_X8_197 (m_isInTime l hd hR hRy53 r t (by first | assumption | omega) (by first | assumption | omega) (by first | assumption | omega) (by first | assumption | omega)) rfl rfl rfl (rm_ok (by decide) (by decide)) ⟨Nat.le_refl _, Nat.le_refl _⟩ (Nat.le_of_ble_eq_true rfl) dX8_chosen_62 (fun r62 y62 q62 => ?_)
                obtain ⟨er62, br62, hRy62, ho62⟩ := q62
                refine i_if_ne (tgt := 71) G dX8_chosen_65 (by decide) (by omega) (fun h65 => ?_) (fun h65 => ?_)
                · skip
                  refine i_iload_n G dX8_chosen_71 rfl ?_
                  refine i_istore_n (L' := [some (.ref (ad 40)), some (vi (r)), some (vi (t)), some (vi (t))]) G dX8_chosen_72 (by decide) rfl ?_
                  refine i_iinc (L' := [some (.ref (ad 40)), some (vi (r)), some (vi (t)), some (vi (t + 1))]) G dX8_chosen_73 (by decide) rfl rfl ?_
                  refine i_goto (tgt := 4) G dX8_chosen_76 (by decide) ?_
                  exact ih4 _ (t + 1) y62 hRy62 (by omega) (by omega) (by omega) (fun k a => by first | exact ho k a | exact (ho53 k a).trans (ho k a) | exact (ho62 k a).trans ((ho53 k a).trans (ho k a))) (by rw [← hC, chL, if_pos (by omega)])
                · skip
                  refine i_goto (tgt := 73) G dX8_chosen_68 (by decide) ?_
                  refine i_iinc (L' := [some (.ref (ad 40)), some (vi (r)), some (vi (best)), some (vi (t + 1))]) G dX8_chosen_73 (by decide) rfl rfl ?_
                  refine i_goto (tgt := 4) G dX8_chosen_76 (by decide) ?_
                  exact ih4 _ (t + 1) y62 hRy62 (by omega) (by omega) (by omega) (fun k a => by first | exact ho k a | exact (ho53 k a).trans (ho k a) | exact (ho62 k a).trans ((ho53 k a).trans (ho k a))) (by rw [← hC, chL, if_neg (by omega)])
          · skip
            refine i_aload_n G dX8_chosen_27 rfl ?_
            refine i_getr G F_X8_64 0 rfl rfl dX8_chosen_28 ?_
            refine i_iload_n G dX8_chosen_31 rfl ?_
            refine j_iald_z G 17 rfl (by decide) (by decide) (by omega) (by omega) dX8_chosen_32 ?_
            have b32 : 0 ≤ z 25 t ∧ z 25 t ≤ 1000 := hR 25 _
            refine i_aload_n G dX8_chosen_33 rfl ?_
            refine i_getr G F_X8_64 0 rfl rfl dX8_chosen_34 ?_
            refine i_iload_n G dX8_chosen_37 rfl ?_
            refine j_iald_z G 17 rfl (by decide) (by decide) (by omega) (by omega) dX8_chosen_38 ?_
            have b38 : 0 ≤ z 25 best ∧ z 25 best ≤ 1000 := hR 25 _
            refine i_icmp_le (tgt := 73) G dX8_chosen_39 (by decide) (by omega) (by omega) (fun h39 => ?_) (fun h39 => ?_)
            · skip
              refine i_iinc (L' := [some (.ref (ad 40)), some (vi (r)), some (vi (best)), some (vi (t + 1))]) G dX8_chosen_73 (by decide) rfl rfl ?_
              refine i_goto (tgt := 4) G dX8_chosen_76 (by decide) ?_
              exact ih4 _ (t + 1) y4_ hRy4_ (by omega) (by omega) (by omega) (fun k a => by first | exact ho k a | exact (ho53 k a).trans (ho k a) | exact (ho62 k a).trans ((ho53 k a).trans (ho k a))) (by rw [← hC, chL, if_neg (by omega)])
            · skip
              refine i_aload_n G dX8_chosen_42 rfl ?_
              refine i_iload_n G dX8_chosen_43 rfl ?_
              refine i_iload_n G dX8_chosen_44 rfl ?_
              refine j_callE (q0 := 0) (As := [vi (r), vi (t)]) (st := []) G K_X8_191 (m_hasTool l hd hR hRy4_ r t (by first | assumption | omega) (by first | assumption | omega)) rfl rfl rfl (rm_ok (by decide) (by decide)) ⟨Nat.le_refl _, Nat.le_refl _⟩ (Nat.le_of_ble_eq_true rfl) dX8_chosen_45 ?_
              obtain ⟨r45, er45⟩ : ∃ x_ : Int, x_ = (hasT z r (tlK (z 23 t))) := ⟨_, rfl⟩
              rw [← er45]
              have b45 : r45 = hasT z r (tlK (z 23 t)) ∧ 0 ≤ r45 ∧ r45 ≤ 1 := ⟨er45, by rw [er45]; exact hasT_b hR _ _⟩
              refine i_if_eq (tgt := 73) G dX8_chosen_48 (by decide) (by omega) (fun h48 => ?_) (fun h48 => ?_)
              · skip
                refine i_iinc (L' := [some (.ref (ad 40)), some (vi (r)), some (vi (best)), some (vi (t + 1))]) G dX8_chosen_73 (by decide) rfl rfl ?_
                refine i_goto (tgt := 4) G dX8_chosen_76 (by decide) ?_
                exact ih4 _ (t + 1) y4_ hRy4_ (by omega) (by omega) (by omega) (fun k a => by first | exact ho k a | exact (ho53 k a).trans (ho k a) | exact (ho62 k a).trans ((ho53 k a).trans (ho k a))) (by rw [← hC, chL, if_neg (by omega)])
              · skip
                refine i_aload_n G dX8_chosen_51 rfl ?_
                refine i_iload_n G dX8_chosen_52 rfl ?_
                refine j_callYi (q0 := 0) (As := [vi (t)]) (st := []) G K_X8_194 (m_canBeDone l hd hR hRy4_ t (by first | assumption | omega) (by first | assumption | omega)) rfl rfl rfl (rm_ok (by decide) (by decide)) ⟨Nat.le_refl _, Nat.le_refl _⟩ (Nat.le_of_ble_eq_true rfl) dX8_chosen_53 (fun r53 y53 q53 => ?_)
                obtain ⟨er53, br53, hRy53, ho53⟩ := q53
                refine i_if_eq (tgt := 73) G dX8_chosen_56 (by decide) (by omega) (fun h56 => ?_) (fun h56 => ?_)
                · skip
                  refine i_iinc (L' := [some (.ref (ad 40)), some (vi (r)), some (vi (best)), some (vi (t + 1))]) G dX8_chosen_73 (by decide) rfl rfl ?_
                  refine i_goto (tgt := 4) G dX8_chosen_76 (by decide) ?_
                  exact ih4 _ (t + 1) y53 hRy53 (by omega) (by omega) (by omega) (fun k a => by first | exact ho k a | exact (ho53 k a).trans (ho k a) | exact (ho62 k a).trans ((ho53 k a).trans (ho k a))) (by rw [← hC, chL, if_neg (by omega)])
                · skip
                  refine i_aload_n G dX8_chosen_59 rfl ?_
                  refine i_iload_n G dX8_chosen_60 rfl ?_
                  refine i_iload_n G dX8_chosen_61 rfl ?_
                  refine j_callYi (q0 := 0) (As := [vi (r), vi (t)]) (st := []) G K_X8_197 (m_isInTime l hd hR hRy53 r t (by first | assumption | omega) (by first | assumption | omega) (by first | assumption | omega) (by first | assumption | omega)) rfl rfl rfl (rm_ok (by decide) (by decide)) ⟨Nat.le_refl _, Nat.le_refl _⟩ (Nat.le_of_ble_eq_true rfl) dX8_chosen_62 (fun r62 y62 q62 => ?_)
                  obtain ⟨er62, br62, hRy62, ho62⟩ := q62
                  refine i_if_ne (tgt := 71) G dX8_chosen_65 (by decide) (by omega) (fun h65 => ?_) (fun h65 => ?_)
                  · skip
                    refine i_iload_n G dX8_chosen_71 rfl ?_
                    refine i_istore_n (L' := [some (.ref (ad 40)), some (vi (r)), some (vi (t)), some (vi (t))]) G dX8_chosen_72 (by decide) rfl ?_
                    refine i_iinc (L' := [some (.ref (ad 40)), some (vi (r)), some (vi (t)), some (vi (t + 1))]) G dX8_chosen_73 (by decide) rfl rfl ?_
                    refine i_goto (tgt := 4) G dX8_chosen_76 (by decide) ?_
                    exact ih4 _ (t + 1) y62 hRy62 (by omega) (by omega) (by omega) (fun k a => by first | exact ho k a | exact (ho53 k a).trans (ho k a) | exact (ho62 k a).trans ((ho53 k a).trans (ho k a))) (by rw [← hC, chL, if_pos (by omega)])
                  · skip
                    refine i_goto (tgt := 73) G dX8_chosen_68 (by decide) ?_
                    refine i_iinc (L' := [some (.ref (ad 40)), some (vi (r)), some (vi (best)), some (vi (t + 1))]) G dX8_chosen_73 (by decide) rfl rfl ?_
                    refine i_goto (tgt := 4) G dX8_chosen_76 (by decide) ?_
                    exact ih4 _ (t + 1) y62 hRy62 (by omega) (by omega) (by omega) (fun k a => by first | exact ho k a | exact (ho53 k a).trans (ho k a) | exact (ho62 k a).trans ((ho53 k a).trans (ho k a))) (by rw [← hC, chL, if_neg (by omega)])
  exact lp4 (z 3 0).toNat (-1) 0 y hY (by omega) (by omega) (by omega) (fun _ _ => rfl) rfl
set_option maxHeartbeats 4000000 in
set_option maxRecDepth 100000 in
theorem m_does (l : Launch) {D : va_G} {aC : Nat → ClassId} {ad : Nat → Nat} (hd : wDi ad shM) {z y : wZ} (hR : Rng z) (hY : Rng y) (r : Int) (t : Int) (hr0 : 0 ≤ r ∧ r < z 4 0) (ht : 0 ≤ t ∧ t < z 3 0) (hF : WF z) (hM : MI z y) (hms : msF z t = 1) (hmn : mnK (z 23 t) ≤ z 8 0) (hsum : z 29 r + z 8 0 ≤ 60000) : cMv l D aC ad shM yX8_does cX8_does 4 (rmL 4) [.ref (ad 40), vi r, vi t] z y (fun z2 y2 => z2 = coF z r t ∧ MI z2 y2 ∧ Rng z2 ∧ Rng y2 ∧ ∀ k', k' ≠ 70 → k' ≠ 72 → y2 k' = y k') := by
  refine c_v [some (.ref (ad 40)), some (vi (r)), some (vi (t)), none] (by decide +kernel) rfl (Nat.le_of_ble_eq_true rfl) rfl hd ?_
  intro p e s m args below meth c A G hr
  have q3 : 0 ≤ z 3 0 ∧ z 3 0 ≤ 40 := hR 3 0
  have q4 : 0 ≤ z 4 0 ∧ z 4 0 ≤ 4 := hR 4 0
  have q1 : 0 ≤ z 1 0 ∧ z 1 0 ≤ 24 := hR 1 0
  have q2 : 0 ≤ z 2 0 ∧ z 2 0 ≤ 30 := hR 2 0
  have q8 : 0 ≤ z 8 0 ∧ z 8 0 ≤ 480 := hR 8 0
  have hk := hF.2.2.1 t ht.1 ht.2
  have hW := hF.1
  have q29 : 0 ≤ z 29 r ∧ z 29 r ≤ 60000 := hR 29 r
  have hm9 := mnK_in (z 23 t)
  have q24 : 0 ≤ z 24 t ∧ z 24 t ≤ 29 := hR 24 t
  refine i_aload_n G dX8_does_0 rfl ?_
  refine i_getr G F_X8_61 0 rfl rfl dX8_does_1 ?_
  refine i_iload_n G dX8_does_4 rfl ?_
  refine j_iald_z G 16 rfl (by decide) (by decide) (by omega) (by omega) dX8_does_5 ?_
  have b5 : 0 ≤ z 24 t ∧ z 24 t ≤ 29 := hR 24 _
  refine i_istore_n (L' := [some (.ref (ad 40)), some (vi (r)), some (vi (t)), some (vi ((z 24 t)))]) G dX8_does_6 (by decide) rfl ?_
  refine i_aload_n G dX8_does_7 rfl ?_
  refine i_dup G rfl dX8_does_8 ?_
  refine j_getz G F_X8_188 0 rfl rfl (by decide) dX8_does_9 ?_
  have b9 : 0 ≤ z 8 0 ∧ z 8 0 ≤ 480 := hR 8 _
  refine i_aload_n G dX8_does_12 rfl ?_
  refine i_iload_n G dX8_does_13 rfl ?_
  refine j_callE (q0 := 0) (As := [vi (t)]) (st := [vi ((z 8 0)), .ref (ad 40)]) G K_X8_185 (m_timeOf l hd hR hY t (by first | assumption | omega)) rfl rfl rfl (rm_ok (by decide) (by decide)) ⟨Nat.le_refl _, Nat.le_refl _⟩ (Nat.le_of_ble_eq_true rfl) dX8_does_14 ?_
  have b14 : 10 ≤ (mnK (z 23 t)) ∧ (mnK (z 23 t)) ≤ 200 := mnK_in _
  refine i_isub G dX8_does_17 ?_
  refine j_putz G P_X8_188 0 rfl rfl (by decide) (by decide) (by decide) hR (by show (0 : Int) ≤ _ ∧ _ ≤ (480 : Int); omega) dX8_does_18 (fun z18 ez18 hRz18 => ?_)
  have e18 : z18 29 r = z 29 r := by rw [ez18, zp_nk _ (by decide)]
  have e23 : z18 23 t = z 23 t := by rw [ez18, zp_nk _ (by decide)]
  refine i_aload_n G dX8_does_21 rfl ?_
  refine i_getr G F_X8_76 0 rfl rfl dX8_does_22 ?_
  refine i_iload_n G dX8_does_25 rfl ?_
  refine i_dup2 G rfl rfl dX8_does_26 ?_
  refine j_iald_z G 21 rfl (by decide) (by decide) (by omega) (by omega) dX8_does_27 ?_
  have b27 : 0 ≤ z18 29 r ∧ z18 29 r ≤ 60000 := hRz18 29 _
  refine i_aload_n G dX8_does_28 rfl ?_
  refine i_iload_n G dX8_does_29 rfl ?_
  refine j_callE (q0 := 0) (As := [vi (t)]) (st := [vi ((z18 29 r)), vi (r), .ref (ad 61)]) G K_X8_185 (m_timeOf l hd hRz18 hY t (by first | assumption | omega)) rfl rfl rfl (rm_ok (by decide) (by decide)) ⟨Nat.le_refl _, Nat.le_refl _⟩ (Nat.le_of_ble_eq_true rfl) dX8_does_30 ?_
  have b30 : 10 ≤ (mnK (z18 23 t)) ∧ (mnK (z18 23 t)) ≤ 200 := mnK_in _
  refine i_iadd G dX8_does_33 ?_
  refine j_iast_z G 21 rfl (by decide) (by decide) (by omega) (by omega) (by decide) hRz18 (by show (0 : Int) ≤ _ ∧ _ ≤ (60000 : Int); rw [e23]; omega) dX8_does_34 (fun z34 ez34 hRz34 => ?_)
  refine i_aload_n G dX8_does_35 rfl ?_
  refine i_getr G F_X8_67 0 rfl rfl dX8_does_36 ?_
  refine i_iload_n G dX8_does_39 rfl ?_
  refine i_iload_n G dX8_does_40 rfl ?_
  refine j_iast_z G 18 rfl (by decide) (by decide) (by omega) (by omega) (by decide) hRz34 (by show (-1 : Int) ≤ _ ∧ _ ≤ (3 : Int); omega) dX8_does_41 (fun z41 ez41 hRz41 => ?_)
  have ek : ∀ k, k ≠ 8 → k ≠ 29 → k ≠ 26 → z41 k = z k := fun k a b d => by rw [ez41, zp_nk _ d, ez34, zp_nk _ b, ez18, zp_nk _ a]
  have ez : z41 = zp (spdF z r (mnK (z 23 t))) 26 t r := by rw [ez41, ez34, e18, e23, ez18]; rfl
  have ezc : dnF z41 t = coF z r t := by rw [coF_eq, ez]
  have e23 := ek 23 (by decide) (by decide) (by decide)
  have e24 := ek 24 (by decide) (by decide) (by decide)
  have e32 := ek 32 (by decide) (by decide) (by decide)
  have e0 := ek 0 (by decide) (by decide) (by decide)
  have e17 := ek 17 (by decide) (by decide) (by decide)
  have e18b := ek 18 (by decide) (by decide) (by decide)
  have e6 := ek 6 (by decide) (by decide) (by decide)
  have hM1 : MI z41 y := MI_z hM e32
  have hk23 : 0 ≤ z41 23 t ∧ z41 23 t ≤ 65535 := hRz41 23 t
  have e23t : z41 23 t = z 23 t := by rw [e23]
  have e24t : z41 24 t = z 24 t := by rw [e24]
  refine i_aload_n G dX8_does_42 rfl ?_
  refine i_getr G F_X8_57 0 rfl rfl dX8_does_43 ?_
  refine i_iload_n G dX8_does_46 rfl ?_
  refine j_cald_z G 15 rfl (by decide) (by decide) (by omega) (by omega) dX8_does_47 ?_
  have b47 : 0 ≤ z41 23 t ∧ z41 23 t ≤ 65535 := hRz41 23 _
  refine i_sw3 (x := (z41 23 t)) (ta := 84) (tb := 104) (tc := 94) (td := 124) G dX8_does_48 (by omega) (by decide) (by decide) (by decide) (by decide) (fun k1 => ?_) (fun k1 => ?_) (fun k1 => ?_) (fun k1 k2 k3 => ?_)
  · skip
    refine i_aload_n G dX8_does_84 rfl ?_
    refine i_getr G F_X8_48 0 rfl rfl dX8_does_85 ?_
    refine i_iload_n G dX8_does_88 rfl ?_
    refine i_iconst G dX8_does_89 ?_
    refine j_zast_z G 12 rfl (by decide) (by decide) (by omega) (by omega) (by omega) (by decide) hRz41 (by show (0 : Int) ≤ _ ∧ _ ≤ (1 : Int); omega) dX8_does_90 (fun z90 ez90 hRz90 => ?_)
    refine i_goto (tgt := 143) G dX8_does_91 (by decide) ?_
    refine j_retv G hr dX8_does_143 ?_
    have ezf : z90 = coF z r t := by rw [← ezc, ez90]; unfold dnF; rw [if_neg (by omega), if_neg (by omega), if_pos (by omega), e24t]
    refine ⟨ezf, ?_, hRz90, hY, fun k a b => by first | rfl | exact ho118 k a | exact ho126 k b⟩
    exact MI_z hM1 (by rw [ez90, zp_nk _ (by decide)])
  · skip
    have hwb := hF.2.1 (z 24 t) q24.1 (hk.2.2.1 (by omega))
    have hms2 := hms
    unfold msF at hms2
    rw [if_neg (by omega), if_pos (by omega)] at hms2
    have hms3 : 0 < z 6 0 ∧ ds z 16 (z 17 (z 24 t)) (z 18 (z 24 t)) ≤ 300 := by split at hms2 <;> first | assumption | omega
    have hW41 : WT z41 := WT_cg hW (fun k hk => ek k (by omega) (by omega) (by omega))
    have q17 : 0 ≤ z 17 (z 24 t) ∧ z 17 (z 24 t) ≤ 15 := hR 17 _
    have q18 : 0 ≤ z 18 (z 24 t) ∧ z 18 (z 24 t) ≤ 15 := hR 18 _
    have c1 : 0 ≤ z41 17 (z 24 t) ∧ z41 17 (z 24 t) < z41 0 0 := by rw [e17, e0]; omega
    have c2 : 0 ≤ z41 18 (z 24 t) ∧ z41 18 (z 24 t) < z41 0 0 := by rw [e18b, e0]; omega
    have c3 : z41 17 (z 24 t) ≠ z41 18 (z 24 t) := by rw [e17, e18b]; exact hwb.2.2.1
    have c4 : ds z41 16 (z41 17 (z 24 t)) (z41 18 (z 24 t)) ≤ 300 := by rw [e17, e18b, ds_zc (z := z) (by decide) (fun k hk => ek k (by omega) (by omega) (by omega))]; exact hms3.2
    have c5 : 1 ≤ z41 6 0 := by rw [e6]; omega
    refine i_aload_n G dX8_does_104 rfl ?_
    refine i_iload_n G dX8_does_105 rfl ?_
    refine i_aload_n G dX8_does_106 rfl ?_
    refine i_getr G F_X8_36 0 rfl rfl dX8_does_107 ?_
    refine i_iload_n G dX8_does_110 rfl ?_
    refine j_iald_z G 8 rfl (by decide) (by decide) (by omega) (by omega) dX8_does_111 ?_
    have b111 : 0 ≤ z41 17 (z 24 t) ∧ z41 17 (z 24 t) ≤ 15 := hRz41 17 _
    refine i_aload_n G dX8_does_112 rfl ?_
    refine i_getr G F_X8_39 0 rfl rfl dX8_does_113 ?_
    refine i_iload_n G dX8_does_116 rfl ?_
    refine j_iald_z G 9 rfl (by decide) (by decide) (by omega) (by omega) dX8_does_117 ?_
    have b117 : 0 ≤ z41 18 (z 24 t) ∧ z41 18 (z 24 t) ≤ 15 := hRz41 18 _
    refine j_callv (q0 := 0) (As := [vi ((z 24 t)), vi ((z41 17 (z 24 t))), vi ((z41 18 (z 24 t)))]) (st := []) G K_X8_154 (m_cuts l hd hRz41 hY (z 24 t) (z41 17 (z 24 t)) (z41 18 (z 24 t)) (by first | assumption | omega) (by first | assumption | omega) (by first | assumption | omega) (by first | assumption | omega) (by first | assumption | omega) (by first | assumption | omega) (by first | assumption | omega)) rfl rfl rfl (rm_ok (by decide) (by decide)) ⟨Nat.le_refl _, Nat.le_refl _⟩ (Nat.le_of_ble_eq_true rfl) dX8_does_118 (fun z118 y118 q118 => ?_)
    obtain ⟨ez118, hRz118, hRy118, ho118⟩ := q118
    refine i_goto (tgt := 143) G dX8_does_121 (by decide) ?_
    refine j_retv G hr dX8_does_143 ?_
    have ezf : z118 = coF z r t := by rw [← ezc, ez118]; unfold dnF; rw [if_neg (by omega), if_pos (by omega), e24t, mcF_id]
    refine ⟨ezf, ?_, hRz118, hRy118, fun k a b => by first | rfl | exact ho118 k a | exact ho126 k b⟩
    exact MI_z (MI_y hM1 (ho118 72 (by decide))) (by rw [ez118, mcF_k _ _ _ _ (by decide)])
  · skip
    refine i_aload_n G dX8_does_94 rfl ?_
    refine i_getr G F_X8_48 0 rfl rfl dX8_does_95 ?_
    refine i_iload_n G dX8_does_98 rfl ?_
    refine i_iconst G dX8_does_99 ?_
    refine j_zast_z G 12 rfl (by decide) (by decide) (by omega) (by omega) (by omega) (by decide) hRz41 (by show (0 : Int) ≤ _ ∧ _ ≤ (1 : Int); omega) dX8_does_100 (fun z100 ez100 hRz100 => ?_)
    refine i_goto (tgt := 143) G dX8_does_101 (by decide) ?_
    refine j_retv G hr dX8_does_143 ?_
    have ezf : z100 = coF z r t := by rw [← ezc, ez100]; unfold dnF; rw [if_neg (by omega), if_neg (by omega), if_neg (by omega), e24t]
    refine ⟨ezf, ?_, hRz100, hY, fun k a b => by first | rfl | exact ho118 k a | exact ho126 k b⟩
    exact MI_z hM1 (by rw [ez100, zp_nk _ (by decide)])
  · skip
    have h109 : z 23 t = 109 := by omega
    have h24 := hk.2.1 h109
    refine i_aload_n G dX8_does_124 rfl ?_
    refine i_iload_n G dX8_does_125 rfl ?_
    refine j_callv (q0 := 0) (As := [vi ((z 24 t))]) (st := []) G K_X8_200 (m_sees l hd hRz41 hY (z 24 t) (by first | assumption | omega) (by first | assumption | omega)) rfl rfl rfl (rm_ok (by decide) (by decide)) ⟨Nat.le_refl _, Nat.le_refl _⟩ (Nat.le_of_ble_eq_true rfl) dX8_does_126 (fun z126 y126 q126 => ?_)
    obtain ⟨ez126, hMz126, hRz126, hRy126, ho126⟩ := q126
    refine i_aload_n G dX8_does_129 rfl ?_
    refine i_getr G F_X8_30 0 rfl rfl dX8_does_130 ?_
    refine i_iload_n G dX8_does_133 rfl ?_
    refine i_iconst G dX8_does_134 ?_
    refine j_zast_z G 6 rfl (by decide) (by decide) (by omega) (by omega) (by omega) (by decide) hRz126 (by show (0 : Int) ≤ _ ∧ _ ≤ (1 : Int); omega) dX8_does_135 (fun z135 ez135 hRz135 => ?_)
    refine i_aload_n G dX8_does_136 rfl ?_
    refine i_getr G F_X8_33 0 rfl rfl dX8_does_137 ?_
    refine i_iload_n G dX8_does_140 rfl ?_
    refine i_iconst G dX8_does_141 ?_
    refine j_zast_z G 7 rfl (by decide) (by decide) (by omega) (by omega) (by omega) (by decide) hRz135 (by show (0 : Int) ≤ _ ∧ _ ≤ (1 : Int); omega) dX8_does_142 (fun z142 ez142 hRz142 => ?_)
    refine j_retv G hr dX8_does_143 ?_
    have ezf : z142 = coF z r t := by rw [← ezc, ez142, ez135, ez126]; unfold dnF; rw [if_pos (by omega), e24t]
    refine ⟨ezf, ?_, hRz142, hRy126, fun k a b => by first | rfl | exact ho118 k a | exact ho126 k b⟩
    exact MI_z hMz126 (by rw [ez142, zp_nk _ (by decide), ez135, zp_nk _ (by decide)])
set_option maxHeartbeats 4000000 in
set_option maxRecDepth 100000 in
theorem m_comes (l : Launch) {D : va_G} {aC : Nat → ClassId} {ad : Nat → Nat} (hd : wDi ad shM) {z y : wZ} (hR : Rng z) (hY : Rng y) (r : Int) (tk : Int) (hr0 : 0 ≤ r ∧ r < z 4 0) (ht : 0 ≤ tk ∧ tk < z 3 0) (hF : WF z) (hM : MI z y) (hsum : z 29 r + z 8 0 ≤ 60000) (hh : htF z r tk = 1) : cMi l D aC ad shM yX8_comes cX8_comes 6 (.boolean) (rmL 4) [.ref (ad 40), vi r, vi tk] z y (fun r_ z2 y2 => r_ = (cmL r tk (glF z tk) 1000 z).1 ∧ z2 = (cmL r tk (glF z tk) 1000 z).2 ∧ WF z2 ∧ MI z2 y2 ∧ Rng z2 ∧ Rng y2 ∧ (∀ k', k' ≠ 70 → k' ≠ 72 → y2 k' = y k') ∧ z2 29 r + z2 8 0 = z 29 r + z 8 0 ∧ mnK (z2 23 tk) ≤ z2 8 0 ∧ ((r_ = 1 ∧ z2 = z) ∨ muZ z2 < muZ z) ∧ (r_ = 0 ∨ r_ = 1)) := by
  refine c_i [some (.ref (ad 40)), some (vi (r)), some (vi (tk)), none, none, none] (by decide +kernel) rfl (Nat.le_of_ble_eq_true rfl) rfl hd ?_
  intro p e s m args below meth c A G hr
  have q3 : 0 ≤ z 3 0 ∧ z 3 0 ≤ 40 := hR 3 0
  have q4 : 0 ≤ z 4 0 ∧ z 4 0 ≤ 4 := hR 4 0
  have hhd : ds z 16 (z 27 r) (glF z tk) + mnK (z 23 tk) ≤ z 8 0 := by
    have hq := hh
    unfold htF at hq
    split at hq <;> first | assumption | omega
  have hd9 := ds_in hF.1 hR 16 (z 27 r) (glF z tk)
  have q8 : 0 ≤ z 8 0 ∧ z 8 0 ≤ 480 := hR 8 0
  have hm9 := mnK_in (z 23 tk)
  have hx0 : z 27 r ≠ glF z tk → nxt z (z 27 r) (glF z tk) ≠ -1 := fun hne => nxt_ex hF.1 hR hne (by omega)
  refine i_aload_n G dX8_comes_0 rfl ?_
  refine i_iload_n G dX8_comes_1 rfl ?_
  refine j_callE (q0 := 0) (As := [vi (tk)]) (st := []) G K_X8_182 (m_placeOf l hd hR hY tk (by first | assumption | omega) (by first | assumption | omega)) rfl rfl rfl (rm_ok (by decide) (by decide)) ⟨Nat.le_refl _, Nat.le_refl _⟩ (Nat.le_of_ble_eq_true rfl) dX8_comes_2 ?_
  have b2 : 0 ≤ (glF z tk) ∧ (glF z tk) ≤ 15 := glF_in hR _
  refine i_istore_n (L' := [some (.ref (ad 40)), some (vi (r)), some (vi (tk)), some (vi ((glF z tk))), none, none]) G dX8_comes_5 (by decide) rfl ?_
  refine i_forget (L' := [some (.ref (ad 40)), some (vi (r)), some (vi (tk)), some (vi ((glF z tk))), none, none]) ⟨rfl, ⟨rfl, ⟨rfl, ⟨rfl, trivial⟩⟩⟩⟩ ?_
  have lp6 : ∀ (n6 : Nat) (z6_ : wZ) (y6_ : wZ), Rng z6_ → Rng y6_ → (WF z6_) → (MI z6_ y6_) → (muZ z6_ < n6) → (z6_ = z ∨ muZ z6_ < muZ z) → (∀ k, k ≠ 8 → k ≠ 27 → k ≠ 29 → k ≠ 16 → k ≠ 22 → k ≠ 32 → z6_ k = z k) → (z6_ 29 r + z6_ 8 0 = z 29 r + z 8 0) → (∀ k', k' ≠ 70 → k' ≠ 72 → y6_ k' = y k') → (mnK (z6_ 23 tk) ≤ z6_ 8 0) → (cmL r tk (glF z tk) n6 z6_ = cmL r tk (glF z tk) 1000 z) → JW p l e (rmL 4) s m args below meth c 6 D aC ad A shM (MQ below (cQi D aC ad shM (fun r_ z2 y2 => r_ = (cmL r tk (glF z tk) 1000 z).1 ∧ z2 = (cmL r tk (glF z tk) 1000 z).2 ∧ WF z2 ∧ MI z2 y2 ∧ Rng z2 ∧ Rng y2 ∧ (∀ k', k' ≠ 70 → k' ≠ 72 → y2 k' = y k') ∧ z2 29 r + z2 8 0 = z 29 r + z 8 0 ∧ mnK (z2 23 tk) ≤ z2 8 0 ∧ ((r_ = 1 ∧ z2 = z) ∨ muZ z2 < muZ z) ∧ (r_ = 0 ∨ r_ = 1)) A) args s 0 0 A) 0 0 (zc z6_ y6_) 6 [some (.ref (ad 40)), some (vi (r)), some (vi (tk)), some (vi ((glF z tk))), none, none] [] := by
    intro n6
    induction n6 with
    | zero => 
      intro z6_ y6_ hRz6_ hRy6_ hw hm hmu hmz hkk hs9 hyo hA hC
      exfalso; omega
    | succ n6 ih6 => 
      intro z6_ y6_ hRz6_ hRy6_ hw hm hmu hmz hkk hs9 hyo hA hC
      have q1 : 0 ≤ z6_ 1 0 ∧ z6_ 1 0 ≤ 24 := hRz6_ 1 0
      have e3 : z6_ 3 = z 3 := hkk 3 (by decide) (by decide) (by decide) (by decide) (by decide) (by decide)
      have e4 : z6_ 4 = z 4 := hkk 4 (by decide) (by decide) (by decide) (by decide) (by decide) (by decide)
      have e0 : z6_ 0 = z 0 := hkk 0 (by decide) (by decide) (by decide) (by decide) (by decide) (by decide)
      have eg : glF z6_ tk = glF z tk := glF_cg tk ⟨hkk 11 (by decide) (by decide) (by decide) (by decide) (by decide) (by decide), hkk 17 (by decide) (by decide) (by decide) (by decide) (by decide) (by decide), hkk 23 (by decide) (by decide) (by decide) (by decide) (by decide) (by decide), hkk 24 (by decide) (by decide) (by decide) (by decide) (by decide) (by decide)⟩
      have gi := glF_in hR tk
      have hW6 := hw.1
      have hr6 := hw.2.2.2 r hr0.1 (by rw [e4]; exact hr0.2)
      have hg6 : glF z tk < z6_ 0 0 := by rw [e0]; exact glF_lt hF ht (hR 24 tk).1
      have ht6 : 0 ≤ tk ∧ tk < z6_ 3 0 := by rw [e3]; exact ht
      have q27 : 0 ≤ z6_ 27 r ∧ z6_ 27 r ≤ 15 := hRz6_ 27 r
      refine i_aload_n G dX8_comes_6 rfl ?_
      refine i_getr G F_X8_70 0 rfl rfl dX8_comes_7 ?_
      refine i_iload_n G dX8_comes_10 rfl ?_
      refine j_iald_z G 19 rfl (by decide) (by decide) (by omega) (by omega) dX8_comes_11 ?_
      have b11 : 0 ≤ z6_ 27 r ∧ z6_ 27 r ≤ 15 := hRz6_ 27 _
      refine i_iload_n G dX8_comes_12 rfl ?_
      refine i_icmp_eq (tgt := 122) G dX8_comes_13 (by decide) (by omega) (by omega) (fun h13 => ?_) (fun h13 => ?_)
      · skip
        refine i_iconst G dX8_comes_122 ?_
        refine j_retz G hr (by omega) dX8_comes_123 ?_
        have e := hC
        rw [cmL, if_pos h13] at e
        exact ⟨by rw [← e], by rw [← e], hw, hm, hRz6_, hRy6_, hyo, hs9, hA, hmz.imp (fun h => ⟨rfl, h⟩) id, Or.inr rfl⟩
      · skip
        refine i_aload_n G dX8_comes_16 rfl ?_
        refine i_aload_n G dX8_comes_17 rfl ?_
        refine i_getr G F_X8_70 0 rfl rfl dX8_comes_18 ?_
        refine i_iload_n G dX8_comes_21 rfl ?_
        refine j_iald_z G 19 rfl (by decide) (by decide) (by omega) (by omega) dX8_comes_22 ?_
        have b22 : 0 ≤ z6_ 27 r ∧ z6_ 27 r ≤ 15 := hRz6_ 27 _
        refine i_iload_n G dX8_comes_23 rfl ?_
        refine j_callYi (q0 := 0) (As := [vi ((z6_ 27 r)), vi ((glF z tk))]) (st := []) G K_X8_147 (m_next l hd hRz6_ hRy6_ (z6_ 27 r) (glF z tk) (by first | assumption | omega) (by first | assumption | omega) (by first | assumption | omega)) rfl rfl rfl (rm_ok (by decide) (by decide)) ⟨Nat.le_refl _, Nat.le_refl _⟩ (Nat.le_of_ble_eq_true rfl) dX8_comes_24 (fun r24 y24 q24 => ?_)
        obtain ⟨er24, br24, hRy24, ho24⟩ := q24
        refine i_istore (L' := [some (.ref (ad 40)), some (vi (r)), some (vi (tk)), some (vi ((glF z tk))), some (vi (r24)), none]) G dX8_comes_27 (by decide) rfl ?_
        refine i_iload G dX8_comes_29 rfl ?_
        refine i_iconst G dX8_comes_31 ?_
        refine i_icmp_eq (tgt := 44) G dX8_comes_32 (by decide) (by omega) (by omega) (fun h32 => ?_) (fun h32 => ?_)
        · skip
          refine i_iconst G dX8_comes_44 ?_
          refine j_retz G hr (by omega) dX8_comes_45 ?_
          have e := hC
          rw [cmL, if_neg h13, if_pos (by omega)] at e
          refine ⟨by rw [← e], by rw [← e], hw, MI_y hm (by first | (rw [ho38 72 (by decide), ho24 72 (by decide)]; done) | (rw [ho24 72 (by decide)]; done)), hRz6_, hRy24, fun k' a b => by first | exact (ho38 k' a).trans ((ho24 k' a).trans (hyo k' a b)) | exact (ho24 k' a).trans (hyo k' a b), hs9, hA, Or.inr ?_, Or.inl rfl⟩
          rcases hmz with ez0 | h
          · exfalso
            have e27z : z6_ 27 r = z 27 r := by rw [ez0]
            have enz : nxt z6_ (z6_ 27 r) (glF z tk) = nxt z (z 27 r) (glF z tk) := by rw [ez0]
            have ehz : htF z6_ r tk = htF z r tk := by rw [ez0]
            have h9 := hx0 (by omega)
            omega
          · exact h
        · skip
          refine i_aload_n G dX8_comes_35 rfl ?_
          refine i_iload_n G dX8_comes_36 rfl ?_
          refine i_iload_n G dX8_comes_37 rfl ?_
          refine j_callYi (q0 := 0) (As := [vi (r), vi (tk)]) (st := []) G K_X8_197 (m_isInTime l hd hRz6_ hRy24 r tk (by first | assumption | omega) (by first | assumption | omega) (by first | assumption | omega) (by first | assumption | omega)) rfl rfl rfl (rm_ok (by decide) (by decide)) ⟨Nat.le_refl _, Nat.le_refl _⟩ (Nat.le_of_ble_eq_true rfl) dX8_comes_38 (fun r38 y38 q38 => ?_)
          obtain ⟨er38, br38, hRy38, ho38⟩ := q38
          refine i_if_ne (tgt := 46) G dX8_comes_41 (by decide) (by omega) (fun h41 => ?_) (fun h41 => ?_)
          · skip
            have hh2 : htF z6_ r tk = 1 := by omega
            have hp := nxt_P hRz6_ (a := z6_ 27 r) (b := glF z tk) (by omega)
            rw [← er24] at hp
            have hin : ds z6_ 16 (z6_ 27 r) (glF z6_ tk) + mnK (z6_ 23 tk) ≤ z6_ 8 0 := by
              have hq := hh2
              unfold htF at hq
              split at hq <;> first | assumption | omega
            rw [eg] at hin
            have hM38 : MI z6_ y38 := MI_y hm (by rw [ho38 72 (by decide), ho24 72 (by decide)])
            have hnn := ds_in hw.1 hRz6_ 16 (oth z6_ r24 (z6_ 27 r)) (glF z tk)
            have hpe := hp.2.2.2.2.2.2
            have ho1 : 1 ≤ ofm z6_ r24 (z6_ 27 r) := by
              have h9 := hw.1 r24 hp.1 hp.2.1
              unfold ofm; split <;> omega
            have hmk := mnK_in (z6_ 23 tk)
            refine i_aload_n G dX8_comes_46 rfl ?_
            refine i_iload G dX8_comes_47 rfl ?_
            refine j_callv (q0 := 0) (As := [vi (r24)]) (st := []) G K_X8_200 (m_sees l hd hRz6_ hRy38 r24 (by first | assumption | omega) (by first | assumption | omega)) rfl rfl rfl (rm_ok (by decide) (by decide)) ⟨Nat.le_refl _, Nat.le_refl _⟩ (Nat.le_of_ble_eq_true rfl) dX8_comes_49 (fun z49 y49 q49 => ?_)
            obtain ⟨ez49, hMz49, hRz49, hRy49, ho49⟩ := q49
            refine i_aload_n G dX8_comes_52 rfl ?_
            refine i_getr G F_X8_30 0 rfl rfl dX8_comes_53 ?_
            refine i_iload G dX8_comes_56 rfl ?_
            refine j_zald_z G 6 rfl (by decide) (by decide) (by omega) (by omega) dX8_comes_58 ?_
            have b58 : 0 ≤ z49 15 r24 ∧ z49 15 r24 ≤ 1 := hRz49 15 _
            refine i_if_eq (tgt := 65) G dX8_comes_59 (by decide) (by omega) (fun h59 => ?_) (fun h59 => ?_)
            · skip
              have e8 : z49 8 0 = z6_ 8 0 := by rw [ez49, seF_k _ _ (by decide) (by decide) (by decide)]
              have e29 : z49 29 r = z6_ 29 r := by rw [ez49, seF_k _ _ (by decide) (by decide) (by decide)]
              have e27 : z49 27 r = z6_ 27 r := by rw [ez49, seF_k _ _ (by decide) (by decide) (by decide)]
              have eo : ofm z49 r24 (z49 27 r) = ofm z6_ r24 (z6_ 27 r) := by rw [e27, ez49, seF_ofm]
              have q49 : 0 ≤ z49 27 r ∧ z49 27 r ≤ 15 := hRz49 27 r
              refine i_aload_n G dX8_comes_65 rfl ?_
              refine i_iload G dX8_comes_66 rfl ?_
              refine i_aload_n G dX8_comes_68 rfl ?_
              refine i_getr G F_X8_70 0 rfl rfl dX8_comes_69 ?_
              refine i_iload_n G dX8_comes_72 rfl ?_
              refine j_iald_z G 19 rfl (by decide) (by decide) (by omega) (by omega) dX8_comes_73 ?_
              have b73 : 0 ≤ z49 27 r ∧ z49 27 r ≤ 15 := hRz49 27 _
              refine j_callE (q0 := 0) (As := [vi (r24), vi ((z49 27 r))]) (st := []) G K_X8_137 (m_of l hd hRz49 hRy49 r24 (z49 27 r) (by first | assumption | omega) (by first | assumption | omega)) rfl rfl rfl (rm_ok (by decide) (by decide)) ⟨Nat.le_refl _, Nat.le_refl _⟩ (Nat.le_of_ble_eq_true rfl) dX8_comes_74 ?_
              have b74 : 0 ≤ (ofm z49 r24 (z49 27 r)) ∧ (ofm z49 r24 (z49 27 r)) ≤ 300 := ofm_in hRz49 _ _
              refine i_istore (L' := [some (.ref (ad 40)), some (vi (r)), some (vi (tk)), some (vi ((glF z tk))), some (vi (r24)), some (vi ((ofm z49 r24 (z49 27 r))))]) G dX8_comes_77 (by decide) rfl ?_
              refine i_aload_n G dX8_comes_79 rfl ?_
              refine i_getr G F_X8_70 0 rfl rfl dX8_comes_80 ?_
              refine i_iload_n G dX8_comes_83 rfl ?_
              refine i_aload_n G dX8_comes_84 rfl ?_
              refine i_iload G dX8_comes_85 rfl ?_
              refine i_aload_n G dX8_comes_87 rfl ?_
              refine i_getr G F_X8_70 0 rfl rfl dX8_comes_88 ?_
              refine i_iload_n G dX8_comes_91 rfl ?_
              refine j_iald_z G 19 rfl (by decide) (by decide) (by omega) (by omega) dX8_comes_92 ?_
              have b92 : 0 ≤ z49 27 r ∧ z49 27 r ≤ 15 := hRz49 27 _
              refine j_callE (q0 := 0) (As := [vi (r24), vi ((z49 27 r))]) (st := [vi (r), .ref (ad 59)]) G K_X8_140 (m_other l hd hRz49 hRy49 r24 (z49 27 r) (by first | assumption | omega) (by first | assumption | omega)) rfl rfl rfl (rm_ok (by decide) (by decide)) ⟨Nat.le_refl _, Nat.le_refl _⟩ (Nat.le_of_ble_eq_true rfl) dX8_comes_93 ?_
              have b93 : 0 ≤ (oth z49 r24 (z49 27 r)) ∧ (oth z49 r24 (z49 27 r)) ≤ 15 := oth_in hRz49 _ _
              refine j_iast_z G 19 rfl (by decide) (by decide) (by omega) (by omega) (by decide) hRz49 (by show (0 : Int) ≤ _ ∧ _ ≤ (15 : Int); omega) dX8_comes_96 (fun z96 ez96 hRz96 => ?_)
              have e896 : z96 8 0 = z49 8 0 := by rw [ez96, zp_nk _ (by decide)]
              refine i_aload_n G dX8_comes_97 rfl ?_
              refine i_dup G rfl dX8_comes_98 ?_
              refine j_getz G F_X8_188 0 rfl rfl (by decide) dX8_comes_99 ?_
              have b99 : 0 ≤ z96 8 0 ∧ z96 8 0 ≤ 480 := hRz96 8 _
              refine i_iload G dX8_comes_102 rfl ?_
              refine i_isub G dX8_comes_104 ?_
              refine j_putz G P_X8_188 0 rfl rfl (by decide) (by decide) (by decide) hRz96 (by show (0 : Int) ≤ _ ∧ _ ≤ (480 : Int); omega) dX8_comes_105 (fun z105 ez105 hRz105 => ?_)
              have e29b : z105 29 r = z49 29 r := by rw [ez105, zp_nk _ (by decide), ez96, zp_nk _ (by decide)]
              refine i_aload_n G dX8_comes_108 rfl ?_
              refine i_getr G F_X8_76 0 rfl rfl dX8_comes_109 ?_
              refine i_iload_n G dX8_comes_112 rfl ?_
              refine i_dup2 G rfl rfl dX8_comes_113 ?_
              refine j_iald_z G 21 rfl (by decide) (by decide) (by omega) (by omega) dX8_comes_114 ?_
              have b114 : 0 ≤ z105 29 r ∧ z105 29 r ≤ 60000 := hRz105 29 _
              refine i_iload G dX8_comes_115 rfl ?_
              refine i_iadd G dX8_comes_117 ?_
              refine j_iast_z G 21 rfl (by decide) (by decide) (by omega) (by omega) (by decide) hRz105 (by show (0 : Int) ≤ _ ∧ _ ≤ (60000 : Int); omega) dX8_comes_118 (fun z118 ez118 hRz118 => ?_)
              refine i_goto (tgt := 6) G dX8_comes_119 (by decide) ?_
              refine i_forget (L' := [some (.ref (ad 40)), some (vi (r)), some (vi (tk)), some (vi ((glF z tk))), none, none]) ⟨rfl, ⟨rfl, ⟨rfl, ⟨rfl, trivial⟩⟩⟩⟩ ?_
              have e15 : z49 15 r24 = z6_ 15 r24 := by rw [ez49, seF_k _ _ (by decide) (by decide) (by decide)]
              have hMv : z118 = mvF z49 r r24 := by
                unfold mvF spdF
                rw [ez118, e29b, ez105, e896, ez96, zp_comm _ (by decide : (27 : Nat) ≠ 8), zp_comm _ (by decide : (27 : Nat) ≠ 29)]
              have hmu2 : muZ z118 < muZ z6_ := by rw [hMv, ez49]; exact mu_mv (by rw [← ez49, eo]; omega) (by rw [← ez49, eo]; exact ho1)
              have hWn : WF z118 := by rw [hMv]; exact WF_mv (by rw [ez49]; exact WF_se hw _) hp.1 (by rw [ez49, seF_k _ _ (by decide) (by decide) (by decide)]; exact hp.2.1)
              have ek : ∀ k, k ≠ 8 → k ≠ 29 → k ≠ 27 → z118 k = z49 k := fun k a b c => by rw [hMv]; exact mvF_k _ _ _ a b c
              exact ih6 z118 y49 hRz118 hRy49 hWn (MI_z hMz49 (ek 32 (by decide) (by decide) (by decide))) (by omega) (Or.inr (by rcases hmz with h | h <;> first | (rw [h] at hmu2; exact hmu2) | omega)) (fun k a b c d e f => by rw [ek k a c b, ez49, seF_k _ _ d e f]; exact hkk k a b c d e f) (by rw [hMv, mvF_s]; omega) (fun k' a b => (ho49 k' b).trans ((ho38 k' a).trans ((ho24 k' a).trans (hyo k' a b)))) (by rw [ek 23 (by decide) (by decide) (by decide), ez49, seF_k _ _ (by decide) (by decide) (by decide)]; have e8n : z118 8 0 = z105 8 0 := (by rw [ez118, zp_nk _ (by decide)]); have e8m : z105 8 0 = z96 8 0 - ofm z49 r24 (z49 27 r) := (by rw [ez105, zp_same]); omega) (by rw [← hC, cmL, if_neg h13, if_neg (by omega), if_pos (by rw [← er24, ← e15]; exact h59), hMv, ez49, er24])
            · skip
              refine i_goto (tgt := 6) G dX8_comes_62 (by decide) ?_
              refine i_forget (L' := [some (.ref (ad 40)), some (vi (r)), some (vi (tk)), some (vi ((glF z tk))), none, none]) ⟨rfl, ⟨rfl, ⟨rfl, ⟨rfl, trivial⟩⟩⟩⟩ ?_
              have e15 : z49 15 r24 = z6_ 15 r24 := by rw [ez49, seF_k _ _ (by decide) (by decide) (by decide)]
              have q15 : 0 ≤ z6_ 15 r24 ∧ z6_ 15 r24 ≤ 1 := hRz6_ 15 r24
              have hmu2 : muZ z49 < muZ z6_ := by rw [ez49]; exact mu_se (by omega) (by omega) hp.2.2.2.2.2.1
              exact ih6 z49 y49 hRz49 hRy49 (by rw [ez49]; exact WF_se hw _) hMz49 (by omega) (Or.inr (by rcases hmz with h | h <;> first | (rw [h] at hmu2; exact hmu2) | omega)) (fun k a b c d e f => by rw [ez49, seF_k _ _ d e f]; exact hkk k a b c d e f) (by rw [ez49, seF_k _ _ (by decide) (by decide) (by decide), seF_k _ _ (by decide) (by decide) (by decide)]; exact hs9) (fun k' a b => (ho49 k' b).trans ((ho38 k' a).trans ((ho24 k' a).trans (hyo k' a b)))) (by rw [ez49, seF_k _ _ (by decide) (by decide) (by decide), seF_k _ _ (by decide) (by decide) (by decide)]; exact hA) (by rw [← hC, cmL, if_neg h13, if_neg (by omega), if_neg (by rw [← er24, ← e15]; exact h59), ez49, er24])
          · skip
            refine i_iconst G dX8_comes_44 ?_
            refine j_retz G hr (by omega) dX8_comes_45 ?_
            have e := hC
            rw [cmL, if_neg h13, if_pos (by omega)] at e
            refine ⟨by rw [← e], by rw [← e], hw, MI_y hm (by first | (rw [ho38 72 (by decide), ho24 72 (by decide)]; done) | (rw [ho24 72 (by decide)]; done)), hRz6_, hRy38, fun k' a b => by first | exact (ho38 k' a).trans ((ho24 k' a).trans (hyo k' a b)) | exact (ho24 k' a).trans (hyo k' a b), hs9, hA, Or.inr ?_, Or.inl rfl⟩
            rcases hmz with ez0 | h
            · exfalso
              have e27z : z6_ 27 r = z 27 r := by rw [ez0]
              have enz : nxt z6_ (z6_ 27 r) (glF z tk) = nxt z (z 27 r) (glF z tk) := by rw [ez0]
              have ehz : htF z6_ r tk = htF z r tk := by rw [ez0]
              have h9 := hx0 (by omega)
              omega
            · exact h
  exact lp6 1000 z y hR hY hF hM (by have := muZ_in hR; omega) (Or.inl rfl) (fun _ _ _ _ _ _ _ => rfl) rfl (fun _ _ _ => rfl) (by omega) rfl
