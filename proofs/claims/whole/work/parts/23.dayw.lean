section DAYW
theorem mvF_29 (z : wZ) (r t : Int) {q : Int} (h : q ≠ r) : mvF z r t 29 q = z 29 q := by
  unfold mvF spdF
  rw [zp_nk _ (by decide), zp_ne _ (by omega), zp_nk _ (by decide)]
theorem mvF_s (z : wZ) (r t : Int) : mvF z r t 29 r + mvF z r t 8 0 = z 29 r + z 8 0 := by
  have e1 : mvF z r t 29 r = z 29 r + ofm z t (z 27 r) := by unfold mvF spdF; rw [zp_nk _ (by decide), zp_same]
  have e2 : mvF z r t 8 0 = z 8 0 - ofm z t (z 27 r) := by unfold mvF spdF; rw [zp_nk _ (by decide), zp_nk _ (by decide), zp_same]
  rw [e1, e2]; omega
theorem cmL_29 (r t g : Int) {q : Int} (h : q ≠ r) : ∀ (n : Nat) (z : wZ), (cmL r t g n z).2 29 q = z 29 q
  | 0, z => rfl
  | n + 1, z => by
    unfold cmL
    split
    · rfl
    · split
      · rfl
      · split
        · rw [cmL_29 r t g h n, mvF_29 _ _ _ h, seF_k _ _ (by decide) (by decide) (by decide)]
        · rw [cmL_29 r t g h n, seF_k _ _ (by decide) (by decide) (by decide)]
theorem cmL_s (r t g : Int) : ∀ (n : Nat) (z : wZ), (cmL r t g n z).2 29 r + (cmL r t g n z).2 8 0 = z 29 r + z 8 0
  | 0, z => rfl
  | n + 1, z => by
    unfold cmL
    split
    · rfl
    · split
      · rfl
      · split
        · rw [cmL_s r t g n, mvF_s, seF_k _ _ (by decide) (by decide) (by decide), seF_k _ _ (by decide) (by decide) (by decide)]
        · rw [cmL_s r t g n, seF_k _ _ (by decide) (by decide) (by decide), seF_k _ _ (by decide) (by decide) (by decide)]
theorem coF_29 (z : wZ) (r t : Int) {q : Int} (h : q ≠ r) : coF z r t 29 q = z 29 q := by
  unfold coF spdF
  rw [zp_nk _ (by decide), zp_ne _ (by omega), zp_nk _ (by decide), dnF_k z t (by decide)]
theorem coF_6 (z : wZ) (r t : Int) : coF z r t 6 0 ≤ z 6 0 := by
  unfold coF spdF
  rw [zp_nk _ (by decide), zp_nk _ (by decide), zp_nk _ (by decide)]
  unfold dnF
  split
  · rw [zp_nk _ (by decide), zp_nk _ (by decide), seF_k _ _ (by decide) (by decide) (by decide)]; omega
  · split
    · unfold puF; rw [zp_same]; omega
    · rw [zp_nk _ (by decide)]; omega
theorem snL_29 (r : Int) {q : Int} (h : q ≠ r) : ∀ (n : Nat) (z : wZ) (d : Int), (snL r n z d).2 29 q = z 29 q
  | 0, z, d => rfl
  | n + 1, z, d => by
    unfold snL
    split
    · rfl
    · split
      · rw [snL_29 r h n, coF_29 _ _ _ h, cmL_29 _ _ _ h]
      · rw [snL_29 r h n, cmL_29 _ _ _ h]
theorem snL_s (r : Int) : ∀ (n : Nat) (z : wZ) (d : Int), (snL r n z d).2 29 r + (snL r n z d).2 8 0 = z 29 r + z 8 0
  | 0, z, d => rfl
  | n + 1, z, d => by
    unfold snL
    split
    · rfl
    · split
      · rw [snL_s r n, coF_sum, cmL_s]
      · rw [snL_s r n, cmL_s]
theorem snL_6 (r : Int) : ∀ (n : Nat) (z : wZ) (d : Int), (snL r n z d).2 6 0 ≤ z 6 0
  | 0, z, d => Int.le_refl _
  | n + 1, z, d => by
    unfold snL
    split
    · exact Int.le_refl _
    · have e := cmL_k r (choF z r) (glF z (choF z r)) (k := 6) (by decide) 1000 z
      split
      · have h1 := snL_6 r n (coF (cmL r (choF z r) (glF z (choF z r)) 1000 z).2 r (choF z r)) (d + 1)
        have h2 := coF_6 (cmL r (choF z r) (glF z (choF z r)) 1000 z).2 r (choF z r)
        rw [e] at h2; omega
      · have h1 := snL_6 r n (cmL r (choF z r) (glF z (choF z r)) 1000 z).2 d
        rw [e] at h1; exact h1
theorem snL_k (r : Int) {k : Nat} (h : k ≠ 8 ∧ k ≠ 29 ∧ k ≠ 26 ∧ k ≠ 15 ∧ k ≠ 16 ∧ k ≠ 22 ∧ k ≠ 32 ∧ k ≠ 19 ∧ k ≠ 20 ∧ k ≠ 21 ∧ k ≠ 6 ∧ k ≠ 27) : ∀ (n : Nat) (z : wZ) (d : Int), (snL r n z d).2 k = z k
  | 0, z, d => rfl
  | n + 1, z, d => by
    unfold snL
    split
    · rfl
    · split
      · rw [snL_k r h n, coF_k _ _ _ (by omega), cmL_k _ _ _ (by omega)]
      · rw [snL_k r h n, cmL_k _ _ _ (by omega)]
end DAYW

set_option maxHeartbeats 4000000 in
set_option maxRecDepth 100000 in
theorem c_day (l : Launch) (hst : l.stackTraces = false) {D : va_G} {aC : Nat → ClassId} {ad : Nat → Nat} (hd : wDi ad shC) {z y : wZ} (hR : Rng z) (hY : Rng y) (hI_z_y : CW z y)  (hwk : ∀ q, 0 ≤ q → q < z 4 0 → z 29 q ≤ 480 * z 7 0) : xMi l D aC ad shC yX7_day cX7_day 3 (.int) (rmX 6 1 6) [.ref (ad 0)] z y (fun r_ z2 y2 => kcDy z = 0 ∧ r_ = (dyL (z 4 0).toNat 0 z 0).1 ∧ z2 = zp (dyL (z 4 0).toNat 0 z 0).2 7 0 (z 7 0 + 1) ∧ Rng z2 ∧ Rng y2 ∧ CW z2 y2 ∧ z2 6 0 ≤ z 6 0 ∧ ∀ q, 0 ≤ q → q < z 4 0 → z2 29 q ≤ 480 * (z 7 0 + 1)) (fun E => (E = eISE ∧ kcDy z = 1)) 1 6 := by
  refine x_i [some (.ref (ad 0)), none, none] (by decide +kernel) rfl (Nat.le_of_ble_eq_true rfl) rfl hd ?_
  intro p e s m args below meth c A G hr hT
  have q4 : 0 ≤ z 4 0 ∧ z 4 0 ≤ 4 := hR 4 0
  have q7 : 0 ≤ z 7 0 ∧ z 7 0 ≤ 50 := hR 7 0
  refine i_aload_n G dX7_day_0 rfl ?_
  refine j_getz G F_X7_51 0 rfl rfl (by decide) dX7_day_1 ?_
  have b1 : 0 ≤ z 7 0 ∧ z 7 0 ≤ 50 := hR 7 _
  refine i_bipush G dX7_day_4 (by decide) ?_
  refine i_icmp_lt (tgt := 19) G dX7_day_6 (by decide) (by omega) (by omega) (fun h6 => ?_) (fun h6 => ?_)
  · skip
    refine i_iconst G dX7_day_19 ?_
    refine i_istore_n (L' := [some (.ref (ad 0)), some (vi (0)), none]) G dX7_day_20 (by decide) rfl ?_
    refine i_iconst G dX7_day_21 ?_
    refine i_istore_n (L' := [some (.ref (ad 0)), some (vi (0)), some (vi (0))]) G dX7_day_22 (by decide) rfl ?_
    have lp23 : ∀ (n23 : Nat) (d j : Int) (z23_ : wZ) (y23_ : wZ), Rng z23_ → Rng y23_ → (0 ≤ j) → (j + n23 = z 4 0) → (CW z23_ y23_) → (z23_ 4 0 = z 4 0) → (z23_ 7 0 = z 7 0) → (z23_ 6 0 ≤ z 6 0) → (∀ q, 0 ≤ q → q < j → z23_ 29 q ≤ 480 * (z 7 0 + 1)) → (∀ q, j ≤ q → q < z 4 0 → z23_ 29 q ≤ 480 * z 7 0) → (dyL n23 j z23_ d = dyL (z 4 0).toNat 0 z 0) → JW p l e (rmX 6 1 6) s m args below meth c 3 D aC ad A shC (vx_MQ below (cQi D aC ad shC (fun r_ z2 y2 => kcDy z = 0 ∧ r_ = (dyL (z 4 0).toNat 0 z 0).1 ∧ z2 = zp (dyL (z 4 0).toNat 0 z 0).2 7 0 (z 7 0 + 1) ∧ Rng z2 ∧ Rng y2 ∧ CW z2 y2 ∧ z2 6 0 ≤ z 6 0 ∧ ∀ q, 0 ≤ q → q < z 4 0 → z2 29 q ≤ 480 * (z 7 0 + 1)) A) (xX D aC ad shC (zc z y) (fun E => (E = eISE ∧ kcDy z = 1)) A) args s 1 6 A) 0 0 (zc z23_ y23_) 23 [some (.ref (ad 0)), some (vi (d)), some (vi (j))] [] := by
      intro n23
      induction n23 with
      | zero => 
        intro d j z23_ y23_ hRz23_ hRy23_ hj hn hI_z23__y23_ hh4 hh7 hh6 hwa hwb hF
        refine i_iload_n G dX7_day_23 rfl ?_
        refine i_aload_n G dX7_day_24 rfl ?_
        refine i_getr G F_X7_40 0 rfl rfl dX7_day_25 ?_
        refine j_getz G F_X7_239 28 rfl rfl (by decide) dX7_day_28 ?_
        have b28 : 0 ≤ z23_ 4 0 ∧ z23_ 4 0 ≤ 4 := hRz23_ 4 _
        refine i_icmp_ge (tgt := 48) G dX7_day_31 (by decide) (by omega) (by omega) (fun h31 => ?_) (fun h31 => ?_)
        · skip
          refine i_aload_n G dX7_day_48 rfl ?_
          refine i_dup G rfl dX7_day_49 ?_
          refine j_getz G F_X7_51 0 rfl rfl (by decide) dX7_day_50 ?_
          have b50 : 0 ≤ z23_ 7 0 ∧ z23_ 7 0 ≤ 50 := hRz23_ 7 _
          refine i_iconst G dX7_day_53 ?_
          refine i_iadd G dX7_day_54 ?_
          refine j_putz G P_X7_51 0 rfl rfl (by decide) (by decide) (by decide) hRz23_ (by show (0 : Int) ≤ _ ∧ _ ≤ (50 : Int); omega) dX7_day_55 (fun z55 ez55 hRz55 => ?_)
          refine i_iload_n G dX7_day_58 rfl ?_
          refine x_reti G hr ⟨Nat.le_of_ble_eq_true rfl, Nat.le_of_ble_eq_true rfl⟩ dX7_day_59 ?_
          have e : (d, z23_) = dyL (z 4 0).toNat 0 z 0 := hF
          have ez : z55 = zp (dyL (z 4 0).toNat 0 z 0).2 7 0 (z 7 0 + 1) := by rw [ez55, ← e, hh7]
          refine ⟨by unfold kcDy; (repeat' split) <;> omega, by rw [← e], ez, hRz55, hRy23_, ?_, ?_, ?_⟩
          · rw [ez55]
            exact CW_k hI_z23__y23_ (WF_congr hI_z23__y23_.1 (fun k _ h7 _ _ _ _ _ _ _ _ _ _ => by rw [zp_nk _ h7])) (fun i hi => by rw [zp_nk _ (by omega)])
          · rw [ez55, zp_nk _ (by decide)]; exact hh6
          · intro q h0 h1
            rw [ez55, zp_nk _ (by decide)]; exact hwa q h0 (by omega)
        · skip
          exfalso; omega
      | succ n23 ih23 => 
        intro d j z23_ y23_ hRz23_ hRy23_ hj hn hI_z23__y23_ hh4 hh7 hh6 hwa hwb hF
        refine i_iload_n G dX7_day_23 rfl ?_
        refine i_aload_n G dX7_day_24 rfl ?_
        refine i_getr G F_X7_40 0 rfl rfl dX7_day_25 ?_
        refine j_getz G F_X7_239 28 rfl rfl (by decide) dX7_day_28 ?_
        have b28 : 0 ≤ z23_ 4 0 ∧ z23_ 4 0 ≤ 4 := hRz23_ 4 _
        refine i_icmp_ge (tgt := 48) G dX7_day_31 (by decide) (by omega) (by omega) (fun h31 => ?_) (fun h31 => ?_)
        · skip
          exfalso; omega
        · skip
          refine i_iload_n G dX7_day_34 rfl ?_
          refine i_aload_n G dX7_day_35 rfl ?_
          refine i_iload_n G dX7_day_36 rfl ?_
          have hw8 := hwb j (by omega) (by omega)
          refine j_calli (q0 := 0) (As := [vi (j)]) (st := [vi (d)]) G K_X7_254 (c_sendOut l hd hRz23_ hRy23_ hI_z23__y23_ j (by first | assumption | omega) (by first | assumption | omega)) rfl rfl rfl (rm_okX (by decide) (by decide)) ⟨Nat.le_of_ble_eq_true rfl, Nat.le_of_ble_eq_true rfl⟩ (Nat.le_of_ble_eq_true rfl) dX7_day_37 (fun r37 z37 y37 q37 => ?_)
          obtain ⟨er37, ez37, hRz37, hRy37, hI_z37_y37, ho37⟩ := q37
          refine i_iadd G dX7_day_40 ?_
          refine i_istore_n (L' := [some (.ref (ad 0)), some (vi ((d + r37))), some (vi (j))]) G dX7_day_41 (by decide) rfl ?_
          refine i_iinc (L' := [some (.ref (ad 0)), some (vi ((d + r37))), some (vi (j + 1))]) G dX7_day_42 (by decide) rfl rfl ?_
          refine i_goto (tgt := 23) G dX7_day_45 (by decide) ?_
          have e4 : z37 4 0 = z 4 0 := by rw [ez37, snL_k _ (by decide), zp_nk _ (by decide)]; exact hh4
          have e7 : z37 7 0 = z 7 0 := by rw [ez37, snL_k _ (by decide), zp_nk _ (by decide)]; exact hh7
          have e6 : z37 6 0 ≤ z 6 0 := by
            have h9 := snL_6 j 1000 (zp z23_ 8 0 480) 0
            rw [zp_nk _ (by decide), ← ez37] at h9; omega
          have e29 : ∀ q, q ≠ j → z37 29 q = z23_ 29 q := fun q hq => by rw [ez37, snL_29 _ hq, zp_nk _ (by decide)]
          have es : z37 29 j + z37 8 0 = z23_ 29 j + 480 := by rw [ez37, snL_s, zp_nk _ (by decide), zp_same]
          have e8 : 0 ≤ z37 8 0 ∧ z37 8 0 ≤ 480 := hRz37 8 0
          have ej := hwb j (by omega) (by omega)
          exact ih23 _ (j + 1) z37 y37 hRz37 hRy37 (by omega) (by omega) hI_z37_y37 e4 e7 e6 (fun q h0 h1 => by
            by_cases c : q = j
            · subst c; omega
            · rw [e29 q c]; exact hwa q h0 (by omega)) (fun q h0 h1 => by rw [e29 q (by omega)]; exact hwb q (by omega) h1) (by rw [← hF, ez37, er37]; rfl)
    exact lp23 (z 4 0).toNat 0 0 z y hR hY (by omega) (by omega) hI_z_y rfl rfl (Int.le_refl _) (fun q h0 h1 => by omega) (fun q h0 h1 => hwk q h0 h1) rfl
  · skip
    refine x_throw (text := "no day is left") G hT hst XF_ISE (by decide +kernel) dX7_day_9 dX7_day_12 dX7_day_13 dX7_day_15 dX7_day_18 ⟨Nat.le_of_ble_eq_true rfl, Nat.le_of_ble_eq_true rfl, Nat.le_of_ble_eq_true rfl, Nat.le_of_ble_eq_true rfl⟩ ⟨Nat.le_of_ble_eq_true rfl, Nat.le_of_ble_eq_true rfl⟩ rfl ?_
    exact ⟨rfl, by unfold kcDy; (repeat' split) <;> omega⟩
