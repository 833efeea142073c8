/-! planning comes to an end -/
section PLN
theorem askL_01 (z : wZ) (kd nb : Int) : ∀ (n : Nat) (t : Int), askL z kd nb n t = 0 ∨ askL z kd nb n t = 1
  | 0, _ => Or.inl rfl
  | n + 1, t => by
    unfold askL
    split
    · exact Or.inr rfl
    · exact askL_01 z kd nb n (t + 1)
theorem askL_ex (z : wZ) (kd nb : Int) : ∀ (n : Nat) (t : Int), askL z kd nb n t = 1 ↔ ∃ s, t ≤ s ∧ s < t + n ∧ z 26 s = -1 ∧ z 23 s = kd ∧ z 24 s = nb
  | 0, t => ⟨fun h => by simp [askL] at h, fun ⟨s, h1, h2, _⟩ => by omega⟩
  | n + 1, t => by
    unfold askL
    split
    · next h => exact ⟨fun _ => ⟨t, Int.le_refl _, by omega, h⟩, fun _ => rfl⟩
    · next h =>
      rw [askL_ex z kd nb n (t + 1)]
      refine ⟨fun ⟨s, h1, h2, h3⟩ => ⟨s, by omega, by omega, h3⟩, fun ⟨s, h1, h2, h3⟩ => ?_⟩
      have hs : s ≠ t := fun e => h (e ▸ h3)
      exact ⟨s, by omega, by omega, h3⟩
theorem mk_at (z : wZ) (kd nb dg : Int) {s : Int} (h : s ≠ z 3 0) : mkF z kd nb dg 26 s = z 26 s ∧ mkF z kd nb dg 23 s = z 23 s ∧ mkF z kd nb dg 24 s = z 24 s := by
  refine ⟨?_, ?_, ?_⟩ <;> simp [mkF, zp, h]
theorem mk_3 (z : wZ) (kd nb dg : Int) : mkF z kd nb dg 3 0 = z 3 0 + 1 := by simp [mkF, zp]
theorem ask_up {z : wZ} (hR : Rng z) (kd nb dg k b : Int) (h : askL z k b (z 3 0).toNat 0 = 1) : askL (mkF z kd nb dg) k b (mkF z kd nb dg 3 0).toNat 0 = 1 := by
  have q3 : 0 ≤ z 3 0 ∧ z 3 0 ≤ 40 := hR 3 0
  obtain ⟨s, h1, h2, h3⟩ := (askL_ex _ _ _ _ _).mp h
  have e := mk_at z kd nb dg (s := s) (by omega)
  refine (askL_ex _ _ _ _ _).mpr ⟨s, h1, by rw [mk_3]; omega, ?_⟩
  rw [e.1, e.2.1, e.2.2]; exact h3
theorem ask_new {z : wZ} (hR : Rng z) (kd nb dg : Int) : askL (mkF z kd nb dg) kd nb (mkF z kd nb dg 3 0).toNat 0 = 1 := by
  have q3 : 0 ≤ z 3 0 ∧ z 3 0 ≤ 40 := hR 3 0
  refine (askL_ex _ _ _ _ _).mpr ⟨z 3 0, q3.1, by rw [mk_3]; omega, ?_, ?_, ?_⟩ <;> simp [mkF, zp]
theorem dng_cg {z w : wZ} (h : ∀ k, k = 1 ∨ k = 11 ∨ k = 12 ∨ k = 13 ∨ k = 14 ∨ k = 16 ∨ k = 17 ∨ k = 18 ∨ k = 19 ∨ k = 20 → w k = z k) (b : Int) : dng w b = dng z b := by
  have e : ds w 16 = ds z 16 := ds_congr (h 1 (by decide)) (h 11 (by decide)) (h 12 (by decide)) (h 13 (by decide)) (h 14 (by decide)) (h 16 (by decide))
  unfold dng dgC mbF ofm oth
  rw [e, h 11 (by decide), h 12 (by decide), h 13 (by decide), h 14 (by decide), h 16 (by decide), h 17 (by decide), h 18 (by decide), h 19 (by decide), h 20 (by decide)]
/-- a board wants a task -/
def wnP (z : wZ) (b : Int) : Prop := wrI z b = 1 ∧ askL z (ktF z b) b (z 3 0).toNat 0 = 0
noncomputable def cwL (z : wZ) : Nat → Nat
  | 0 => 0
  | n + 1 => cwL z n + @ite Nat (wnP z (n : Int)) (Classical.propDecidable _) 1 0
theorem cwL_le {z w : wZ} (h : ∀ b, wnP w b → wnP z b) : ∀ n, cwL w n ≤ cwL z n
  | 0 => Nat.le_refl _
  | n + 1 => by
    have := cwL_le h n
    unfold cwL
    by_cases c : wnP w (n : Int)
    · rw [if_pos c, if_pos (h _ c)]; omega
    · rw [if_neg c]; split <;> omega
theorem cwL_lt {z w : wZ} (h : ∀ b, wnP w b → wnP z b) {B : Int} (h0 : 0 ≤ B) (hz : wnP z B) (hw : ¬ wnP w B) : ∀ n : Nat, B < n → cwL w n < cwL z n
  | 0, hn => by omega
  | n + 1, hn => by
    unfold cwL
    by_cases e : B = n
    · have := cwL_le h n
      subst e
      rw [if_neg hw, if_pos hz]; omega
    · have := cwL_lt h h0 hz hw n (by omega)
      by_cases c : wnP w (n : Int)
      · rw [if_pos c, if_pos (h _ c)]; omega
      · rw [if_neg c]; split <;> omega
theorem cwL_in (z : wZ) : ∀ n, cwL z n ≤ n
  | 0 => Nat.le_refl _
  | n + 1 => by have := cwL_in z n; unfold cwL; split <;> omega
theorem cwL_pos {z : wZ} {B : Int} (h0 : 0 ≤ B) (hz : wnP z B) : ∀ n : Nat, B < n → 1 ≤ cwL z n
  | 0, hn => by omega
  | n + 1, hn => by
    unfold cwL
    by_cases e : B = n
    · subst e; rw [if_pos hz]; omega
    · have := cwL_pos h0 hz n (by omega); omega
noncomputable def cwZ (z : wZ) : Nat := cwL z (z 2 0).toNat
theorem ntL_w (z : wZ) : ∀ (n : Nat) (b best most : Int), (best = -1 ∨ wnP z best) → (ntL z n b best most = -1 ∨ wnP z (ntL z n b best most))
  | 0, b, best, most, h => h
  | n + 1, b, best, most, h => by
    unfold ntL
    split
    · next c => exact ntL_w z n (b + 1) b _ (Or.inr ⟨c.1, c.2.2⟩)
    · exact ntL_w z n (b + 1) best most h
theorem ntF_w {z : wZ} (h : ntF z ≠ -1) : wnP z (ntF z) := (ntL_w z _ 0 (-1) (-1) (Or.inl rfl)).resolve_left h
theorem ktF_k (z : wZ) (a b d c : Int) : ktF (mkF z a b d) c = ktF z c := by unfold ktF; rw [mkF_k z a b d (by decide)]
theorem dng_mk (z : wZ) (a b d c : Int) : dng (mkF z a b d) c = dng z c := dng_cg (fun k hk => mkF_k z a b d (by omega)) c
theorem wrI_mk (z : wZ) (a b d c : Int) : wrI (mkF z a b d) c = wrI z c := by unfold wrI; rw [dng_mk, mkF_k z a b d (by decide)]
theorem wnP_mk {z : wZ} (hR : Rng z) (a b d c : Int) (h : wnP (mkF z a b d) c) : wnP z c := by
  obtain ⟨h1, h2⟩ := h
  rw [wrI_mk] at h1
  rw [ktF_k] at h2
  refine ⟨h1, ?_⟩
  rcases askL_01 z (ktF z c) c (z 3 0).toNat 0 with q | q
  · exact q
  · have := ask_up hR a b d _ _ q
    rw [this] at h2; omega
theorem cwZ_lt {z : wZ} (hR : Rng z) (h : ntF z ≠ -1) (d : Int) : cwZ (mkF z (ktF z (ntF z)) (ntF z) d) < cwZ z ∧ 1 ≤ cwZ z := by
  have q2 : 0 ≤ z 2 0 ∧ z 2 0 ≤ 30 := hR 2 0
  have hi := ntF_in hR
  have hw := ntF_w h
  unfold cwZ
  rw [mkF_k z _ _ _ (by decide)]
  refine ⟨cwL_lt (fun b => wnP_mk hR _ _ _ b) (by omega) hw (fun hc => ?_) _ (by omega), cwL_pos (by omega) hw _ (by omega)⟩
  have h2 := hc.2
  rw [ktF_k, ask_new hR] at h2
  omega
theorem plL_stop {z : wZ} (d : Int) (h : 40 ≤ z 3 0 ∨ ntF z = -1) : ∀ m : Nat, plL m z d = (d, z)
  | 0 => rfl
  | m + 1 => by
    unfold plL
    by_cases c : z 3 0 < 40
    · rw [if_pos c, if_pos (by omega)]
    · rw [if_neg c]
theorem plL_go {z : wZ} (d : Int) (h1 : z 3 0 < 40) (h2 : ntF z ≠ -1) {m : Nat} (hm : 1 ≤ m) : plL m z d = plL (m - 1) (mkF z (ktF z (ntF z)) (ntF z) (dng z (ntF z))) (d + 1) := by
  obtain ⟨k, rfl⟩ : ∃ k, m = k + 1 := ⟨m - 1, by omega⟩
  rw [plL, if_pos h1, if_neg h2]; rfl
theorem plL_k {k : Nat} (h : k ≠ 3 ∧ k ≠ 23 ∧ k ≠ 24 ∧ k ≠ 25 ∧ k ≠ 26) : ∀ (n : Nat) (z : wZ) (m : Int), (plL n z m).2 k = z k
  | 0, _, _ => rfl
  | n + 1, z, m => by
    unfold plL
    (repeat' split)
    · rfl
    · rw [plL_k h n, mkF_k _ _ _ _ h]
    · rfl
end PLN

set_option maxHeartbeats 4000000 in
set_option maxRecDepth 100000 in
theorem m_hasOpen (l : Launch) {D : va_G} {aC : Nat → ClassId} {ad : Nat → Nat} (hd : wDi ad shM) {z y : wZ} (hR : Rng z) (hY : Rng y) (kd : Int) (nb : Int) (hk : 0 ≤ kd ∧ kd < 65536) (hnb : 0 ≤ nb ∧ nb ≤ 29) : cE l D aC ad shM yX8_hasOpen cX8_hasOpen 5 (.boolean) (rmL 0) [.ref (ad 40), vi kd, vi nb] z y (askL z kd nb (z 3 0).toNat 0) := by
  refine c_i [some (.ref (ad 40)), some (vi (kd)), some (vi (nb)), none, none] (by decide +kernel) rfl (Nat.le_of_ble_eq_true rfl) rfl hd ?_
  intro p e s m args below meth c A G hr
  have q3 : 0 ≤ z 3 0 ∧ z 3 0 ≤ 40 := hR 3 0
  refine i_iconst G dX8_hasOpen_0 ?_
  refine i_istore_n (L' := [some (.ref (ad 40)), some (vi (kd)), some (vi (nb)), some (vi (0)), none]) G dX8_hasOpen_1 (by decide) rfl ?_
  refine i_iconst G dX8_hasOpen_2 ?_
  refine i_istore (L' := [some (.ref (ad 40)), some (vi (kd)), some (vi (nb)), some (vi (0)), some (vi (0))]) G dX8_hasOpen_3 (by decide) rfl ?_
  have lp5 : ∀ (n5 : Nat) (acc t : Int), (0 ≤ t) → (t + n5 = z 3 0) → (acc = 0 ∨ acc = 1) → ((if acc = 1 then 1 else askL z kd nb n5 t) = askL z kd nb (z 3 0).toNat 0) → JW p l e (rmL 0) s m args below meth c 5 D aC ad A shM (MQ below (cQi D aC ad shM (fun r_ z_ y_ => r_ = (askL z kd nb (z 3 0).toNat 0) ∧ z_ = z ∧ y_ = y) A) args s 0 0 A) 0 0 (zc z y) 5 [some (.ref (ad 40)), some (vi (kd)), some (vi (nb)), some (vi (acc)), some (vi (t))] [] := by
    intro n5
    induction n5 with
    | zero => 
      intro acc t ht hn hac hF
      refine i_iload G dX8_hasOpen_5 rfl ?_
      refine i_aload_n G dX8_hasOpen_7 rfl ?_
      refine j_getz G F_X8_104 0 rfl rfl (by decide) dX8_hasOpen_8 ?_
      have b8 : 0 ≤ z 3 0 ∧ z 3 0 ≤ 40 := hR 3 _
      refine i_icmp_ge (tgt := 63) G dX8_hasOpen_11 (by decide) (by omega) (by omega) (fun h11 => ?_) (fun h11 => ?_)
      · skip
        refine i_iload_n G dX8_hasOpen_63 rfl ?_
        refine j_retz G hr (by omega) dX8_hasOpen_64 ?_
        refine ⟨?_, rfl, rfl⟩
        rw [← hF]
        rcases hac with rfl | rfl <;> rfl
      · skip
        exfalso; omega
    | succ n5 ih5 => 
      intro acc t ht hn hac hF
      refine i_iload G dX8_hasOpen_5 rfl ?_
      refine i_aload_n G dX8_hasOpen_7 rfl ?_
      refine j_getz G F_X8_104 0 rfl rfl (by decide) dX8_hasOpen_8 ?_
      have b8 : 0 ≤ z 3 0 ∧ z 3 0 ≤ 40 := hR 3 _
      refine i_icmp_ge (tgt := 63) G dX8_hasOpen_11 (by decide) (by omega) (by omega) (fun h11 => ?_) (fun h11 => ?_)
      · skip
        exfalso; omega
      · skip
        refine i_iload_n G dX8_hasOpen_14 rfl ?_
        refine i_if_ne (tgt := 51) G dX8_hasOpen_15 (by decide) (by omega) (fun h15 => ?_) (fun h15 => ?_)
        · skip
          refine i_iconst G dX8_hasOpen_51 ?_
          refine i_goto (tgt := 56) G dX8_hasOpen_52 (by decide) ?_
          refine i_istore_n (L' := [some (.ref (ad 40)), some (vi (kd)), some (vi (nb)), some (vi (1)), some (vi (t))]) G dX8_hasOpen_56 (by decide) rfl ?_
          refine i_iinc (L' := [some (.ref (ad 40)), some (vi (kd)), some (vi (nb)), some (vi (1)), some (vi (t + 1))]) G dX8_hasOpen_57 (by decide) rfl rfl ?_
          refine i_goto (tgt := 5) G dX8_hasOpen_60 (by decide) ?_
          exact ih5 _ (t + 1) (by omega) (by omega) (by omega) (by
            rw [← hF, askL]
            first | (rw [if_pos rfl, if_pos (by omega)]; done) | (rw [if_pos rfl, if_neg (by omega), if_pos (by omega)]; done) | (rw [if_neg (by omega), if_neg (by omega), if_neg (by omega)]; done))
        · skip
          refine i_aload_n G dX8_hasOpen_18 rfl ?_
          refine i_getr G F_X8_57 0 rfl rfl dX8_hasOpen_19 ?_
          refine i_iload G dX8_hasOpen_22 rfl ?_
          refine j_cald_z G 15 rfl (by decide) (by decide) (by omega) (by omega) dX8_hasOpen_24 ?_
          have b24 : 0 ≤ z 23 t ∧ z 23 t ≤ 65535 := hR 23 _
          refine i_iload_n G dX8_hasOpen_25 rfl ?_
          refine i_icmp_ne (tgt := 55) G dX8_hasOpen_26 (by decide) (by omega) (by omega) (fun h26 => ?_) (fun h26 => ?_)
          · skip
            refine i_iconst G dX8_hasOpen_55 ?_
            refine i_istore_n (L' := [some (.ref (ad 40)), some (vi (kd)), some (vi (nb)), some (vi (0)), some (vi (t))]) G dX8_hasOpen_56 (by decide) rfl ?_
            refine i_iinc (L' := [some (.ref (ad 40)), some (vi (kd)), some (vi (nb)), some (vi (0)), some (vi (t + 1))]) G dX8_hasOpen_57 (by decide) rfl rfl ?_
            refine i_goto (tgt := 5) G dX8_hasOpen_60 (by decide) ?_
            exact ih5 _ (t + 1) (by omega) (by omega) (by omega) (by
              rw [← hF, askL]
              first | (rw [if_pos rfl, if_pos (by omega)]; done) | (rw [if_pos rfl, if_neg (by omega), if_pos (by omega)]; done) | (rw [if_neg (by omega), if_neg (by omega), if_neg (by omega)]; done))
          · skip
            refine i_aload_n G dX8_hasOpen_29 rfl ?_
            refine i_getr G F_X8_61 0 rfl rfl dX8_hasOpen_30 ?_
            refine i_iload G dX8_hasOpen_33 rfl ?_
            refine j_iald_z G 16 rfl (by decide) (by decide) (by omega) (by omega) dX8_hasOpen_35 ?_
            have b35 : 0 ≤ z 24 t ∧ z 24 t ≤ 29 := hR 24 _
            refine i_iload_n G dX8_hasOpen_36 rfl ?_
            refine i_icmp_ne (tgt := 55) G dX8_hasOpen_37 (by decide) (by omega) (by omega) (fun h37 => ?_) (fun h37 => ?_)
            · skip
              refine i_iconst G dX8_hasOpen_55 ?_
              refine i_istore_n (L' := [some (.ref (ad 40)), some (vi (kd)), some (vi (nb)), some (vi (0)), some (vi (t))]) G dX8_hasOpen_56 (by decide) rfl ?_
              refine i_iinc (L' := [some (.ref (ad 40)), some (vi (kd)), some (vi (nb)), some (vi (0)), some (vi (t + 1))]) G dX8_hasOpen_57 (by decide) rfl rfl ?_
              refine i_goto (tgt := 5) G dX8_hasOpen_60 (by decide) ?_
              exact ih5 _ (t + 1) (by omega) (by omega) (by omega) (by
                rw [← hF, askL]
                first | (rw [if_pos rfl, if_pos (by omega)]; done) | (rw [if_pos rfl, if_neg (by omega), if_pos (by omega)]; done) | (rw [if_neg (by omega), if_neg (by omega), if_neg (by omega)]; done))
            · skip
              refine i_aload_n G dX8_hasOpen_40 rfl ?_
              refine i_getr G F_X8_67 0 rfl rfl dX8_hasOpen_41 ?_
              refine i_iload G dX8_hasOpen_44 rfl ?_
              refine j_iald_z G 18 rfl (by decide) (by decide) (by omega) (by omega) dX8_hasOpen_46 ?_
              have b46 : -1 ≤ z 26 t ∧ z 26 t ≤ 3 := hR 26 _
              refine i_iconst G dX8_hasOpen_47 ?_
              refine i_icmp_ne (tgt := 55) G dX8_hasOpen_48 (by decide) (by omega) (by omega) (fun h48 => ?_) (fun h48 => ?_)
              · skip
                refine i_iconst G dX8_hasOpen_55 ?_
                refine i_istore_n (L' := [some (.ref (ad 40)), some (vi (kd)), some (vi (nb)), some (vi (0)), some (vi (t))]) G dX8_hasOpen_56 (by decide) rfl ?_
                refine i_iinc (L' := [some (.ref (ad 40)), some (vi (kd)), some (vi (nb)), some (vi (0)), some (vi (t + 1))]) G dX8_hasOpen_57 (by decide) rfl rfl ?_
                refine i_goto (tgt := 5) G dX8_hasOpen_60 (by decide) ?_
                exact ih5 _ (t + 1) (by omega) (by omega) (by omega) (by
                  rw [← hF, askL]
                  first | (rw [if_pos rfl, if_pos (by omega)]; done) | (rw [if_pos rfl, if_neg (by omega), if_pos (by omega)]; done) | (rw [if_neg (by omega), if_neg (by omega), if_neg (by omega)]; done))
              · skip
                refine i_iconst G dX8_hasOpen_51 ?_
                refine i_goto (tgt := 56) G dX8_hasOpen_52 (by decide) ?_
                refine i_istore_n (L' := [some (.ref (ad 40)), some (vi (kd)), some (vi (nb)), some (vi (1)), some (vi (t))]) G dX8_hasOpen_56 (by decide) rfl ?_
                refine i_iinc (L' := [some (.ref (ad 40)), some (vi (kd)), some (vi (nb)), some (vi (1)), some (vi (t + 1))]) G dX8_hasOpen_57 (by decide) rfl rfl ?_
                refine i_goto (tgt := 5) G dX8_hasOpen_60 (by decide) ?_
                exact ih5 _ (t + 1) (by omega) (by omega) (by omega) (by
                  rw [← hF, askL]
                  first | (rw [if_pos rfl, if_pos (by omega)]; done) | (rw [if_pos rfl, if_neg (by omega), if_pos (by omega)]; done) | (rw [if_neg (by omega), if_neg (by omega), if_neg (by omega)]; done))
  exact lp5 (z 3 0).toNat 0 0 (by omega) (by omega) (by omega) (by rw [if_neg (by omega)])
set_option maxHeartbeats 4000000 in
set_option maxRecDepth 100000 in
theorem m_wants (l : Launch) {D : va_G} {aC : Nat → ClassId} {ad : Nat → Nat} (hd : wDi ad shM) {z y : wZ} (hR : Rng z) (hY : Rng y) (b : Int) (hF : WF z) (hb : 0 ≤ b ∧ b < z 2 0) : cYi l D aC ad shM yX8_wants cX8_wants 3 (.boolean) (rmL 4) [.ref (ad 40), vi b] z y (fun r_ y2 => ((r_ = 1 ∧ wnP z b) ∨ (r_ = 0 ∧ ¬ wnP z b)) ∧ Rng y2 ∧ ∀ k', k' ≠ 70 → y2 k' = y k') := by
  refine c_i [some (.ref (ad 40)), some (vi (b)), none] (by decide +kernel) rfl (Nat.le_of_ble_eq_true rfl) rfl hd ?_
  intro p e s m args below meth c A G hr
  have q2 : 0 ≤ z 2 0 ∧ z 2 0 ≤ 30 := hR 2 0
  refine i_aload_n G dX8_wants_0 rfl ?_
  refine i_iload_n G dX8_wants_1 rfl ?_
  refine i_iconst G dX8_wants_2 ?_
  refine j_callYi (q0 := 0) (As := [vi (b), vi (0)]) (st := []) G K_X8_161 (m_dangerOf_0 l hd hR hY b (by first | assumption | omega) (by first | assumption | omega)) rfl rfl rfl (rm_ok (by decide) (by decide)) ⟨Nat.le_refl _, Nat.le_refl _⟩ (Nat.le_of_ble_eq_true rfl) dX8_wants_3 (fun r3 y3 q3 => ?_)
  obtain ⟨er3, br3, hRy3, ho3⟩ := q3
  refine i_if_le (tgt := 13) G dX8_wants_6 (by decide) (by omega) (fun h6 => ?_) (fun h6 => ?_)
  · skip
    refine i_iconst G dX8_wants_13 ?_
    refine i_istore_n (L' := [some (.ref (ad 40)), some (vi (b)), some (vi (0))]) G dX8_wants_14 (by decide) rfl ?_
    refine i_aload_n G dX8_wants_15 rfl ?_
    refine i_getr G F_X8_48 0 rfl rfl dX8_wants_16 ?_
    refine i_iload_n G dX8_wants_19 rfl ?_
    refine j_zald_z G 12 rfl (by decide) (by decide) (by omega) (by omega) dX8_wants_20 ?_
    have b20 : 0 ≤ z 21 b ∧ z 21 b ≤ 1 := hR 21 _
    refine i_iload_n G dX8_wants_21 rfl ?_
    refine i_icmp_eq (tgt := 53) G dX8_wants_22 (by decide) (by omega) (by omega) (fun h22 => ?_) (fun h22 => ?_)
    · skip
      refine i_iconst G dX8_wants_53 ?_
      refine j_retz G hr (by omega) dX8_wants_54 ?_
      refine ⟨rfl, ?_⟩
      refine ⟨?_, hRy3, ho3⟩
      have er3d : r3 = dng z b := er3
      have hk : ktF z b = (if z 21 b = 0 then 99 else 117) := rfl
      unfold wnP wrI
      rw [hk]
      first | (refine Or.inl ⟨rfl, ?_, ?_⟩ <;> (repeat' split) <;> omega) | (refine Or.inr ⟨rfl, fun hc => ?_⟩; obtain ⟨c1, c2⟩ := hc; (repeat' split at c1) <;> (first | omega | (rw [if_pos (by omega)] at c2; omega) | (rw [if_neg (by omega)] at c2; omega)))
    · skip
      refine i_aload_n G dX8_wants_25 rfl ?_
      refine i_aload_n G dX8_wants_26 rfl ?_
      refine i_getr G F_X8_48 0 rfl rfl dX8_wants_27 ?_
      refine i_iload_n G dX8_wants_30 rfl ?_
      refine j_zald_z G 12 rfl (by decide) (by decide) (by omega) (by omega) dX8_wants_31 ?_
      have b31 : 0 ≤ z 21 b ∧ z 21 b ≤ 1 := hR 21 _
      refine i_if_eq (tgt := 40) G dX8_wants_32 (by decide) (by omega) (fun h32 => ?_) (fun h32 => ?_)
      · skip
        refine i_bipush G dX8_wants_40 (by decide) ?_
        refine i_iload_n G dX8_wants_42 rfl ?_
        refine j_callE (q0 := 0) (As := [vi (99), vi (b)]) (st := []) G K_X8_169 (m_hasOpen l hd hR hRy3 99 b (by first | assumption | omega) (by first | assumption | omega)) rfl rfl rfl (rm_ok (by decide) (by decide)) ⟨Nat.le_refl _, Nat.le_refl _⟩ (Nat.le_of_ble_eq_true rfl) dX8_wants_43 ?_
        have b43 : (askL z 99 b (z 3 0).toNat 0) = 0 ∨ (askL z 99 b (z 3 0).toNat 0) = 1 := askL_01 _ _ _ _ _
        refine i_if_ne (tgt := 53) G dX8_wants_46 (by decide) (by omega) (fun h46 => ?_) (fun h46 => ?_)
        · skip
          refine i_iconst G dX8_wants_53 ?_
          refine j_retz G hr (by omega) dX8_wants_54 ?_
          refine ⟨rfl, ?_⟩
          refine ⟨?_, hRy3, ho3⟩
          have er3d : r3 = dng z b := er3
          have hk : ktF z b = (if z 21 b = 0 then 99 else 117) := rfl
          unfold wnP wrI
          rw [hk]
          first | (refine Or.inl ⟨rfl, ?_, ?_⟩ <;> (repeat' split) <;> omega) | (refine Or.inr ⟨rfl, fun hc => ?_⟩; obtain ⟨c1, c2⟩ := hc; (repeat' split at c1) <;> (first | omega | (rw [if_pos (by omega)] at c2; omega) | (rw [if_neg (by omega)] at c2; omega)))
        · skip
          refine i_iconst G dX8_wants_49 ?_
          refine i_goto (tgt := 54) G dX8_wants_50 (by decide) ?_
          refine j_retz G hr (by omega) dX8_wants_54 ?_
          refine ⟨rfl, ?_⟩
          refine ⟨?_, hRy3, ho3⟩
          have er3d : r3 = dng z b := er3
          have hk : ktF z b = (if z 21 b = 0 then 99 else 117) := rfl
          unfold wnP wrI
          rw [hk]
          first | (refine Or.inl ⟨rfl, ?_, ?_⟩ <;> (repeat' split) <;> omega) | (refine Or.inr ⟨rfl, fun hc => ?_⟩; obtain ⟨c1, c2⟩ := hc; (repeat' split at c1) <;> (first | omega | (rw [if_pos (by omega)] at c2; omega) | (rw [if_neg (by omega)] at c2; omega)))
      · skip
        refine i_bipush G dX8_wants_35 (by decide) ?_
        refine i_goto (tgt := 42) G dX8_wants_37 (by decide) ?_
        refine i_iload_n G dX8_wants_42 rfl ?_
        refine j_callE (q0 := 0) (As := [vi (117), vi (b)]) (st := []) G K_X8_169 (m_hasOpen l hd hR hRy3 117 b (by first | assumption | omega) (by first | assumption | omega)) rfl rfl rfl (rm_ok (by decide) (by decide)) ⟨Nat.le_refl _, Nat.le_refl _⟩ (Nat.le_of_ble_eq_true rfl) dX8_wants_43 ?_
        have b43 : (askL z 117 b (z 3 0).toNat 0) = 0 ∨ (askL z 117 b (z 3 0).toNat 0) = 1 := askL_01 _ _ _ _ _
        refine i_if_ne (tgt := 53) G dX8_wants_46 (by decide) (by omega) (fun h46 => ?_) (fun h46 => ?_)
        · skip
          refine i_iconst G dX8_wants_53 ?_
          refine j_retz G hr (by omega) dX8_wants_54 ?_
          refine ⟨rfl, ?_⟩
          refine ⟨?_, hRy3, ho3⟩
          have er3d : r3 = dng z b := er3
          have hk : ktF z b = (if z 21 b = 0 then 99 else 117) := rfl
          unfold wnP wrI
          rw [hk]
          first | (refine Or.inl ⟨rfl, ?_, ?_⟩ <;> (repeat' split) <;> omega) | (refine Or.inr ⟨rfl, fun hc => ?_⟩; obtain ⟨c1, c2⟩ := hc; (repeat' split at c1) <;> (first | omega | (rw [if_pos (by omega)] at c2; omega) | (rw [if_neg (by omega)] at c2; omega)))
        · skip
          refine i_iconst G dX8_wants_49 ?_
          refine i_goto (tgt := 54) G dX8_wants_50 (by decide) ?_
          refine j_retz G hr (by omega) dX8_wants_54 ?_
          refine ⟨rfl, ?_⟩
          refine ⟨?_, hRy3, ho3⟩
          have er3d : r3 = dng z b := er3
          have hk : ktF z b = (if z 21 b = 0 then 99 else 117) := rfl
          unfold wnP wrI
          rw [hk]
          first | (refine Or.inl ⟨rfl, ?_, ?_⟩ <;> (repeat' split) <;> omega) | (refine Or.inr ⟨rfl, fun hc => ?_⟩; obtain ⟨c1, c2⟩ := hc; (repeat' split at c1) <;> (first | omega | (rw [if_pos (by omega)] at c2; omega) | (rw [if_neg (by omega)] at c2; omega)))
  · skip
    refine i_iconst G dX8_wants_9 ?_
    refine i_goto (tgt := 14) G dX8_wants_10 (by decide) ?_
    refine i_istore_n (L' := [some (.ref (ad 40)), some (vi (b)), some (vi (1))]) G dX8_wants_14 (by decide) rfl ?_
    refine i_aload_n G dX8_wants_15 rfl ?_
    refine i_getr G F_X8_48 0 rfl rfl dX8_wants_16 ?_
    refine i_iload_n G dX8_wants_19 rfl ?_
    refine j_zald_z G 12 rfl (by decide) (by decide) (by omega) (by omega) dX8_wants_20 ?_
    have b20 : 0 ≤ z 21 b ∧ z 21 b ≤ 1 := hR 21 _
    refine i_iload_n G dX8_wants_21 rfl ?_
    refine i_icmp_eq (tgt := 53) G dX8_wants_22 (by decide) (by omega) (by omega) (fun h22 => ?_) (fun h22 => ?_)
    · skip
      refine i_iconst G dX8_wants_53 ?_
      refine j_retz G hr (by omega) dX8_wants_54 ?_
      refine ⟨rfl, ?_⟩
      refine ⟨?_, hRy3, ho3⟩
      have er3d : r3 = dng z b := er3
      have hk : ktF z b = (if z 21 b = 0 then 99 else 117) := rfl
      unfold wnP wrI
      rw [hk]
      first | (refine Or.inl ⟨rfl, ?_, ?_⟩ <;> (repeat' split) <;> omega) | (refine Or.inr ⟨rfl, fun hc => ?_⟩; obtain ⟨c1, c2⟩ := hc; (repeat' split at c1) <;> (first | omega | (rw [if_pos (by omega)] at c2; omega) | (rw [if_neg (by omega)] at c2; omega)))
    · skip
      refine i_aload_n G dX8_wants_25 rfl ?_
      refine i_aload_n G dX8_wants_26 rfl ?_
      refine i_getr G F_X8_48 0 rfl rfl dX8_wants_27 ?_
      refine i_iload_n G dX8_wants_30 rfl ?_
      refine j_zald_z G 12 rfl (by decide) (by decide) (by omega) (by omega) dX8_wants_31 ?_
      have b31 : 0 ≤ z 21 b ∧ z 21 b ≤ 1 := hR 21 _
      refine i_if_eq (tgt := 40) G dX8_wants_32 (by decide) (by omega) (fun h32 => ?_) (fun h32 => ?_)
      · skip
        refine i_bipush G dX8_wants_40 (by decide) ?_
        refine i_iload_n G dX8_wants_42 rfl ?_
        refine j_callE (q0 := 0) (As := [vi (99), vi (b)]) (st := []) G K_X8_169 (m_hasOpen l hd hR hRy3 99 b (by first | assumption | omega) (by first | assumption | omega)) rfl rfl rfl (rm_ok (by decide) (by decide)) ⟨Nat.le_refl _, Nat.le_refl _⟩ (Nat.le_of_ble_eq_true rfl) dX8_wants_43 ?_
        have b43 : (askL z 99 b (z 3 0).toNat 0) = 0 ∨ (askL z 99 b (z 3 0).toNat 0) = 1 := askL_01 _ _ _ _ _
        refine i_if_ne (tgt := 53) G dX8_wants_46 (by decide) (by omega) (fun h46 => ?_) (fun h46 => ?_)
        · skip
          refine i_iconst G dX8_wants_53 ?_
          refine j_retz G hr (by omega) dX8_wants_54 ?_
          refine ⟨rfl, ?_⟩
          refine ⟨?_, hRy3, ho3⟩
          have er3d : r3 = dng z b := er3
          have hk : ktF z b = (if z 21 b = 0 then 99 else 117) := rfl
          unfold wnP wrI
          rw [hk]
          first | (refine Or.inl ⟨rfl, ?_, ?_⟩ <;> (repeat' split) <;> omega) | (refine Or.inr ⟨rfl, fun hc => ?_⟩; obtain ⟨c1, c2⟩ := hc; (repeat' split at c1) <;> (first | omega | (rw [if_pos (by omega)] at c2; omega) | (rw [if_neg (by omega)] at c2; omega)))
        · skip
          refine i_iconst G dX8_wants_49 ?_
          refine i_goto (tgt := 54) G dX8_wants_50 (by decide) ?_
          refine j_retz G hr (by omega) dX8_wants_54 ?_
          refine ⟨rfl, ?_⟩
          refine ⟨?_, hRy3, ho3⟩
          have er3d : r3 = dng z b := er3
          have hk : ktF z b = (if z 21 b = 0 then 99 else 117) := rfl
          unfold wnP wrI
          rw [hk]
          first | (refine Or.inl ⟨rfl, ?_, ?_⟩ <;> (repeat' split) <;> omega) | (refine Or.inr ⟨rfl, fun hc => ?_⟩; obtain ⟨c1, c2⟩ := hc; (repeat' split at c1) <;> (first | omega | (rw [if_pos (by omega)] at c2; omega) | (rw [if_neg (by omega)] at c2; omega)))
      · skip
        refine i_bipush G dX8_wants_35 (by decide) ?_
        refine i_goto (tgt := 42) G dX8_wants_37 (by decide) ?_
        refine i_iload_n G dX8_wants_42 rfl ?_
        refine j_callE (q0 := 0) (As := [vi (117), vi (b)]) (st := []) G K_X8_169 (m_hasOpen l hd hR hRy3 117 b (by first | assumption | omega) (by first | assumption | omega)) rfl rfl rfl (rm_ok (by decide) (by decide)) ⟨Nat.le_refl _, Nat.le_refl _⟩ (Nat.le_of_ble_eq_true rfl) dX8_wants_43 ?_
        have b43 : (askL z 117 b (z 3 0).toNat 0) = 0 ∨ (askL z 117 b (z 3 0).toNat 0) = 1 := askL_01 _ _ _ _ _
        refine i_if_ne (tgt := 53) G dX8_wants_46 (by decide) (by omega) (fun h46 => ?_) (fun h46 => ?_)
        · skip
          refine i_iconst G dX8_wants_53 ?_
          refine j_retz G hr (by omega) dX8_wants_54 ?_
          refine ⟨rfl, ?_⟩
          refine ⟨?_, hRy3, ho3⟩
          have er3d : r3 = dng z b := er3
          have hk : ktF z b = (if z 21 b = 0 then 99 else 117) := rfl
          unfold wnP wrI
          rw [hk]
          first | (refine Or.inl ⟨rfl, ?_, ?_⟩ <;> (repeat' split) <;> omega) | (refine Or.inr ⟨rfl, fun hc => ?_⟩; obtain ⟨c1, c2⟩ := hc; (repeat' split at c1) <;> (first | omega | (rw [if_pos (by omega)] at c2; omega) | (rw [if_neg (by omega)] at c2; omega)))
        · skip
          refine i_iconst G dX8_wants_49 ?_
          refine i_goto (tgt := 54) G dX8_wants_50 (by decide) ?_
          refine j_retz G hr (by omega) dX8_wants_54 ?_
          refine ⟨rfl, ?_⟩
          refine ⟨?_, hRy3, ho3⟩
          have er3d : r3 = dng z b := er3
          have hk : ktF z b = (if z 21 b = 0 then 99 else 117) := rfl
          unfold wnP wrI
          rw [hk]
          first | (refine Or.inl ⟨rfl, ?_, ?_⟩ <;> (repeat' split) <;> omega) | (refine Or.inr ⟨rfl, fun hc => ?_⟩; obtain ⟨c1, c2⟩ := hc; (repeat' split at c1) <;> (first | omega | (rw [if_pos (by omega)] at c2; omega) | (rw [if_neg (by omega)] at c2; omega)))
set_option maxHeartbeats 4000000 in
set_option maxRecDepth 100000 in
theorem m_plan (l : Launch) {D : va_G} {aC : Nat → ClassId} {ad : Nat → Nat} (hd : wDi ad shM) {z y : wZ} (hR : Rng z) (hY : Rng y)  (hF : WF z) : cMi l D aC ad shM yX8_plan cX8_plan 6 (.int) (rmL 5) [.ref (ad 40)] z y (fun r_ z2 y2 => r_ = (plL 30 z 0).1 ∧ z2 = (plL 30 z 0).2 ∧ WF z2 ∧ Rng z2 ∧ Rng y2 ∧ ∀ k', k' ≠ 70 → k' ≠ 71 → y2 k' = y k') := by
  refine c_i [some (.ref (ad 40)), none, none, none, none, none] (by decide +kernel) rfl (Nat.le_of_ble_eq_true rfl) rfl hd ?_
  intro p e s m args below meth c A G hr
  have q2 : 0 ≤ z 2 0 ∧ z 2 0 ≤ 30 := hR 2 0
  refine i_iconst G dX8_plan_0 ?_
  refine i_istore_n (L' := [some (.ref (ad 40)), some (vi (0)), none, none, none, none]) G dX8_plan_1 (by decide) rfl ?_
  refine i_forget (L' := [some (.ref (ad 40)), some (vi (0)), none, none, none, none]) ⟨rfl, ⟨rfl, trivial⟩⟩ ?_
  have lp2 : ∀ (n2 : Nat) (made : Int) (z2_ : wZ) (y2_ : wZ), Rng z2_ → Rng y2_ → (WF z2_) → (cwZ z2_ < n2) → (∀ k', k' ≠ 70 → k' ≠ 71 → y2_ k' = y k') → (plL (n2 - 1) z2_ made = plL 30 z 0) → JW p l e (rmL 5) s m args below meth c 6 D aC ad A shM (MQ below (cQi D aC ad shM (fun r_ z2 y2 => r_ = (plL 30 z 0).1 ∧ z2 = (plL 30 z 0).2 ∧ WF z2 ∧ Rng z2 ∧ Rng y2 ∧ ∀ k', k' ≠ 70 → k' ≠ 71 → y2 k' = y k') A) args s 0 0 A) 0 0 (zc z2_ y2_) 2 [some (.ref (ad 40)), some (vi (made)), none, none, none, none] [] := by
    intro n2
    induction n2 with
    | zero => 
      intro made z2_ y2_ hRz2_ hRy2_ hw hn ho hP
      exfalso; omega
    | succ n2 ih2 => 
      intro made z2_ y2_ hRz2_ hRy2_ hw hn ho hP
      have q2 : 0 ≤ z2_ 2 0 ∧ z2_ 2 0 ≤ 30 := hRz2_ 2 0
      rw [Nat.add_sub_cancel] at hP
      refine i_aload_n G dX8_plan_2 rfl ?_
      refine j_getz G F_X8_104 0 rfl rfl (by decide) dX8_plan_3 ?_
      have b3 : 0 ≤ z2_ 3 0 ∧ z2_ 3 0 ≤ 40 := hRz2_ 3 _
      refine i_bipush G dX8_plan_6 (by decide) ?_
      refine i_icmp_ge (tgt := 103) G dX8_plan_8 (by decide) (by omega) (by omega) (fun h8 => ?_) (fun h8 => ?_)
      · skip
        refine i_aload_n G dX8_plan_103 rfl ?_
        refine i_iload_n G dX8_plan_104 rfl ?_
        refine j_callYi (q0 := 0) (As := [vi (made)]) (st := []) G K_X8_114 (m_tells l hd hRz2_ hRy2_ made ) rfl rfl rfl (rm_ok (by decide) (by decide)) ⟨Nat.le_refl _, Nat.le_refl _⟩ (Nat.le_of_ble_eq_true rfl) dX8_plan_105 (fun r105 y105 q105 => ?_)
        obtain ⟨er105, ey105, hRy105⟩ := q105
        refine j_reti G hr dX8_plan_108 ?_
        have e : (made, z2_) = plL 30 z 0 := by rw [← hP]; exact (plL_stop made (by omega) _).symm
        exact ⟨by rw [← e]; exact er105, by rw [← e], hw, hRz2_, hRy105, fun k a b => by rw [ey105, zp_nk _ b] <;> first | exact ho k a b | exact (hoi k a).trans (ho k a b)⟩
      · skip
        refine i_iconst G dX8_plan_11 ?_
        refine i_istore_n (L' := [some (.ref (ad 40)), some (vi (made)), some (vi ((-1))), none, none, none]) G dX8_plan_12 (by decide) rfl ?_
        refine i_iconst G dX8_plan_13 ?_
        refine i_istore_n (L' := [some (.ref (ad 40)), some (vi (made)), some (vi ((-1))), some (vi ((-1))), none, none]) G dX8_plan_14 (by decide) rfl ?_
        refine i_iconst G dX8_plan_15 ?_
        refine i_istore (L' := [some (.ref (ad 40)), some (vi (made)), some (vi ((-1))), some (vi ((-1))), some (vi (0)), none]) G dX8_plan_16 (by decide) rfl ?_
        refine i_forget (L' := [some (.ref (ad 40)), some (vi (made)), some (vi ((-1))), some (vi ((-1))), some (vi (0)), none]) ⟨rfl, ⟨rfl, ⟨rfl, ⟨rfl, ⟨rfl, trivial⟩⟩⟩⟩⟩ ?_
        have lp18 : ∀ (n18 : Nat) (best most b : Int) (y18_ : wZ), Rng y18_ → (0 ≤ b) → (b + n18 = z2_ 2 0) → (-1 ≤ best ∧ best < b) → (-1 ≤ most ∧ most ≤ 1000) → (best = -1 ∨ most = dng z2_ best) → (best = -1 ∨ 0 ≤ most) → (∀ k', k' ≠ 70 → y18_ k' = y2_ k') → (ntL z2_ n18 b best most = ntF z2_) → JW p l e (rmL 5) s m args below meth c 6 D aC ad A shM (MQ below (cQi D aC ad shM (fun r_ z2 y2 => r_ = (plL 30 z 0).1 ∧ z2 = (plL 30 z 0).2 ∧ WF z2 ∧ Rng z2 ∧ Rng y2 ∧ ∀ k', k' ≠ 70 → k' ≠ 71 → y2 k' = y k') A) args s 0 0 A) 0 0 (zc z2_ y18_) 18 [some (.ref (ad 40)), some (vi (made)), some (vi (best)), some (vi (most)), some (vi (b)), none] [] := by
          intro n18
          induction n18 with
          | zero => 
            intro best most b y18_ hRy18_ hb hm hbe hmo hbm hb0 hoi hNt
            have hN : best = ntF z2_ := hNt
            refine i_iload G dX8_plan_18 rfl ?_
            refine i_aload_n G dX8_plan_20 rfl ?_
            refine j_getz G F_X8_101 0 rfl rfl (by decide) dX8_plan_21 ?_
            have b21 : 0 ≤ z2_ 2 0 ∧ z2_ 2 0 ≤ 30 := hRz2_ 2 _
            refine i_icmp_ge (tgt := 66) G dX8_plan_24 (by decide) (by omega) (by omega) (fun h24 => ?_) (fun h24 => ?_)
            · skip
              refine i_iload_n G dX8_plan_66 rfl ?_
              refine i_iconst G dX8_plan_67 ?_
              refine i_icmp_ne (tgt := 74) G dX8_plan_68 (by decide) (by omega) (by omega) (fun h68 => ?_) (fun h68 => ?_)
              · skip
                refine i_aload_n G dX8_plan_74 rfl ?_
                refine i_aload_n G dX8_plan_75 rfl ?_
                refine i_getr G F_X8_48 0 rfl rfl dX8_plan_76 ?_
                refine i_iload_n G dX8_plan_79 rfl ?_
                refine j_zald_z G 12 rfl (by decide) (by decide) (by omega) (by omega) dX8_plan_80 ?_
                have b80 : 0 ≤ z2_ 21 best ∧ z2_ 21 best ≤ 1 := hRz2_ 21 _
                refine i_if_eq (tgt := 89) G dX8_plan_81 (by decide) (by omega) (fun h81 => ?_) (fun h81 => ?_)
                · skip
                  refine i_bipush G dX8_plan_89 (by decide) ?_
                  skip
                  refine i_iload_n G dX8_plan_91 rfl ?_
                  refine i_iload_n G dX8_plan_92 rfl ?_
                  refine j_calli (q0 := 0) (As := [vi (99), vi (best), vi (most)]) (st := []) G K_X8_165 (m_adds l hd hRz2_ hRy18_ 99 best most (by first | assumption | omega) (by first | assumption | omega) (by first | assumption | omega) (by first | assumption | omega)) rfl rfl rfl (rm_ok (by decide) (by decide)) ⟨Nat.le_refl _, Nat.le_refl _⟩ (Nat.le_of_ble_eq_true rfl) dX8_plan_93 (fun r93 z93 y93 q93 => ?_)
                  obtain ⟨er93, ez93, ey93, hRz93, hRy93⟩ := q93
                  refine i_pop G rfl dX8_plan_96 ?_
                  refine i_iinc (L' := [some (.ref (ad 40)), some (vi (made + 1)), some (vi (best)), some (vi (most)), some (vi (b)), none]) G dX8_plan_97 (by decide) rfl rfl ?_
                  refine i_goto (tgt := 2) G dX8_plan_100 (by decide) ?_
                  refine i_forget (L' := [some (.ref (ad 40)), some (vi (made + 1)), none, none, none, none]) ⟨rfl, ⟨rfl, trivial⟩⟩ ?_
                  have en : ntF z2_ = best := hN.symm
                  have hc := cwZ_lt hRz2_ (by omega : ntF z2_ ≠ -1) (dng z2_ (ntF z2_))
                  have hkt : (99 : Int) = ktF z2_ (ntF z2_) := by rw [en]; unfold ktF; first | rw [if_pos (by omega)] | rw [if_neg (by omega)]
                  have ez : z93 = mkF z2_ (ktF z2_ (ntF z2_)) (ntF z2_) (dng z2_ (ntF z2_)) := by rw [ez93, ← hkt, en, hbm.resolve_left (by omega)]
                  have hkd : ktF z2_ (ntF z2_) = 99 ∨ ktF z2_ (ntF z2_) = 117 := by unfold ktF; split <;> omega
                  exact ih2 (made + 1) z93 y93 hRz93 hRy93 (by rw [ez]; exact WF_mk hw hRz2_ (by omega) (by omega) (by omega)) (by rw [ez]; omega) (fun k a b => by rw [ey93, zp_nk _ b]; exact (hoi k a).trans (ho k a b)) (by rw [← hP, ez, plL_go made (by omega) (by omega) (by omega)])
                · skip
                  refine i_bipush G dX8_plan_84 (by decide) ?_
                  skip
                  refine i_goto (tgt := 91) G dX8_plan_86 (by decide) ?_
                  skip
                  refine i_iload_n G dX8_plan_91 rfl ?_
                  refine i_iload_n G dX8_plan_92 rfl ?_
                  refine j_calli (q0 := 0) (As := [vi (117), vi (best), vi (most)]) (st := []) G K_X8_165 (m_adds l hd hRz2_ hRy18_ 117 best most (by first | assumption | omega) (by first | assumption | omega) (by first | assumption | omega) (by first | assumption | omega)) rfl rfl rfl (rm_ok (by decide) (by decide)) ⟨Nat.le_refl _, Nat.le_refl _⟩ (Nat.le_of_ble_eq_true rfl) dX8_plan_93 (fun r93 z93 y93 q93 => ?_)
                  obtain ⟨er93, ez93, ey93, hRz93, hRy93⟩ := q93
                  refine i_pop G rfl dX8_plan_96 ?_
                  refine i_iinc (L' := [some (.ref (ad 40)), some (vi (made + 1)), some (vi (best)), some (vi (most)), some (vi (b)), none]) G dX8_plan_97 (by decide) rfl rfl ?_
                  refine i_goto (tgt := 2) G dX8_plan_100 (by decide) ?_
                  refine i_forget (L' := [some (.ref (ad 40)), some (vi (made + 1)), none, none, none, none]) ⟨rfl, ⟨rfl, trivial⟩⟩ ?_
                  have en : ntF z2_ = best := hN.symm
                  have hc := cwZ_lt hRz2_ (by omega : ntF z2_ ≠ -1) (dng z2_ (ntF z2_))
                  have hkt : (117 : Int) = ktF z2_ (ntF z2_) := by rw [en]; unfold ktF; first | rw [if_pos (by omega)] | rw [if_neg (by omega)]
                  have ez : z93 = mkF z2_ (ktF z2_ (ntF z2_)) (ntF z2_) (dng z2_ (ntF z2_)) := by rw [ez93, ← hkt, en, hbm.resolve_left (by omega)]
                  have hkd : ktF z2_ (ntF z2_) = 99 ∨ ktF z2_ (ntF z2_) = 117 := by unfold ktF; split <;> omega
                  exact ih2 (made + 1) z93 y93 hRz93 hRy93 (by rw [ez]; exact WF_mk hw hRz2_ (by omega) (by omega) (by omega)) (by rw [ez]; omega) (fun k a b => by rw [ey93, zp_nk _ b]; exact (hoi k a).trans (ho k a b)) (by rw [← hP, ez, plL_go made (by omega) (by omega) (by omega)])
              · skip
                refine i_goto (tgt := 103) G dX8_plan_71 (by decide) ?_
                refine i_aload_n G dX8_plan_103 rfl ?_
                refine i_iload_n G dX8_plan_104 rfl ?_
                refine j_callYi (q0 := 0) (As := [vi (made)]) (st := []) G K_X8_114 (m_tells l hd hRz2_ hRy18_ made ) rfl rfl rfl (rm_ok (by decide) (by decide)) ⟨Nat.le_refl _, Nat.le_refl _⟩ (Nat.le_of_ble_eq_true rfl) dX8_plan_105 (fun r105 y105 q105 => ?_)
                obtain ⟨er105, ey105, hRy105⟩ := q105
                refine j_reti G hr dX8_plan_108 ?_
                have e : (made, z2_) = plL 30 z 0 := by rw [← hP]; exact (plL_stop made (by omega) _).symm
                exact ⟨by rw [← e]; exact er105, by rw [← e], hw, hRz2_, hRy105, fun k a b => by rw [ey105, zp_nk _ b] <;> first | exact ho k a b | exact (hoi k a).trans (ho k a b)⟩
            · skip
              exfalso; omega
          | succ n18 ih18 => 
            intro best most b y18_ hRy18_ hb hm hbe hmo hbm hb0 hoi hNt
            refine i_iload G dX8_plan_18 rfl ?_
            refine i_aload_n G dX8_plan_20 rfl ?_
            refine j_getz G F_X8_101 0 rfl rfl (by decide) dX8_plan_21 ?_
            have b21 : 0 ≤ z2_ 2 0 ∧ z2_ 2 0 ≤ 30 := hRz2_ 2 _
            refine i_icmp_ge (tgt := 66) G dX8_plan_24 (by decide) (by omega) (by omega) (fun h24 => ?_) (fun h24 => ?_)
            · skip
              exfalso; omega
            · skip
              refine i_aload_n G dX8_plan_27 rfl ?_
              refine i_iload G dX8_plan_28 rfl ?_
              refine i_iconst G dX8_plan_30 ?_
              refine j_callYi (q0 := 0) (As := [vi (b), vi (0)]) (st := []) G K_X8_161 (m_dangerOf_0 l hd hRz2_ hRy18_ b (by first | assumption | omega) (by first | assumption | omega)) rfl rfl rfl (rm_ok (by decide) (by decide)) ⟨Nat.le_refl _, Nat.le_refl _⟩ (Nat.le_of_ble_eq_true rfl) dX8_plan_31 (fun r31 y31 q31 => ?_)
              obtain ⟨er31, br31, hRy31, ho31⟩ := q31
              refine i_istore (L' := [some (.ref (ad 40)), some (vi (made)), some (vi (best)), some (vi (most)), some (vi (b)), some (vi (r31))]) G dX8_plan_34 (by decide) rfl ?_
              refine i_iload G dX8_plan_36 rfl ?_
              refine i_iload_n G dX8_plan_38 rfl ?_
              refine i_icmp_le (tgt := 60) G dX8_plan_39 (by decide) (by omega) (by omega) (fun h39 => ?_) (fun h39 => ?_)
              · skip
                refine i_iinc (L' := [some (.ref (ad 40)), some (vi (made)), some (vi (best)), some (vi (most)), some (vi (b + 1)), some (vi (r31))]) G dX8_plan_60 (by decide) rfl rfl ?_
                refine i_goto (tgt := 18) G dX8_plan_63 (by decide) ?_
                refine i_forget (L' := [some (.ref (ad 40)), some (vi (made)), some (vi (best)), some (vi (most)), some (vi (b + 1)), none]) ⟨rfl, ⟨rfl, ⟨rfl, ⟨rfl, ⟨rfl, trivial⟩⟩⟩⟩⟩ ?_
                have er31d : r31 = dng z2_ b := er31
                exact ih18 _ _ (b + 1) y31 hRy31 (by omega) (by omega) (by omega) (by omega) hbm hb0 (fun k a => by first | exact (ho45 k a).trans ((ho31 k a).trans (hoi k a)) | exact (ho31 k a).trans (hoi k a)) (by
                  rw [← hNt, ntL, if_neg]
                  intro hc
                  have c2 := hc.2.1
                  have c3 : wnP z2_ b := ⟨hc.1, hc.2.2⟩
                  first | omega | (rcases br45 with ⟨h9, _⟩ | ⟨_, h9⟩ <;> first | omega | exact h9 c3))
              · skip
                refine i_aload_n G dX8_plan_42 rfl ?_
                refine i_iload G dX8_plan_43 rfl ?_
                refine j_callYi (q0 := 0) (As := [vi (b)]) (st := []) G K_X8_173 (m_wants l hd hRz2_ hRy31 b (by first | assumption | omega) (by first | assumption | omega)) rfl rfl rfl (rm_ok (by decide) (by decide)) ⟨Nat.le_refl _, Nat.le_refl _⟩ (Nat.le_of_ble_eq_true rfl) dX8_plan_45 (fun r45 y45 q45 => ?_)
                obtain ⟨br45, hRy45, ho45⟩ := q45
                refine i_if_ne (tgt := 54) G dX8_plan_48 (by decide) (by omega) (fun h48 => ?_) (fun h48 => ?_)
                · skip
                  refine i_iload G dX8_plan_54 rfl ?_
                  refine i_istore_n (L' := [some (.ref (ad 40)), some (vi (made)), some (vi (best)), some (vi (r31)), some (vi (b)), some (vi (r31))]) G dX8_plan_56 (by decide) rfl ?_
                  refine i_iload G dX8_plan_57 rfl ?_
                  refine i_istore_n (L' := [some (.ref (ad 40)), some (vi (made)), some (vi (b)), some (vi (r31)), some (vi (b)), some (vi (r31))]) G dX8_plan_59 (by decide) rfl ?_
                  refine i_iinc (L' := [some (.ref (ad 40)), some (vi (made)), some (vi (b)), some (vi (r31)), some (vi (b + 1)), some (vi (r31))]) G dX8_plan_60 (by decide) rfl rfl ?_
                  refine i_goto (tgt := 18) G dX8_plan_63 (by decide) ?_
                  refine i_forget (L' := [some (.ref (ad 40)), some (vi (made)), some (vi (b)), some (vi (r31)), some (vi (b + 1)), none]) ⟨rfl, ⟨rfl, ⟨rfl, ⟨rfl, ⟨rfl, trivial⟩⟩⟩⟩⟩ ?_
                  have er31d : r31 = dng z2_ b := er31
                  exact ih18 _ _ (b + 1) y45 hRy45 (by omega) (by omega) (by omega) (by omega) (Or.inr er31d) (Or.inr (by omega)) (fun k a => (ho45 k a).trans ((ho31 k a).trans (hoi k a))) (by
                    have hq : wnP z2_ b := by rcases br45 with ⟨_, h9⟩ | ⟨h9, _⟩ <;> first | exact h9 | omega
                    rw [← hNt, ntL, if_pos ⟨hq.1, by omega, hq.2⟩, er31d])
                · skip
                  refine i_goto (tgt := 60) G dX8_plan_51 (by decide) ?_
                  refine i_iinc (L' := [some (.ref (ad 40)), some (vi (made)), some (vi (best)), some (vi (most)), some (vi (b + 1)), some (vi (r31))]) G dX8_plan_60 (by decide) rfl rfl ?_
                  refine i_goto (tgt := 18) G dX8_plan_63 (by decide) ?_
                  refine i_forget (L' := [some (.ref (ad 40)), some (vi (made)), some (vi (best)), some (vi (most)), some (vi (b + 1)), none]) ⟨rfl, ⟨rfl, ⟨rfl, ⟨rfl, ⟨rfl, trivial⟩⟩⟩⟩⟩ ?_
                  have er31d : r31 = dng z2_ b := er31
                  exact ih18 _ _ (b + 1) y45 hRy45 (by omega) (by omega) (by omega) (by omega) hbm hb0 (fun k a => by first | exact (ho45 k a).trans ((ho31 k a).trans (hoi k a)) | exact (ho31 k a).trans (hoi k a)) (by
                    rw [← hNt, ntL, if_neg]
                    intro hc
                    have c2 := hc.2.1
                    have c3 : wnP z2_ b := ⟨hc.1, hc.2.2⟩
                    first | omega | (rcases br45 with ⟨h9, _⟩ | ⟨_, h9⟩ <;> first | omega | exact h9 c3))
        exact lp18 (z2_ 2 0).toNat (-1) (-1) 0 y2_ hRy2_ (by omega) (by omega) (by omega) (by omega) (Or.inl rfl) (Or.inl rfl) (fun _ _ => rfl) rfl
  exact lp2 31 0 z y hR hY hF (by have := cwL_in z (z 2 0).toNat; unfold cwZ; omega) (fun _ _ _ => rfl) rfl
