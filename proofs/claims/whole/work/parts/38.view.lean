def sh_View1 : wSh := [(7, .inl (7, [.inl 8, .inl 9])), (8, .inr (1, 24, 15)), (9, .inr (0, 256, 64))]
set_option maxHeartbeats 4000000 in
set_option maxRecDepth 100000 in
theorem v_forgetWays_1 (l : Launch) {D : va_G} {aC : Nat → ClassId} {ad : Nat → Nat} (hd : wDi ad sh_View1) {z y : wZ} (hR : Rng z) (hY : Rng y)   : cYv l D aC ad sh_View1 yX5_forgetWays cX5_forgetWays 3 (rmL 0) [.ref (ad 7)] z y (fun y' => Rng y' ∧ (∀ k', k' ≠ 64 → y' k' = y k') ∧ ∀ a b, 0 ≤ a → a < 16 → 0 ≤ b → b < 16 → y' 64 (a * 16 + b) = if a = b then 0 else 1000000) := by
  refine c_v [some (.ref (ad 7)), none, none] (by decide +kernel) rfl (Nat.le_of_ble_eq_true rfl) rfl hd ?_
  intro p e s m args below meth c A G hr
  refine i_iconst G dX5_forgetWays_0 ?_
  refine i_istore_n (L' := [some (.ref (ad 7)), some (vi (0)), none]) G dX5_forgetWays_1 (by decide) rfl ?_
  refine i_forget (L' := [some (.ref (ad 7)), some (vi (0)), none]) ⟨rfl, ⟨rfl, trivial⟩⟩ ?_
  have lp2 : ∀ (n2 : Nat) (i : Int) (y2_ : wZ), Rng y2_ → (0 ≤ i) → (i + n2 = 16) → (∀ k', k' ≠ 64 → y2_ k' = y k') → (∀ a b, 0 ≤ a → a < i → 0 ≤ b → b < 16 → y2_ 64 (a * 16 + b) = if a = b then 0 else 1000000) → JW p l e (rmL 0) s m args below meth c 3 D aC ad A sh_View1 (MQ below (cQv D aC ad sh_View1 (fun z_ y_ => z_ = z ∧ (fun y' => Rng y' ∧ (∀ k', k' ≠ 64 → y' k' = y k') ∧ ∀ a b, 0 ≤ a → a < 16 → 0 ≤ b → b < 16 → y' 64 (a * 16 + b) = if a = b then 0 else 1000000) y_) A) args s 0 0 A) 0 0 (zc z y2_) 2 [some (.ref (ad 7)), some (vi (i)), none] [] := by
    intro n2
    induction n2 with
    | zero => 
      intro i y2_ hRy2_ hi hn ho hp
      refine i_iload_n G dX5_forgetWays_2 rfl ?_
      refine i_bipush G dX5_forgetWays_3 (by decide) ?_
      refine i_icmp_ge (tgt := 50) G dX5_forgetWays_5 (by decide) (by omega) (by omega) (fun h5 => ?_) (fun h5 => ?_)
      · skip
        refine j_retv G hr dX5_forgetWays_50 ?_
        exact ⟨rfl, hRy2_, ho, fun a b h1 h2 h3 h4 => hp a b h1 (by omega) h3 h4⟩
      · skip
        exfalso; omega
    | succ n2 ih2 => 
      intro i y2_ hRy2_ hi hn ho hp
      refine i_iload_n G dX5_forgetWays_2 rfl ?_
      refine i_bipush G dX5_forgetWays_3 (by decide) ?_
      refine i_icmp_ge (tgt := 50) G dX5_forgetWays_5 (by decide) (by omega) (by omega) (fun h5 => ?_) (fun h5 => ?_)
      · skip
        exfalso; omega
      · skip
        refine i_iconst G dX5_forgetWays_8 ?_
        refine i_istore_n (L' := [some (.ref (ad 7)), some (vi (i)), some (vi (0))]) G dX5_forgetWays_9 (by decide) rfl ?_
        have lp10 : ∀ (n10 : Nat) (j : Int) (y10_ : wZ), Rng y10_ → (0 ≤ j) → (j + n10 = 16) → (∀ k', k' ≠ 64 → y10_ k' = y k') → (∀ a b, 0 ≤ a → 0 ≤ b → b < 16 → (a < i ∨ (a = i ∧ b < j)) → y10_ 64 (a * 16 + b) = if a = b then 0 else 1000000) → JW p l e (rmL 0) s m args below meth c 3 D aC ad A sh_View1 (MQ below (cQv D aC ad sh_View1 (fun z_ y_ => z_ = z ∧ (fun y' => Rng y' ∧ (∀ k', k' ≠ 64 → y' k' = y k') ∧ ∀ a b, 0 ≤ a → a < 16 → 0 ≤ b → b < 16 → y' 64 (a * 16 + b) = if a = b then 0 else 1000000) y_) A) args s 0 0 A) 0 0 (zc z y10_) 10 [some (.ref (ad 7)), some (vi (i)), some (vi (j))] [] := by
          intro n10
          induction n10 with
          | zero => 
            intro j y10_ hRy10_ hj hm ho' hp'
            refine i_iload_n G dX5_forgetWays_10 rfl ?_
            refine i_bipush G dX5_forgetWays_11 (by decide) ?_
            refine i_icmp_ge (tgt := 44) G dX5_forgetWays_13 (by decide) (by omega) (by omega) (fun h13 => ?_) (fun h13 => ?_)
            · skip
              refine i_iinc (L' := [some (.ref (ad 7)), some (vi (i + 1)), some (vi (j))]) G dX5_forgetWays_44 (by decide) rfl rfl ?_
              refine i_goto (tgt := 2) G dX5_forgetWays_47 (by decide) ?_
              refine i_forget (L' := [some (.ref (ad 7)), some (vi (i + 1)), none]) ⟨rfl, ⟨rfl, trivial⟩⟩ ?_
              exact ih2 (i + 1) y10_ hRy10_ (by omega) (by omega) ho' (fun a b h1 h2 h3 h4 => hp' a b h1 h3 h4 (by omega))
            · skip
              exfalso; omega
          | succ n10 ih10 => 
            intro j y10_ hRy10_ hj hm ho' hp'
            refine i_iload_n G dX5_forgetWays_10 rfl ?_
            refine i_bipush G dX5_forgetWays_11 (by decide) ?_
            refine i_icmp_ge (tgt := 44) G dX5_forgetWays_13 (by decide) (by omega) (by omega) (fun h13 => ?_) (fun h13 => ?_)
            · skip
              exfalso; omega
            · skip
              refine i_aload_n G dX5_forgetWays_16 rfl ?_
              refine i_getr G F_X5_15 0 rfl rfl dX5_forgetWays_17 ?_
              refine i_iload_n G dX5_forgetWays_20 rfl ?_
              refine i_bipush G dX5_forgetWays_21 (by decide) ?_
              refine i_imul G dX5_forgetWays_23 ?_
              refine i_iload_n G dX5_forgetWays_24 rfl ?_
              refine i_iadd G dX5_forgetWays_25 ?_
              refine i_iload_n G dX5_forgetWays_26 rfl ?_
              refine i_iload_n G dX5_forgetWays_27 rfl ?_
              refine i_icmp_ne (tgt := 35) G dX5_forgetWays_28 (by decide) (by omega) (by omega) (fun h28 => ?_) (fun h28 => ?_)
              · skip
                refine i_ldc G 1000000 kc_X5_22 dX5_forgetWays_35 ?_
                refine j_iast_y G 2 rfl (by decide) (by decide) (by omega) (by omega) (by decide) hRy10_ (by show (0 : Int) ≤ _ ∧ _ ≤ (1000000 : Int); omega) dX5_forgetWays_37 (fun y37 ey37 hRy37 => ?_)
                refine i_iinc (L' := [some (.ref (ad 7)), some (vi (i)), some (vi (j + 1))]) G dX5_forgetWays_38 (by decide) rfl rfl ?_
                refine i_goto (tgt := 10) G dX5_forgetWays_41 (by decide) ?_
                exact ih10 (j + 1) y37 hRy37 (by omega) (by omega) (fun k' hk => by rw [ey37, zp_nk _ hk]; exact ho' k' hk) (fun a b h1 h2 h3 h4 => by
                  rw [ey37]
                  by_cases hx : a = i ∧ b = j
                  · obtain ⟨rfl, rfl⟩ := hx
                    rw [zp_same]
                    first | rw [if_pos (by omega)] | rw [if_neg (by omega)]
                  · rw [zp_ne _ (by omega)]; exact hp' a b h1 h2 h3 (by omega))
              · skip
                refine i_iconst G dX5_forgetWays_31 ?_
                refine i_goto (tgt := 37) G dX5_forgetWays_32 (by decide) ?_
                refine j_iast_y G 2 rfl (by decide) (by decide) (by omega) (by omega) (by decide) hRy10_ (by show (0 : Int) ≤ _ ∧ _ ≤ (1000000 : Int); omega) dX5_forgetWays_37 (fun y37 ey37 hRy37 => ?_)
                refine i_iinc (L' := [some (.ref (ad 7)), some (vi (i)), some (vi (j + 1))]) G dX5_forgetWays_38 (by decide) rfl rfl ?_
                refine i_goto (tgt := 10) G dX5_forgetWays_41 (by decide) ?_
                exact ih10 (j + 1) y37 hRy37 (by omega) (by omega) (fun k' hk => by rw [ey37, zp_nk _ hk]; exact ho' k' hk) (fun a b h1 h2 h3 h4 => by
                  rw [ey37]
                  by_cases hx : a = i ∧ b = j
                  · obtain ⟨rfl, rfl⟩ := hx
                    rw [zp_same]
                    first | rw [if_pos (by omega)] | rw [if_neg (by omega)]
                  · rw [zp_ne _ (by omega)]; exact hp' a b h1 h2 h3 (by omega))
        exact lp10 16 0 y2_ hRy2_ (by omega) (by omega) ho (fun a b h1 h2 h3 h4 => hp a b h1 (by omega) h2 h3)
  exact lp2 16 0 y hY (by omega) (by omega) (fun _ _ => rfl) (fun a b h1 h2 => by omega)
def pzV1 (z' : wZ) : Prop := (∀ k, k < 64 → z' k = zZ k) ∧ Rng z' ∧ ∀ a b, 0 ≤ a → a < 16 → 0 ≤ b → b < 16 → z' 64 (a * 16 + b) = if a = b then 0 else 1000000
set_option maxHeartbeats 4000000 in
set_option maxRecDepth 100000 in
theorem k_View1 (l : Launch) {D : va_G} {aC : Nat → ClassId} : kM2 l D aC yX5_init cX5_init 1 (rmX 2 2 280) 7 [.null, .null] 7 sh_View1 pzV1 2 280 := by
  refine k_of2 (by decide +kernel) (by decide) ?_
  intro p e s m args below meth c b A G hr hnm
  refine l_aload_n G dX5_init_0 rfl ?_
  refine l_obj G ml_X5_3 dX5_init_1 im_objectInit co_objectInit ⟨Nat.le_of_ble_eq_true rfl, Nat.le_of_ble_eq_true rfl⟩ ?_
  refine l_aload_n G dX5_init_4 rfl ?_
  refine l_bipush G dX5_init_5 (by decide) ?_
  refine l_newarr G (ty := .boolean) (t0 := 1) (N := 24) rfl ac_boolean rfl ra_boolean rfl (by decide) rfl (by decide) (Nat.le_of_ble_eq_true rfl) (Nat.le_of_ble_eq_true rfl) dX5_init_7 (fun q7 => ?_)
  refine l_put G hnm (ty0 := tyX5) F_X5_9 tyX5_ok nmX5 rfl 0 rfl rfl rfl (Nat.le_of_ble_eq_true rfl) dX5_init_9 (ws' := [(b, .inr (7, [.ref q7, .null])), (q7, .inl (aC 1, (24, .inl (fun _ => (0 : Int32)))))]) rfl ?_
  refine l_aload_n G dX5_init_12 rfl ?_
  refine l_sipush G dX5_init_13 (by decide) ?_
  refine l_newarr G (ty := .int) (t0 := 0) (N := 256) rfl ac_int rfl ra_int rfl (by decide) rfl (by decide) (Nat.le_of_ble_eq_true rfl) (Nat.le_of_ble_eq_true rfl) dX5_init_16 (fun q16 => ?_)
  refine l_put G hnm (ty0 := tyX5) F_X5_15 tyX5_ok nmX5 rfl 0 rfl rfl rfl (Nat.le_of_ble_eq_true rfl) dX5_init_18 (ws' := [(b, .inr (7, [.ref q7, .ref q16])), (q7, .inl (aC 1, (24, .inl (fun _ => (0 : Int32))))), (q16, .inl (aC 0, (256, .inl (fun _ => (0 : Int32)))))]) rfl ?_
  refine l_jw G (sh := sh_View1) (z := zc zZ zZ) (fun n => if n = 7 then b else if n = 8 then q7 else if n = 9 then q16 else 0) rfl (fun G => ?_)
  obtain ⟨ad, ead⟩ : ∃ f : Nat → Nat, f = (fun n => if n = 7 then b else if n = 8 then q7 else if n = 9 then q16 else 0) := ⟨_, rfl⟩
  have hb : ad 7 = b := by rw [ead]; rfl
  rw [← ead] at G ⊢
  rw [← hb]
  have hd := G.2.2.2.2.2.2.1
  refine i_aload_n G dX5_init_21 rfl ?_
  refine j_callYv (q0 := 0) (As := []) (st := []) G K_X5_19 (v_forgetWays_1 l hd zZ_R zZ_R  ) rfl rfl rfl (rm_okX (by decide) (by decide)) ⟨Nat.le_of_ble_eq_true rfl, Nat.le_of_ble_eq_true rfl⟩ (Nat.le_of_ble_eq_true rfl) dX5_init_22 (fun y22 q22 => ?_)
  obtain ⟨hRy22, ho22, hp22⟩ := q22
  exact j_kret2 G hr rfl ⟨fun k hk => by rw [zc_z hk], fun k a => by have h9 := hRy22 k a; unfold zc; split <;> first | exact zZ_R k a | exact h9, fun a b h1 h2 h3 h4 => by rw [zc_y (by decide)]; exact hp22 a b h1 h2 h3 h4⟩ ⟨Nat.le_of_ble_eq_true rfl, Nat.le_of_ble_eq_true rfl⟩ dX5_init_25
def sh_View0 : wSh := [(10, .inl (7, [.inl 11, .inl 12])), (11, .inr (1, 24, 16)), (12, .inr (0, 256, 65))]
set_option maxHeartbeats 4000000 in
set_option maxRecDepth 100000 in
theorem v_forgetWays_0 (l : Launch) {D : va_G} {aC : Nat → ClassId} {ad : Nat → Nat} (hd : wDi ad sh_View0) {z y : wZ} (hR : Rng z) (hY : Rng y)   : cYv l D aC ad sh_View0 yX5_forgetWays cX5_forgetWays 3 (rmL 0) [.ref (ad 10)] z y (fun y' => Rng y' ∧ (∀ k', k' ≠ 65 → y' k' = y k') ∧ ∀ a b, 0 ≤ a → a < 16 → 0 ≤ b → b < 16 → y' 65 (a * 16 + b) = if a = b then 0 else 1000000) := by
  refine c_v [some (.ref (ad 10)), none, none] (by decide +kernel) rfl (Nat.le_of_ble_eq_true rfl) rfl hd ?_
  intro p e s m args below meth c A G hr
  refine i_iconst G dX5_forgetWays_0 ?_
  refine i_istore_n (L' := [some (.ref (ad 10)), some (vi (0)), none]) G dX5_forgetWays_1 (by decide) rfl ?_
  refine i_forget (L' := [some (.ref (ad 10)), some (vi (0)), none]) ⟨rfl, ⟨rfl, trivial⟩⟩ ?_
  have lp2 : ∀ (n2 : Nat) (i : Int) (y2_ : wZ), Rng y2_ → (0 ≤ i) → (i + n2 = 16) → (∀ k', k' ≠ 65 → y2_ k' = y k') → (∀ a b, 0 ≤ a → a < i → 0 ≤ b → b < 16 → y2_ 65 (a * 16 + b) = if a = b then 0 else 1000000) → JW p l e (rmL 0) s m args below meth c 3 D aC ad A sh_View0 (MQ below (cQv D aC ad sh_View0 (fun z_ y_ => z_ = z ∧ (fun y' => Rng y' ∧ (∀ k', k' ≠ 65 → y' k' = y k') ∧ ∀ a b, 0 ≤ a → a < 16 → 0 ≤ b → b < 16 → y' 65 (a * 16 + b) = if a = b then 0 else 1000000) y_) A) args s 0 0 A) 0 0 (zc z y2_) 2 [some (.ref (ad 10)), some (vi (i)), none] [] := by
    intro n2
    induction n2 with
    | zero => 
      intro i y2_ hRy2_ hi hn ho hp
      refine i_iload_n G dX5_forgetWays_2 rfl ?_
      refine i_bipush G dX5_forgetWays_3 (by decide) ?_
      refine i_icmp_ge (tgt := 50) G dX5_forgetWays_5 (by decide) (by omega) (by omega) (fun h5 => ?_) (fun h5 => ?_)
      · skip
        refine j_retv G hr dX5_forgetWays_50 ?_
        exact ⟨rfl, hRy2_, ho, fun a b h1 h2 h3 h4 => hp a b h1 (by omega) h3 h4⟩
      · skip
        exfalso; omega
    | succ n2 ih2 => 
      intro i y2_ hRy2_ hi hn ho hp
      refine i_iload_n G dX5_forgetWays_2 rfl ?_
      refine i_bipush G dX5_forgetWays_3 (by decide) ?_
      refine i_icmp_ge (tgt := 50) G dX5_forgetWays_5 (by decide) (by omega) (by omega) (fun h5 => ?_) (fun h5 => ?_)
      · skip
        exfalso; omega
      · skip
        refine i_iconst G dX5_forgetWays_8 ?_
        refine i_istore_n (L' := [some (.ref (ad 10)), some (vi (i)), some (vi (0))]) G dX5_forgetWays_9 (by decide) rfl ?_
        have lp10 : ∀ (n10 : Nat) (j : Int) (y10_ : wZ), Rng y10_ → (0 ≤ j) → (j + n10 = 16) → (∀ k', k' ≠ 65 → y10_ k' = y k') → (∀ a b, 0 ≤ a → 0 ≤ b → b < 16 → (a < i ∨ (a = i ∧ b < j)) → y10_ 65 (a * 16 + b) = if a = b then 0 else 1000000) → JW p l e (rmL 0) s m args below meth c 3 D aC ad A sh_View0 (MQ below (cQv D aC ad sh_View0 (fun z_ y_ => z_ = z ∧ (fun y' => Rng y' ∧ (∀ k', k' ≠ 65 → y' k' = y k') ∧ ∀ a b, 0 ≤ a → a < 16 → 0 ≤ b → b < 16 → y' 65 (a * 16 + b) = if a = b then 0 else 1000000) y_) A) args s 0 0 A) 0 0 (zc z y10_) 10 [some (.ref (ad 10)), some (vi (i)), some (vi (j))] [] := by
          intro n10
          induction n10 with
          | zero => 
            intro j y10_ hRy10_ hj hm ho' hp'
            refine i_iload_n G dX5_forgetWays_10 rfl ?_
            refine i_bipush G dX5_forgetWays_11 (by decide) ?_
            refine i_icmp_ge (tgt := 44) G dX5_forgetWays_13 (by decide) (by omega) (by omega) (fun h13 => ?_) (fun h13 => ?_)
            · skip
              refine i_iinc (L' := [some (.ref (ad 10)), some (vi (i + 1)), some (vi (j))]) G dX5_forgetWays_44 (by decide) rfl rfl ?_
              refine i_goto (tgt := 2) G dX5_forgetWays_47 (by decide) ?_
              refine i_forget (L' := [some (.ref (ad 10)), some (vi (i + 1)), none]) ⟨rfl, ⟨rfl, trivial⟩⟩ ?_
              exact ih2 (i + 1) y10_ hRy10_ (by omega) (by omega) ho' (fun a b h1 h2 h3 h4 => hp' a b h1 h3 h4 (by omega))
            · skip
              exfalso; omega
          | succ n10 ih10 => 
            intro j y10_ hRy10_ hj hm ho' hp'
            refine i_iload_n G dX5_forgetWays_10 rfl ?_
            refine i_bipush G dX5_forgetWays_11 (by decide) ?_
            refine i_icmp_ge (tgt := 44) G dX5_forgetWays_13 (by decide) (by omega) (by omega) (fun h13 => ?_) (fun h13 => ?_)
            · skip
              exfalso; omega
            · skip
              refine i_aload_n G dX5_forgetWays_16 rfl ?_
              refine i_getr G F_X5_15 0 rfl rfl dX5_forgetWays_17 ?_
              refine i_iload_n G dX5_forgetWays_20 rfl ?_
              refine i_bipush G dX5_forgetWays_21 (by decide) ?_
              refine i_imul G dX5_forgetWays_23 ?_
              refine i_iload_n G dX5_forgetWays_24 rfl ?_
              refine i_iadd G dX5_forgetWays_25 ?_
              refine i_iload_n G dX5_forgetWays_26 rfl ?_
              refine i_iload_n G dX5_forgetWays_27 rfl ?_
              refine i_icmp_ne (tgt := 35) G dX5_forgetWays_28 (by decide) (by omega) (by omega) (fun h28 => ?_) (fun h28 => ?_)
              · skip
                refine i_ldc G 1000000 kc_X5_22 dX5_forgetWays_35 ?_
                refine j_iast_y G 2 rfl (by decide) (by decide) (by omega) (by omega) (by decide) hRy10_ (by show (0 : Int) ≤ _ ∧ _ ≤ (1000000 : Int); omega) dX5_forgetWays_37 (fun y37 ey37 hRy37 => ?_)
                refine i_iinc (L' := [some (.ref (ad 10)), some (vi (i)), some (vi (j + 1))]) G dX5_forgetWays_38 (by decide) rfl rfl ?_
                refine i_goto (tgt := 10) G dX5_forgetWays_41 (by decide) ?_
                exact ih10 (j + 1) y37 hRy37 (by omega) (by omega) (fun k' hk => by rw [ey37, zp_nk _ hk]; exact ho' k' hk) (fun a b h1 h2 h3 h4 => by
                  rw [ey37]
                  by_cases hx : a = i ∧ b = j
                  · obtain ⟨rfl, rfl⟩ := hx
                    rw [zp_same]
                    first | rw [if_pos (by omega)] | rw [if_neg (by omega)]
                  · rw [zp_ne _ (by omega)]; exact hp' a b h1 h2 h3 (by omega))
              · skip
                refine i_iconst G dX5_forgetWays_31 ?_
                refine i_goto (tgt := 37) G dX5_forgetWays_32 (by decide) ?_
                refine j_iast_y G 2 rfl (by decide) (by decide) (by omega) (by omega) (by decide) hRy10_ (by show (0 : Int) ≤ _ ∧ _ ≤ (1000000 : Int); omega) dX5_forgetWays_37 (fun y37 ey37 hRy37 => ?_)
                refine i_iinc (L' := [some (.ref (ad 10)), some (vi (i)), some (vi (j + 1))]) G dX5_forgetWays_38 (by decide) rfl rfl ?_
                refine i_goto (tgt := 10) G dX5_forgetWays_41 (by decide) ?_
                exact ih10 (j + 1) y37 hRy37 (by omega) (by omega) (fun k' hk => by rw [ey37, zp_nk _ hk]; exact ho' k' hk) (fun a b h1 h2 h3 h4 => by
                  rw [ey37]
                  by_cases hx : a = i ∧ b = j
                  · obtain ⟨rfl, rfl⟩ := hx
                    rw [zp_same]
                    first | rw [if_pos (by omega)] | rw [if_neg (by omega)]
                  · rw [zp_ne _ (by omega)]; exact hp' a b h1 h2 h3 (by omega))
        exact lp10 16 0 y2_ hRy2_ (by omega) (by omega) ho (fun a b h1 h2 h3 h4 => hp a b h1 (by omega) h2 h3)
  exact lp2 16 0 y hY (by omega) (by omega) (fun _ _ => rfl) (fun a b h1 h2 => by omega)
def pzV0 (z' : wZ) : Prop := (∀ k, k < 64 → z' k = zZ k) ∧ Rng z' ∧ ∀ a b, 0 ≤ a → a < 16 → 0 ≤ b → b < 16 → z' 65 (a * 16 + b) = if a = b then 0 else 1000000
set_option maxHeartbeats 4000000 in
set_option maxRecDepth 100000 in
theorem k_View0 (l : Launch) {D : va_G} {aC : Nat → ClassId} : kM2 l D aC yX5_init cX5_init 1 (rmX 2 2 280) 7 [.null, .null] 10 sh_View0 pzV0 2 280 := by
  refine k_of2 (by decide +kernel) (by decide) ?_
  intro p e s m args below meth c b A G hr hnm
  refine l_aload_n G dX5_init_0 rfl ?_
  refine l_obj G ml_X5_3 dX5_init_1 im_objectInit co_objectInit ⟨Nat.le_of_ble_eq_true rfl, Nat.le_of_ble_eq_true rfl⟩ ?_
  refine l_aload_n G dX5_init_4 rfl ?_
  refine l_bipush G dX5_init_5 (by decide) ?_
  refine l_newarr G (ty := .boolean) (t0 := 1) (N := 24) rfl ac_boolean rfl ra_boolean rfl (by decide) rfl (by decide) (Nat.le_of_ble_eq_true rfl) (Nat.le_of_ble_eq_true rfl) dX5_init_7 (fun q7 => ?_)
  refine l_put G hnm (ty0 := tyX5) F_X5_9 tyX5_ok nmX5 rfl 0 rfl rfl rfl (Nat.le_of_ble_eq_true rfl) dX5_init_9 (ws' := [(b, .inr (7, [.ref q7, .null])), (q7, .inl (aC 1, (24, .inl (fun _ => (0 : Int32)))))]) rfl ?_
  refine l_aload_n G dX5_init_12 rfl ?_
  refine l_sipush G dX5_init_13 (by decide) ?_
  refine l_newarr G (ty := .int) (t0 := 0) (N := 256) rfl ac_int rfl ra_int rfl (by decide) rfl (by decide) (Nat.le_of_ble_eq_true rfl) (Nat.le_of_ble_eq_true rfl) dX5_init_16 (fun q16 => ?_)
  refine l_put G hnm (ty0 := tyX5) F_X5_15 tyX5_ok nmX5 rfl 0 rfl rfl rfl (Nat.le_of_ble_eq_true rfl) dX5_init_18 (ws' := [(b, .inr (7, [.ref q7, .ref q16])), (q7, .inl (aC 1, (24, .inl (fun _ => (0 : Int32))))), (q16, .inl (aC 0, (256, .inl (fun _ => (0 : Int32)))))]) rfl ?_
  refine l_jw G (sh := sh_View0) (z := zc zZ zZ) (fun n => if n = 10 then b else if n = 11 then q7 else if n = 12 then q16 else 0) rfl (fun G => ?_)
  obtain ⟨ad, ead⟩ : ∃ f : Nat → Nat, f = (fun n => if n = 10 then b else if n = 11 then q7 else if n = 12 then q16 else 0) := ⟨_, rfl⟩
  have hb : ad 10 = b := by rw [ead]; rfl
  rw [← ead] at G ⊢
  rw [← hb]
  have hd := G.2.2.2.2.2.2.1
  refine i_aload_n G dX5_init_21 rfl ?_
  refine j_callYv (q0 := 0) (As := []) (st := []) G K_X5_19 (v_forgetWays_0 l hd zZ_R zZ_R  ) rfl rfl rfl (rm_okX (by decide) (by decide)) ⟨Nat.le_of_ble_eq_true rfl, Nat.le_of_ble_eq_true rfl⟩ (Nat.le_of_ble_eq_true rfl) dX5_init_22 (fun y22 q22 => ?_)
  obtain ⟨hRy22, ho22, hp22⟩ := q22
  exact j_kret2 G hr rfl ⟨fun k hk => by rw [zc_z hk], fun k a => by have h9 := hRy22 k a; unfold zc; split <;> first | exact zZ_R k a | exact h9, fun a b h1 h2 h3 h4 => by rw [zc_y (by decide)]; exact hp22 a b h1 h2 h3 h4⟩ ⟨Nat.le_of_ble_eq_true rfl, Nat.le_of_ble_eq_true rfl⟩ dX5_init_25
