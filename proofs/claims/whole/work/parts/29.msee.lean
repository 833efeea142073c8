section MSEE
variable {p : Program} {l : Launch} {e : Env} {R : Room} {s : State} {m : MethodId} {args : Array Value} {below : List Frame} {meth : Method} {c : Code} {cc : ByteArray} {own : String} {nL : Nat} {D : va_G} {aC : Nat → ClassId} {ad : Nat → Nat} {A : Nat → Prop} {sh : wSh} {Q : State → Prop} {cells slots : Nat} {z y : wZ} {pc : Nat} {L : List (Option Value)} {st : List Value}
theorem wd_no {k : Nat} {a x : Int} (h : sh.all (fun q => match q.2 with | .inl o => o.2.all (fun f => match f with | .inl _ => true | .inr g => g.1 != k) | .inr a => a.2.2 != k) = true) : wd aC ad sh (zp z k a x) = wd aC ad sh z := by
  unfold wd
  refine List.map_congr_left (fun q hq => ?_)
  rw [wce_other (List.all_eq_true.mp h q hq)]
/-- a place that the world doesn't hold may be said to change -/
theorem j_sw {k : Nat} {a x : Int} (h : sh.all (fun q => match q.2 with | .inl o => o.2.all (fun f => match f with | .inl _ => true | .inr g => g.1 != k) | .inr a => a.2.2 != k) = true) (hk : k < 64)
    (kk : JW p l e R s m args below meth c nL D aC ad A sh Q cells slots (zc (zp z k a x) y) pc L st) : JW p l e R s m args below meth c nL D aC ad A sh Q cells slots (zc z y) pc L st :=
  fun H locs ls hP hS hl => kk H locs ls (by rw [← zp_zc hk, wd_no h]; exact hP) hS hl
theorem i_sw3 (G : wG p s m args meth c cc own nL D aC ad A sh) {x a b c' d : Int} {ta tb tc td len : Nat} {z : wZ} (hdg : decode cc pc = .ok (.lookupswitch d #[(99, a), (114, b), (117, c')], len)) (hx : 0 ≤ x ∧ x ≤ 65535)
    (h1 : (pc : Int) + a = (ta : Int)) (h2 : (pc : Int) + b = (tb : Int)) (h3 : (pc : Int) + c' = (tc : Int)) (h4 : (pc : Int) + d = (td : Int))
    (k1 : x = 99 → JW p l e R s m args below meth c nL D aC ad A sh Q cells slots z ta L st) (k2 : x = 114 → JW p l e R s m args below meth c nL D aC ad A sh Q cells slots z tb L st) (k3 : x = 117 → JW p l e R s m args below meth c nL D aC ad A sh Q cells slots z tc L st)
    (k4 : x ≠ 99 → x ≠ 114 → x ≠ 117 → JW p l e R s m args below meth c nL D aC ad A sh Q cells slots z td L st) : JW p l e R s m args below meth c nL D aC ad A sh Q cells slots z pc L (vi x :: st) := by
  intro H locs ls hP hS hl
  have ex : (Int32.ofInt x).toInt = x := Int32.toInt_ofInt_of_le (by omega) (by omega)
  by_cases c1 : x = 99
  · exact lv_lookup G.1 G.2.1 (off := a) hdg rfl (by rw [ex, c1]; rfl) h1 (k1 c1 H locs ls hP hS hl)
  by_cases c2 : x = 114
  · exact lv_lookup G.1 G.2.1 (off := b) hdg rfl (by rw [ex, c2]; rfl) h2 (k2 c2 H locs ls hP hS hl)
  by_cases c3 : x = 117
  · exact lv_lookup G.1 G.2.1 (off := c') hdg rfl (by rw [ex, c3]; rfl) h3 (k3 c3 H locs ls hP hS hl)
  · exact lv_lookup G.1 G.2.1 (off := d) hdg rfl (by
      show Op.lookupswitch.offset [(99, a), (114, b), (117, c')] d (Int32.ofInt x).toInt = d
      rw [ex, Op.lookupswitch.offset_cons, if_neg (by omega), Op.lookupswitch.offset_cons, if_neg (by omega), Op.lookupswitch.offset_cons, if_neg (by omega), Op.lookupswitch.offset_nil]) h4 (k4 c1 c2 c3 H locs ls hP hS hl)
end MSEE
theorem rng_zp {z : wZ} (h : Rng z) {k : Nat} {a x : Int} (hx : wlo k ≤ x ∧ x ≤ whi k) : Rng (zp z k a x) := by
  intro k' a'
  unfold zp
  split
  · next c => rw [c.1]; exact hx
  · exact h k' a'
theorem MI_put {z y : wZ} (h : MI z y) {i v u : Int} (hv : v = if u = 0 then 0 else 3 - u) : MI (zp z 32 i u) (zp y 72 i v) := by
  intro j h0 h1
  by_cases c : j = i
  · subst c; rw [zp_same, zp_same]; exact hv
  · rw [zp_ne _ (by omega), zp_ne _ (by omega)]; exact h j h0 h1

theorem hasT_b {z : wZ} (h : Rng z) (r k : Int) : 0 ≤ hasT z r (tlK k) ∧ hasT z r (tlK k) ≤ 1 := by
  have q : 0 ≤ z 28 r ∧ z 28 r ≤ 3 := h 28 r
  unfold hasT tlK
  (repeat' split) <;> omega
theorem glF_lt {z : wZ} (h : WF z) {t : Int} (ht : 0 ≤ t ∧ t < z 3 0) (h24 : 0 ≤ z 24 t) : glF z t < z 0 0 := by
  have hk := h.2.2.1 t ht.1 ht.2
  unfold glF
  split
  · next c => exact (h.1 _ h24 (hk.2.1 c)).1.2
  · next c => exact (h.2.1 _ h24 (hk.2.2.1 c)).1
set_option maxHeartbeats 4000000 in
set_option maxRecDepth 100000 in
theorem m_sees (l : Launch) {D : va_G} {aC : Nat → ClassId} {ad : Nat → Nat} (hd : wDi ad shM) {z y : wZ} (hR : Rng z) (hY : Rng y) (t : Int) (hM : MI z y) (ht : 0 ≤ t ∧ t < 24) : cMv l D aC ad shM yX8_sees cX8_sees 4 (rmL 1) [.ref (ad 40), vi t] z y (fun z2 y2 => z2 = seF z t ∧ MI z2 y2 ∧ Rng z2 ∧ Rng y2 ∧ ∀ k', k' ≠ 72 → y2 k' = y k') := by
  refine c_v [some (.ref (ad 40)), some (vi (t)), none, none] (by decide +kernel) rfl (Nat.le_of_ble_eq_true rfl) rfl hd ?_
  intro p e s m args below meth c A G hr
  have q15 : 0 ≤ z 15 t ∧ z 15 t ≤ 1 := hR 15 t
  obtain ⟨R0, eR, hR0⟩ : ∃ R0 : Int, R0 = (if z 15 t = 0 then 1 else 2) ∧ ((z 15 t = 0 ∧ R0 = 1) ∨ (z 15 t = 1 ∧ R0 = 2)) := ⟨_, rfl, by split <;> omega⟩
  refine i_aload_n G dX8_sees_0 rfl ?_
  refine i_getr G F_X8_33 0 rfl rfl dX8_sees_1 ?_
  refine i_iload_n G dX8_sees_4 rfl ?_
  refine i_aload_n G dX8_sees_5 rfl ?_
  refine i_getr G F_X8_30 0 rfl rfl dX8_sees_6 ?_
  refine i_iload_n G dX8_sees_9 rfl ?_
  refine j_zald_z G 6 rfl (by decide) (by decide) (by omega) (by omega) dX8_sees_10 ?_
  have b10 : 0 ≤ z 15 t ∧ z 15 t ≤ 1 := hR 15 _
  refine j_zast_z G 7 rfl (by decide) (by decide) (by omega) (by omega) (by omega) (by decide) hR (by show (0 : Int) ≤ _ ∧ _ ≤ (1 : Int); omega) dX8_sees_11 (fun z11 ez11 hRz11 => ?_)
  refine i_iconst G dX8_sees_12 ?_
  refine i_istore_n (L' := [some (.ref (ad 40)), some (vi (t)), some (vi (0)), none]) G dX8_sees_13 (by decide) rfl ?_
  refine i_forget (L' := [some (.ref (ad 40)), some (vi (t)), some (vi (0)), none]) ⟨rfl, ⟨rfl, ⟨rfl, trivial⟩⟩⟩ ?_
  have lp14 : ∀ (n14 : Nat) (w : Int) (z14_ : wZ) (y14_ : wZ), Rng z14_ → Rng y14_ → (0 ≤ w) → (w + n14 = 10) → (z14_ 15 t = z 15 t) → (MI z14_ y14_) → (∀ k', k' ≠ 72 → y14_ k' = y k') → (jdgL t R0 n14 w z14_ = seF z t) → JW p l e (rmL 1) s m args below meth c 4 D aC ad A shM (MQ below (cQv D aC ad shM (fun z2 y2 => z2 = seF z t ∧ MI z2 y2 ∧ Rng z2 ∧ Rng y2 ∧ ∀ k', k' ≠ 72 → y2 k' = y k') A) args s 0 0 A) 0 0 (zc z14_ y14_) 14 [some (.ref (ad 40)), some (vi (t)), some (vi (w)), none] [] := by
    intro n14
    induction n14 with
    | zero => 
      intro w z14_ y14_ hRz14_ hRy14_ hw hn h15 hm ho hF
      refine i_iload_n G dX8_sees_14 rfl ?_
      refine i_bipush G dX8_sees_15 (by decide) ?_
      refine i_icmp_ge (tgt := 124) G dX8_sees_17 (by decide) (by omega) (by omega) (fun h17 => ?_) (fun h17 => ?_)
      · skip
        refine j_retv G hr dX8_sees_124 ?_
        exact ⟨hF, hm, hRz14_, hRy14_, ho⟩
      · skip
        exfalso; omega
    | succ n14 ih14 => 
      intro w z14_ y14_ hRz14_ hRy14_ hw hn h15 hm ho hF
      have q32 : 0 ≤ z14_ 32 (t * 10 + w) ∧ z14_ 32 (t * 10 + w) ≤ 2 := hRz14_ 32 _
      have hm2 := hm (t * 10 + w) (by omega) (by omega)
      have hm3 : (z14_ 32 (t * 10 + w) = 0 ∧ y14_ 72 (t * 10 + w) = 0) ∨ (z14_ 32 (t * 10 + w) ≠ 0 ∧ y14_ 72 (t * 10 + w) = 3 - z14_ 32 (t * 10 + w)) := by split at hm2 <;> omega
      refine i_iload_n G dX8_sees_14 rfl ?_
      refine i_bipush G dX8_sees_15 (by decide) ?_
      refine i_icmp_ge (tgt := 124) G dX8_sees_17 (by decide) (by omega) (by omega) (fun h17 => ?_) (fun h17 => ?_)
      · skip
        exfalso; omega
      · skip
        refine i_aload_n G dX8_sees_20 rfl ?_
        refine i_getr G F_X8_51 0 rfl rfl dX8_sees_21 ?_
        refine i_iload_n G dX8_sees_24 rfl ?_
        refine i_bipush G dX8_sees_25 (by decide) ?_
        refine i_imul G dX8_sees_27 ?_
        refine i_iload_n G dX8_sees_28 rfl ?_
        refine i_iadd G dX8_sees_29 ?_
        refine j_iald_y G 13 rfl (by decide) (by decide) (by omega) (by omega) dX8_sees_30 ?_
        have b30 : 0 ≤ y14_ 72 ((t * 10) + w) ∧ y14_ 72 ((t * 10) + w) ≤ 2 := hRy14_ 72 _
        refine i_istore_n (L' := [some (.ref (ad 40)), some (vi (t)), some (vi (w)), some (vi ((y14_ 72 ((t * 10) + w))))]) G dX8_sees_31 (by decide) rfl ?_
        refine i_aload_n G dX8_sees_32 rfl ?_
        refine i_getr G F_X8_51 0 rfl rfl dX8_sees_33 ?_
        refine i_iload_n G dX8_sees_36 rfl ?_
        refine i_bipush G dX8_sees_37 (by decide) ?_
        refine i_imul G dX8_sees_39 ?_
        refine i_iload_n G dX8_sees_40 rfl ?_
        refine i_iadd G dX8_sees_41 ?_
        refine i_iconst G dX8_sees_42 ?_
        refine j_iast_y G 13 rfl (by decide) (by decide) (by omega) (by omega) (by decide) hRy14_ (by show (0 : Int) ≤ _ ∧ _ ≤ (2 : Int); omega) dX8_sees_43 (fun y43 ey43 hRy43 => ?_)
        refine i_iload_n G dX8_sees_44 rfl ?_
        refine i_if_ne (tgt := 51) G dX8_sees_45 (by decide) (by omega) (fun h45 => ?_) (fun h45 => ?_)
        · skip
          refine i_aload_n G dX8_sees_51 rfl ?_
          refine i_getr G F_X8_54 0 rfl rfl dX8_sees_52 ?_
          refine i_iload_n G dX8_sees_55 rfl ?_
          refine i_iload_n G dX8_sees_56 rfl ?_
          refine i_iconst G dX8_sees_57 ?_
          refine i_icmp_ne (tgt := 65) G dX8_sees_58 (by decide) (by omega) (by omega) (fun h58 => ?_) (fun h58 => ?_)
          · skip
            refine i_iconst G dX8_sees_65 ?_
            refine i_aload_n G dX8_sees_66 rfl ?_
            refine i_getr G F_X8_30 0 rfl rfl dX8_sees_67 ?_
            refine i_iload_n G dX8_sees_70 rfl ?_
            refine j_zald_z G 6 rfl (by decide) (by decide) (by omega) (by omega) dX8_sees_71 ?_
            have b71 : 0 ≤ z14_ 15 t ∧ z14_ 15 t ≤ 1 := hRz14_ 15 _
            refine i_icmp_ne (tgt := 93) G dX8_sees_72 (by decide) (by omega) (by omega) (fun h72 => ?_) (fun h72 => ?_)
            · skip
              refine i_aload_n G dX8_sees_93 rfl ?_
              refine i_getr G F_X8_54 0 rfl rfl dX8_sees_94 ?_
              refine i_iload_n G dX8_sees_97 rfl ?_
              refine j_iald_z G 14 rfl (by decide) (by decide) (by omega) (by omega) dX8_sees_98 ?_
              have b98 : 0 ≤ z14_ 22 w ∧ z14_ 22 w ≤ 100 := hRz14_ 22 _
              refine i_bipush G dX8_sees_99 (by decide) ?_
              refine i_icmp_ge (tgt := 108) G dX8_sees_101 (by decide) (by omega) (by omega) (fun h101 => ?_) (fun h101 => ?_)
              · skip
                refine i_aload_n G dX8_sees_108 rfl ?_
                refine i_getr G F_X8_54 0 rfl rfl dX8_sees_109 ?_
                refine i_iload_n G dX8_sees_112 rfl ?_
                refine j_iald_z G 14 rfl (by decide) (by decide) (by omega) (by omega) dX8_sees_113 ?_
                have b113 : 0 ≤ z14_ 22 w ∧ z14_ 22 w ≤ 100 := hRz14_ 22 _
                refine i_bipush G dX8_sees_114 (by decide) ?_
                refine i_isub G dX8_sees_116 ?_
                refine j_iast_z G 14 rfl (by decide) (by decide) (by omega) (by omega) (by decide) hRz14_ (by show (0 : Int) ≤ _ ∧ _ ≤ (100 : Int); omega) dX8_sees_117 (fun z117 ez117 hRz117 => ?_)
                refine i_iinc (L' := [some (.ref (ad 40)), some (vi (t)), some (vi (w + 1)), some (vi ((y14_ 72 ((t * 10) + w))))]) G dX8_sees_118 (by decide) rfl rfl ?_
                refine i_goto (tgt := 14) G dX8_sees_121 (by decide) ?_
                refine i_forget (L' := [some (.ref (ad 40)), some (vi (t)), some (vi (w + 1)), none]) ⟨rfl, ⟨rfl, ⟨rfl, trivial⟩⟩⟩ ?_
                have ej : jdgS z14_ t R0 w = zp z117 32 (t * 10 + w) 0 := by
                  unfold jdgS
                  first | (rw [if_neg (by omega), if_pos (by omega)]; done) | (rw [if_pos (by omega), ez117]; congr 2; split <;> omega) | (rw [if_neg (by omega), if_neg (by omega), ez117]; congr 2; split <;> omega)
                have e32 : z117 32 = z14_ 32 := by first | rfl | rw [ez117, zp_nk _ (by decide)]
                have e15 : z117 15 = z14_ 15 := by first | rfl | rw [ez117, zp_nk _ (by decide)]
                refine j_sw (k := 32) (a := t * 10 + w) (x := 0) (by decide +kernel) (by decide) ?_
                exact ih14 (w + 1) (zp z117 32 (t * 10 + w) 0) y43 (rng_zp hRz117 (by decide)) hRy43 (by omega) (by omega) (by rw [zp_nk _ (by decide), e15]; exact h15) (by rw [ey43]; exact MI_put (MI_z hm e32) rfl) (fun k hk => by rw [ey43, zp_nk _ hk]; exact ho k hk) (by rw [← hF, jdgL, ej])
              · skip
                refine i_iconst G dX8_sees_104 ?_
                refine i_goto (tgt := 117) G dX8_sees_105 (by decide) ?_
                refine j_iast_z G 14 rfl (by decide) (by decide) (by omega) (by omega) (by decide) hRz14_ (by show (0 : Int) ≤ _ ∧ _ ≤ (100 : Int); omega) dX8_sees_117 (fun z117 ez117 hRz117 => ?_)
                refine i_iinc (L' := [some (.ref (ad 40)), some (vi (t)), some (vi (w + 1)), some (vi ((y14_ 72 ((t * 10) + w))))]) G dX8_sees_118 (by decide) rfl rfl ?_
                refine i_goto (tgt := 14) G dX8_sees_121 (by decide) ?_
                refine i_forget (L' := [some (.ref (ad 40)), some (vi (t)), some (vi (w + 1)), none]) ⟨rfl, ⟨rfl, ⟨rfl, trivial⟩⟩⟩ ?_
                have ej : jdgS z14_ t R0 w = zp z117 32 (t * 10 + w) 0 := by
                  unfold jdgS
                  first | (rw [if_neg (by omega), if_pos (by omega)]; done) | (rw [if_pos (by omega), ez117]; congr 2; split <;> omega) | (rw [if_neg (by omega), if_neg (by omega), ez117]; congr 2; split <;> omega)
                have e32 : z117 32 = z14_ 32 := by first | rfl | rw [ez117, zp_nk _ (by decide)]
                have e15 : z117 15 = z14_ 15 := by first | rfl | rw [ez117, zp_nk _ (by decide)]
                refine j_sw (k := 32) (a := t * 10 + w) (x := 0) (by decide +kernel) (by decide) ?_
                exact ih14 (w + 1) (zp z117 32 (t * 10 + w) 0) y43 (rng_zp hRz117 (by decide)) hRy43 (by omega) (by omega) (by rw [zp_nk _ (by decide), e15]; exact h15) (by rw [ey43]; exact MI_put (MI_z hm e32) rfl) (fun k hk => by rw [ey43, zp_nk _ hk]; exact ho k hk) (by rw [← hF, jdgL, ej])
            · skip
              refine i_aload_n G dX8_sees_75 rfl ?_
              refine i_bipush G dX8_sees_76 (by decide) ?_
              refine i_aload_n G dX8_sees_78 rfl ?_
              refine i_getr G F_X8_54 0 rfl rfl dX8_sees_79 ?_
              refine i_iload_n G dX8_sees_82 rfl ?_
              refine j_iald_z G 14 rfl (by decide) (by decide) (by omega) (by omega) dX8_sees_83 ?_
              have b83 : 0 ≤ z14_ 22 w ∧ z14_ 22 w ≤ 100 := hRz14_ 22 _
              refine i_bipush G dX8_sees_84 (by decide) ?_
              refine i_iadd G dX8_sees_86 ?_
              refine j_callE (q0 := 0) (As := [vi (100), vi (((z14_ 22 w) + 10))]) (st := [vi (w), .ref (ad 54)]) G K_X8_129 (m_least l hd hRz14_ hRy43 100 ((z14_ 22 w) + 10) (by first | assumption | omega) (by first | assumption | omega)) rfl rfl rfl (rm_ok (by decide) (by decide)) ⟨Nat.le_refl _, Nat.le_refl _⟩ (Nat.le_of_ble_eq_true rfl) dX8_sees_87 ?_
              obtain ⟨r87, er87⟩ : ∃ x_ : Int, x_ = (if 100 < ((z14_ 22 w) + 10) then 100 else ((z14_ 22 w) + 10)) := ⟨_, rfl⟩
              rw [← er87]
              have b87 : (r87 = 100 ∧ r87 ≤ ((z14_ 22 w) + 10)) ∨ (r87 = ((z14_ 22 w) + 10) ∧ r87 ≤ 100) := by rw [er87]; split <;> omega
              refine i_goto (tgt := 117) G dX8_sees_90 (by decide) ?_
              refine j_iast_z G 14 rfl (by decide) (by decide) (by omega) (by omega) (by decide) hRz14_ (by show (0 : Int) ≤ _ ∧ _ ≤ (100 : Int); omega) dX8_sees_117 (fun z117 ez117 hRz117 => ?_)
              refine i_iinc (L' := [some (.ref (ad 40)), some (vi (t)), some (vi (w + 1)), some (vi ((y14_ 72 ((t * 10) + w))))]) G dX8_sees_118 (by decide) rfl rfl ?_
              refine i_goto (tgt := 14) G dX8_sees_121 (by decide) ?_
              refine i_forget (L' := [some (.ref (ad 40)), some (vi (t)), some (vi (w + 1)), none]) ⟨rfl, ⟨rfl, ⟨rfl, trivial⟩⟩⟩ ?_
              have ej : jdgS z14_ t R0 w = zp z117 32 (t * 10 + w) 0 := by
                unfold jdgS
                first | (rw [if_neg (by omega), if_pos (by omega)]; done) | (rw [if_pos (by omega), ez117]; congr 2; split <;> omega) | (rw [if_neg (by omega), if_neg (by omega), ez117]; congr 2; split <;> omega)
              have e32 : z117 32 = z14_ 32 := by first | rfl | rw [ez117, zp_nk _ (by decide)]
              have e15 : z117 15 = z14_ 15 := by first | rfl | rw [ez117, zp_nk _ (by decide)]
              refine j_sw (k := 32) (a := t * 10 + w) (x := 0) (by decide +kernel) (by decide) ?_
              exact ih14 (w + 1) (zp z117 32 (t * 10 + w) 0) y43 (rng_zp hRz117 (by decide)) hRy43 (by omega) (by omega) (by rw [zp_nk _ (by decide), e15]; exact h15) (by rw [ey43]; exact MI_put (MI_z hm e32) rfl) (fun k hk => by rw [ey43, zp_nk _ hk]; exact ho k hk) (by rw [← hF, jdgL, ej])
          · skip
            refine i_iconst G dX8_sees_61 ?_
            refine i_goto (tgt := 66) G dX8_sees_62 (by decide) ?_
            refine i_aload_n G dX8_sees_66 rfl ?_
            refine i_getr G F_X8_30 0 rfl rfl dX8_sees_67 ?_
            refine i_iload_n G dX8_sees_70 rfl ?_
            refine j_zald_z G 6 rfl (by decide) (by decide) (by omega) (by omega) dX8_sees_71 ?_
            have b71 : 0 ≤ z14_ 15 t ∧ z14_ 15 t ≤ 1 := hRz14_ 15 _
            refine i_icmp_ne (tgt := 93) G dX8_sees_72 (by decide) (by omega) (by omega) (fun h72 => ?_) (fun h72 => ?_)
            · skip
              refine i_aload_n G dX8_sees_93 rfl ?_
              refine i_getr G F_X8_54 0 rfl rfl dX8_sees_94 ?_
              refine i_iload_n G dX8_sees_97 rfl ?_
              refine j_iald_z G 14 rfl (by decide) (by decide) (by omega) (by omega) dX8_sees_98 ?_
              have b98 : 0 ≤ z14_ 22 w ∧ z14_ 22 w ≤ 100 := hRz14_ 22 _
              refine i_bipush G dX8_sees_99 (by decide) ?_
              refine i_icmp_ge (tgt := 108) G dX8_sees_101 (by decide) (by omega) (by omega) (fun h101 => ?_) (fun h101 => ?_)
              · skip
                refine i_aload_n G dX8_sees_108 rfl ?_
                refine i_getr G F_X8_54 0 rfl rfl dX8_sees_109 ?_
                refine i_iload_n G dX8_sees_112 rfl ?_
                refine j_iald_z G 14 rfl (by decide) (by decide) (by omega) (by omega) dX8_sees_113 ?_
                have b113 : 0 ≤ z14_ 22 w ∧ z14_ 22 w ≤ 100 := hRz14_ 22 _
                refine i_bipush G dX8_sees_114 (by decide) ?_
                refine i_isub G dX8_sees_116 ?_
                refine j_iast_z G 14 rfl (by decide) (by decide) (by omega) (by omega) (by decide) hRz14_ (by show (0 : Int) ≤ _ ∧ _ ≤ (100 : Int); omega) dX8_sees_117 (fun z117 ez117 hRz117 => ?_)
                refine i_iinc (L' := [some (.ref (ad 40)), some (vi (t)), some (vi (w + 1)), some (vi ((y14_ 72 ((t * 10) + w))))]) G dX8_sees_118 (by decide) rfl rfl ?_
                refine i_goto (tgt := 14) G dX8_sees_121 (by decide) ?_
                refine i_forget (L' := [some (.ref (ad 40)), some (vi (t)), some (vi (w + 1)), none]) ⟨rfl, ⟨rfl, ⟨rfl, trivial⟩⟩⟩ ?_
                have ej : jdgS z14_ t R0 w = zp z117 32 (t * 10 + w) 0 := by
                  unfold jdgS
                  first | (rw [if_neg (by omega), if_pos (by omega)]; done) | (rw [if_pos (by omega), ez117]; congr 2; split <;> omega) | (rw [if_neg (by omega), if_neg (by omega), ez117]; congr 2; split <;> omega)
                have e32 : z117 32 = z14_ 32 := by first | rfl | rw [ez117, zp_nk _ (by decide)]
                have e15 : z117 15 = z14_ 15 := by first | rfl | rw [ez117, zp_nk _ (by decide)]
                refine j_sw (k := 32) (a := t * 10 + w) (x := 0) (by decide +kernel) (by decide) ?_
                exact ih14 (w + 1) (zp z117 32 (t * 10 + w) 0) y43 (rng_zp hRz117 (by decide)) hRy43 (by omega) (by omega) (by rw [zp_nk _ (by decide), e15]; exact h15) (by rw [ey43]; exact MI_put (MI_z hm e32) rfl) (fun k hk => by rw [ey43, zp_nk _ hk]; exact ho k hk) (by rw [← hF, jdgL, ej])
              · skip
                refine i_iconst G dX8_sees_104 ?_
                refine i_goto (tgt := 117) G dX8_sees_105 (by decide) ?_
                refine j_iast_z G 14 rfl (by decide) (by decide) (by omega) (by omega) (by decide) hRz14_ (by show (0 : Int) ≤ _ ∧ _ ≤ (100 : Int); omega) dX8_sees_117 (fun z117 ez117 hRz117 => ?_)
                refine i_iinc (L' := [some (.ref (ad 40)), some (vi (t)), some (vi (w + 1)), some (vi ((y14_ 72 ((t * 10) + w))))]) G dX8_sees_118 (by decide) rfl rfl ?_
                refine i_goto (tgt := 14) G dX8_sees_121 (by decide) ?_
                refine i_forget (L' := [some (.ref (ad 40)), some (vi (t)), some (vi (w + 1)), none]) ⟨rfl, ⟨rfl, ⟨rfl, trivial⟩⟩⟩ ?_
                have ej : jdgS z14_ t R0 w = zp z117 32 (t * 10 + w) 0 := by
                  unfold jdgS
                  first | (rw [if_neg (by omega), if_pos (by omega)]; done) | (rw [if_pos (by omega), ez117]; congr 2; split <;> omega) | (rw [if_neg (by omega), if_neg (by omega), ez117]; congr 2; split <;> omega)
                have e32 : z117 32 = z14_ 32 := by first | rfl | rw [ez117, zp_nk _ (by decide)]
                have e15 : z117 15 = z14_ 15 := by first | rfl | rw [ez117, zp_nk _ (by decide)]
                refine j_sw (k := 32) (a := t * 10 + w) (x := 0) (by decide +kernel) (by decide) ?_
                exact ih14 (w + 1) (zp z117 32 (t * 10 + w) 0) y43 (rng_zp hRz117 (by decide)) hRy43 (by omega) (by omega) (by rw [zp_nk _ (by decide), e15]; exact h15) (by rw [ey43]; exact MI_put (MI_z hm e32) rfl) (fun k hk => by rw [ey43, zp_nk _ hk]; exact ho k hk) (by rw [← hF, jdgL, ej])
            · skip
              refine i_aload_n G dX8_sees_75 rfl ?_
              refine i_bipush G dX8_sees_76 (by decide) ?_
              refine i_aload_n G dX8_sees_78 rfl ?_
              refine i_getr G F_X8_54 0 rfl rfl dX8_sees_79 ?_
              refine i_iload_n G dX8_sees_82 rfl ?_
              refine j_iald_z G 14 rfl (by decide) (by decide) (by omega) (by omega) dX8_sees_83 ?_
              have b83 : 0 ≤ z14_ 22 w ∧ z14_ 22 w ≤ 100 := hRz14_ 22 _
              refine i_bipush G dX8_sees_84 (by decide) ?_
              refine i_iadd G dX8_sees_86 ?_
              refine j_callE (q0 := 0) (As := [vi (100), vi (((z14_ 22 w) + 10))]) (st := [vi (w), .ref (ad 54)]) G K_X8_129 (m_least l hd hRz14_ hRy43 100 ((z14_ 22 w) + 10) (by first | assumption | omega) (by first | assumption | omega)) rfl rfl rfl (rm_ok (by decide) (by decide)) ⟨Nat.le_refl _, Nat.le_refl _⟩ (Nat.le_of_ble_eq_true rfl) dX8_sees_87 ?_
              obtain ⟨r87, er87⟩ : ∃ x_ : Int, x_ = (if 100 < ((z14_ 22 w) + 10) then 100 else ((z14_ 22 w) + 10)) := ⟨_, rfl⟩
              rw [← er87]
              have b87 : (r87 = 100 ∧ r87 ≤ ((z14_ 22 w) + 10)) ∨ (r87 = ((z14_ 22 w) + 10) ∧ r87 ≤ 100) := by rw [er87]; split <;> omega
              refine i_goto (tgt := 117) G dX8_sees_90 (by decide) ?_
              refine j_iast_z G 14 rfl (by decide) (by decide) (by omega) (by omega) (by decide) hRz14_ (by show (0 : Int) ≤ _ ∧ _ ≤ (100 : Int); omega) dX8_sees_117 (fun z117 ez117 hRz117 => ?_)
              refine i_iinc (L' := [some (.ref (ad 40)), some (vi (t)), some (vi (w + 1)), some (vi ((y14_ 72 ((t * 10) + w))))]) G dX8_sees_118 (by decide) rfl rfl ?_
              refine i_goto (tgt := 14) G dX8_sees_121 (by decide) ?_
              refine i_forget (L' := [some (.ref (ad 40)), some (vi (t)), some (vi (w + 1)), none]) ⟨rfl, ⟨rfl, ⟨rfl, trivial⟩⟩⟩ ?_
              have ej : jdgS z14_ t R0 w = zp z117 32 (t * 10 + w) 0 := by
                unfold jdgS
                first | (rw [if_neg (by omega), if_pos (by omega)]; done) | (rw [if_pos (by omega), ez117]; congr 2; split <;> omega) | (rw [if_neg (by omega), if_neg (by omega), ez117]; congr 2; split <;> omega)
              have e32 : z117 32 = z14_ 32 := by first | rfl | rw [ez117, zp_nk _ (by decide)]
              have e15 : z117 15 = z14_ 15 := by first | rfl | rw [ez117, zp_nk _ (by decide)]
              refine j_sw (k := 32) (a := t * 10 + w) (x := 0) (by decide +kernel) (by decide) ?_
              exact ih14 (w + 1) (zp z117 32 (t * 10 + w) 0) y43 (rng_zp hRz117 (by decide)) hRy43 (by omega) (by omega) (by rw [zp_nk _ (by decide), e15]; exact h15) (by rw [ey43]; exact MI_put (MI_z hm e32) rfl) (fun k hk => by rw [ey43, zp_nk _ hk]; exact ho k hk) (by rw [← hF, jdgL, ej])
        · skip
          refine i_goto (tgt := 118) G dX8_sees_48 (by decide) ?_
          refine i_iinc (L' := [some (.ref (ad 40)), some (vi (t)), some (vi (w + 1)), some (vi ((y14_ 72 ((t * 10) + w))))]) G dX8_sees_118 (by decide) rfl rfl ?_
          refine i_goto (tgt := 14) G dX8_sees_121 (by decide) ?_
          refine i_forget (L' := [some (.ref (ad 40)), some (vi (t)), some (vi (w + 1)), none]) ⟨rfl, ⟨rfl, ⟨rfl, trivial⟩⟩⟩ ?_
          have ej : jdgS z14_ t R0 w = zp z14_ 32 (t * 10 + w) 0 := by
            unfold jdgS
            first | (rw [if_neg (by omega), if_pos (by omega)]; done) | (rw [if_pos (by omega), ez14_]; congr 2; split <;> omega) | (rw [if_neg (by omega), if_neg (by omega), ez14_]; congr 2; split <;> omega)
          have e32 : z14_ 32 = z14_ 32 := by first | rfl | rw [ez14_, zp_nk _ (by decide)]
          have e15 : z14_ 15 = z14_ 15 := by first | rfl | rw [ez14_, zp_nk _ (by decide)]
          refine j_sw (k := 32) (a := t * 10 + w) (x := 0) (by decide +kernel) (by decide) ?_
          exact ih14 (w + 1) (zp z14_ 32 (t * 10 + w) 0) y43 (rng_zp hRz14_ (by decide)) hRy43 (by omega) (by omega) (by rw [zp_nk _ (by decide), e15]; exact h15) (by rw [ey43]; exact MI_put (MI_z hm e32) rfl) (fun k hk => by rw [ey43, zp_nk _ hk]; exact ho k hk) (by rw [← hF, jdgL, ej])
  exact lp14 10 0 z11 y hRz11 hY (by omega) (by omega) (by rw [ez11, zp_nk _ (by decide)]) (MI_z hM (by rw [ez11, zp_nk _ (by decide)])) (fun _ _ => rfl) (by rw [ez11, eR]; rfl)
set_option maxHeartbeats 4000000 in
set_option maxRecDepth 100000 in
theorem m_placeOf (l : Launch) {D : va_G} {aC : Nat → ClassId} {ad : Nat → Nat} (hd : wDi ad shM) {z y : wZ} (hR : Rng z) (hY : Rng y) (t : Int) (ht : 0 ≤ t ∧ t < z 3 0) (hF : WF z) : cE l D aC ad shM yX8_placeOf cX8_placeOf 2 (.int) (rmL 0) [.ref (ad 40), vi t] z y (glF z t) := by
  refine c_i [some (.ref (ad 40)), some (vi (t))] (by decide +kernel) rfl (Nat.le_of_ble_eq_true rfl) rfl hd ?_
  intro p e s m args below meth c A G hr
  have q3 : 0 ≤ z 3 0 ∧ z 3 0 ≤ 40 := hR 3 0
  have q1 : 0 ≤ z 1 0 ∧ z 1 0 ≤ 24 := hR 1 0
  have hk := hF.2.2.1 t ht.1 ht.2
  refine i_aload_n G dX8_placeOf_0 rfl ?_
  refine i_getr G F_X8_57 0 rfl rfl dX8_placeOf_1 ?_
  refine i_iload_n G dX8_placeOf_4 rfl ?_
  refine j_cald_z G 15 rfl (by decide) (by decide) (by omega) (by omega) dX8_placeOf_5 ?_
  have b5 : 0 ≤ z 23 t ∧ z 23 t ≤ 65535 := hR 23 _
  refine i_bipush G dX8_placeOf_6 (by decide) ?_
  refine i_icmp_ne (tgt := 25) G dX8_placeOf_8 (by decide) (by omega) (by omega) (fun h8 => ?_) (fun h8 => ?_)
  · skip
    refine i_aload_n G dX8_placeOf_25 rfl ?_
    refine i_getr G F_X8_36 0 rfl rfl dX8_placeOf_26 ?_
    refine i_aload_n G dX8_placeOf_29 rfl ?_
    refine i_getr G F_X8_61 0 rfl rfl dX8_placeOf_30 ?_
    refine i_iload_n G dX8_placeOf_33 rfl ?_
    refine j_iald_z G 16 rfl (by decide) (by decide) (by omega) (by omega) dX8_placeOf_34 ?_
    have b34 : 0 ≤ z 24 t ∧ z 24 t ≤ 29 := hR 24 _
    refine j_iald_z G 8 rfl (by decide) (by decide) (by omega) (by omega) dX8_placeOf_35 ?_
    have b35 : 0 ≤ z 17 (z 24 t) ∧ z 17 (z 24 t) ≤ 15 := hR 17 _
    refine j_reti G hr dX8_placeOf_36 ?_
    refine ⟨?_, rfl, rfl⟩
    unfold glF
    (repeat' split) <;> first | rfl | omega
  · skip
    refine i_aload_n G dX8_placeOf_11 rfl ?_
    refine i_getr G F_X8_17 0 rfl rfl dX8_placeOf_12 ?_
    refine i_aload_n G dX8_placeOf_15 rfl ?_
    refine i_getr G F_X8_61 0 rfl rfl dX8_placeOf_16 ?_
    refine i_iload_n G dX8_placeOf_19 rfl ?_
    refine j_iald_z G 16 rfl (by decide) (by decide) (by omega) (by omega) dX8_placeOf_20 ?_
    have b20 : 0 ≤ z 24 t ∧ z 24 t ≤ 29 := hR 24 _
    refine j_iald_z G 2 rfl (by decide) (by decide) (by omega) (by omega) dX8_placeOf_21 ?_
    have b21 : 0 ≤ z 11 (z 24 t) ∧ z 11 (z 24 t) ≤ 15 := hR 11 _
    refine i_goto (tgt := 36) G dX8_placeOf_22 (by decide) ?_
    refine j_reti G hr dX8_placeOf_36 ?_
    refine ⟨?_, rfl, rfl⟩
    unfold glF
    (repeat' split) <;> first | rfl | omega
set_option maxHeartbeats 4000000 in
set_option maxRecDepth 100000 in
theorem m_timeOf (l : Launch) {D : va_G} {aC : Nat → ClassId} {ad : Nat → Nat} (hd : wDi ad shM) {z y : wZ} (hR : Rng z) (hY : Rng y) (t : Int) (ht : 0 ≤ t ∧ t < 40) : cE l D aC ad shM yX8_timeOf cX8_timeOf 2 (.int) (rmL 0) [.ref (ad 40), vi t] z y (mnK (z 23 t)) := by
  refine c_i [some (.ref (ad 40)), some (vi (t))] (by decide +kernel) rfl (Nat.le_of_ble_eq_true rfl) rfl hd ?_
  intro p e s m args below meth c A G hr
  refine i_aload_n G dX8_timeOf_0 rfl ?_
  refine i_getr G F_X8_57 0 rfl rfl dX8_timeOf_1 ?_
  refine i_iload_n G dX8_timeOf_4 rfl ?_
  refine j_cald_z G 15 rfl (by decide) (by decide) (by omega) (by omega) dX8_timeOf_5 ?_
  have b5 : 0 ≤ z 23 t ∧ z 23 t ≤ 65535 := hR 23 _
  refine i_bipush G dX8_timeOf_6 (by decide) ?_
  refine i_icmp_ne (tgt := 17) G dX8_timeOf_8 (by decide) (by omega) (by omega) (fun h8 => ?_) (fun h8 => ?_)
  · skip
    refine i_aload_n G dX8_timeOf_17 rfl ?_
    refine i_getr G F_X8_57 0 rfl rfl dX8_timeOf_18 ?_
    refine i_iload_n G dX8_timeOf_21 rfl ?_
    refine j_cald_z G 15 rfl (by decide) (by decide) (by omega) (by omega) dX8_timeOf_22 ?_
    have b22 : 0 ≤ z 23 t ∧ z 23 t ≤ 65535 := hR 23 _
    refine i_bipush G dX8_timeOf_23 (by decide) ?_
    refine i_icmp_ne (tgt := 33) G dX8_timeOf_25 (by decide) (by omega) (by omega) (fun h25 => ?_) (fun h25 => ?_)
    · skip
      refine i_bipush G dX8_timeOf_33 (by decide) ?_
      refine j_reti G hr dX8_timeOf_35 ?_
      refine ⟨?_, rfl, rfl⟩
      unfold mnK
      (repeat' split) <;> first | rfl | omega
    · skip
      refine i_bipush G dX8_timeOf_28 (by decide) ?_
      refine i_goto (tgt := 35) G dX8_timeOf_30 (by decide) ?_
      refine j_reti G hr dX8_timeOf_35 ?_
      refine ⟨?_, rfl, rfl⟩
      unfold mnK
      (repeat' split) <;> first | rfl | omega
  · skip
    refine i_sipush G dX8_timeOf_11 (by decide) ?_
    refine i_goto (tgt := 35) G dX8_timeOf_14 (by decide) ?_
    refine j_reti G hr dX8_timeOf_35 ?_
    refine ⟨?_, rfl, rfl⟩
    unfold mnK
    (repeat' split) <;> first | rfl | omega
set_option maxHeartbeats 4000000 in
set_option maxRecDepth 100000 in
theorem m_canBeDone (l : Launch) {D : va_G} {aC : Nat → ClassId} {ad : Nat → Nat} (hd : wDi ad shM) {z y : wZ} (hR : Rng z) (hY : Rng y) (t : Int) (ht : 0 ≤ t ∧ t < z 3 0) (hF : WF z) : cYi l D aC ad shM yX8_canBeDone cX8_canBeDone 3 (.boolean) (rmL 4) [.ref (ad 40), vi t] z y (fun r_ y2 => r_ = msF z t ∧ (r_ = 0 ∨ r_ = 1) ∧ Rng y2 ∧ ∀ k', k' ≠ 70 → y2 k' = y k') := by
  refine c_i [some (.ref (ad 40)), some (vi (t)), none] (by decide +kernel) rfl (Nat.le_of_ble_eq_true rfl) rfl hd ?_
  intro p e s m args below meth c A G hr
  have q3 : 0 ≤ z 3 0 ∧ z 3 0 ≤ 40 := hR 3 0
  have q1 : 0 ≤ z 1 0 ∧ z 1 0 ≤ 24 := hR 1 0
  have q2 : 0 ≤ z 2 0 ∧ z 2 0 ≤ 30 := hR 2 0
  have hk := hF.2.2.1 t ht.1 ht.2
  have hW := hF.1
  have hwb := hF.2.1 (z 24 t)
  have q17 : 0 ≤ z 17 (z 24 t) ∧ z 17 (z 24 t) ≤ 15 := hR 17 _
  have q18 : 0 ≤ z 18 (z 24 t) ∧ z 18 (z 24 t) ≤ 15 := hR 18 _
  refine i_aload_n G dX8_canBeDone_0 rfl ?_
  refine i_getr G F_X8_61 0 rfl rfl dX8_canBeDone_1 ?_
  refine i_iload_n G dX8_canBeDone_4 rfl ?_
  refine j_iald_z G 16 rfl (by decide) (by decide) (by omega) (by omega) dX8_canBeDone_5 ?_
  have b5 : 0 ≤ z 24 t ∧ z 24 t ≤ 29 := hR 24 _
  refine i_istore_n (L' := [some (.ref (ad 40)), some (vi (t)), some (vi ((z 24 t)))]) G dX8_canBeDone_6 (by decide) rfl ?_
  refine i_aload_n G dX8_canBeDone_7 rfl ?_
  refine i_getr G F_X8_57 0 rfl rfl dX8_canBeDone_8 ?_
  refine i_iload_n G dX8_canBeDone_11 rfl ?_
  refine j_cald_z G 15 rfl (by decide) (by decide) (by omega) (by omega) dX8_canBeDone_12 ?_
  have b12 : 0 ≤ z 23 t ∧ z 23 t ≤ 65535 := hR 23 _
  refine i_sw3 (x := (z 23 t)) (ta := 48) (tb := 70) (tc := 63) (td := 102) G dX8_canBeDone_13 (by omega) (by decide) (by decide) (by decide) (by decide) (fun k1 => ?_) (fun k1 => ?_) (fun k1 => ?_) (fun k1 k2 k3 => ?_)
  · skip
    refine i_aload_n G dX8_canBeDone_48 rfl ?_
    refine i_getr G F_X8_48 0 rfl rfl dX8_canBeDone_49 ?_
    refine i_iload_n G dX8_canBeDone_52 rfl ?_
    refine j_zald_z G 12 rfl (by decide) (by decide) (by omega) (by omega) dX8_canBeDone_53 ?_
    have b53 : 0 ≤ z 21 (z 24 t) ∧ z 21 (z 24 t) ≤ 1 := hR 21 _
    refine i_if_ne (tgt := 61) G dX8_canBeDone_54 (by decide) (by omega) (fun h54 => ?_) (fun h54 => ?_)
    · skip
      refine i_iconst G dX8_canBeDone_61 ?_
      refine j_retz G hr (by omega) dX8_canBeDone_62 ?_
      refine ⟨rfl, ?_⟩
      have e9 : 0 = msF z t := by unfold msF; (repeat' split) <;> first | rfl | omega
      exact ⟨e9, by omega, hY, by first | exact fun _ _ => rfl | exact ho90⟩
    · skip
      refine i_iconst G dX8_canBeDone_57 ?_
      refine i_goto (tgt := 62) G dX8_canBeDone_58 (by decide) ?_
      refine j_retz G hr (by omega) dX8_canBeDone_62 ?_
      refine ⟨rfl, ?_⟩
      have e9 : 1 = msF z t := by unfold msF; (repeat' split) <;> first | rfl | omega
      exact ⟨e9, by omega, hY, by first | exact fun _ _ => rfl | exact ho90⟩
  · skip
    have hwb2 := hwb (by omega) (by omega)
    refine i_aload_n G dX8_canBeDone_70 rfl ?_
    refine j_getz G F_X8_7 0 rfl rfl (by decide) dX8_canBeDone_71 ?_
    have b71 : 0 ≤ z 6 0 ∧ z 6 0 ≤ 60000 := hR 6 _
    refine i_if_le (tgt := 100) G dX8_canBeDone_74 (by decide) (by omega) (fun h74 => ?_) (fun h74 => ?_)
    · skip
      refine i_iconst G dX8_canBeDone_100 ?_
      refine j_retz G hr (by omega) dX8_canBeDone_101 ?_
      refine ⟨rfl, ?_⟩
      have e9 : 0 = msF z t := by unfold msF; (repeat' split) <;> first | rfl | omega
      exact ⟨e9, by omega, hY, by first | exact fun _ _ => rfl | exact ho90⟩
    · skip
      refine i_aload_n G dX8_canBeDone_77 rfl ?_
      refine i_aload_n G dX8_canBeDone_78 rfl ?_
      refine i_getr G F_X8_36 0 rfl rfl dX8_canBeDone_79 ?_
      refine i_iload_n G dX8_canBeDone_82 rfl ?_
      refine j_iald_z G 8 rfl (by decide) (by decide) (by omega) (by omega) dX8_canBeDone_83 ?_
      have b83 : 0 ≤ z 17 (z 24 t) ∧ z 17 (z 24 t) ≤ 15 := hR 17 _
      refine i_aload_n G dX8_canBeDone_84 rfl ?_
      refine i_getr G F_X8_39 0 rfl rfl dX8_canBeDone_85 ?_
      refine i_iload_n G dX8_canBeDone_88 rfl ?_
      refine j_iald_z G 9 rfl (by decide) (by decide) (by omega) (by omega) dX8_canBeDone_89 ?_
      have b89 : 0 ≤ z 18 (z 24 t) ∧ z 18 (z 24 t) ≤ 15 := hR 18 _
      refine j_callYi (q0 := 0) (As := [vi ((z 17 (z 24 t))), vi ((z 18 (z 24 t)))]) (st := []) G K_X8_150 (m_canBeCut l hd hR hY (z 17 (z 24 t)) (z 18 (z 24 t)) (by first | assumption | omega) (by first | assumption | omega) (by first | assumption | omega)) rfl rfl rfl (rm_ok (by decide) (by decide)) ⟨Nat.le_refl _, Nat.le_refl _⟩ (Nat.le_of_ble_eq_true rfl) dX8_canBeDone_90 (fun r90 y90 q90 => ?_)
      obtain ⟨br90, hRy90, ho90⟩ := q90
      refine i_if_eq (tgt := 100) G dX8_canBeDone_93 (by decide) (by omega) (fun h93 => ?_) (fun h93 => ?_)
      · skip
        refine i_iconst G dX8_canBeDone_100 ?_
        refine j_retz G hr (by omega) dX8_canBeDone_101 ?_
        refine ⟨rfl, ?_⟩
        have e9 : 0 = msF z t := by unfold msF; (repeat' split) <;> first | rfl | omega
        exact ⟨e9, by omega, hRy90, by first | exact fun _ _ => rfl | exact ho90⟩
      · skip
        refine i_iconst G dX8_canBeDone_96 ?_
        refine i_goto (tgt := 101) G dX8_canBeDone_97 (by decide) ?_
        refine j_retz G hr (by omega) dX8_canBeDone_101 ?_
        refine ⟨rfl, ?_⟩
        have e9 : 1 = msF z t := by unfold msF; (repeat' split) <;> first | rfl | omega
        exact ⟨e9, by omega, hRy90, by first | exact fun _ _ => rfl | exact ho90⟩
  · skip
    refine i_aload_n G dX8_canBeDone_63 rfl ?_
    refine i_getr G F_X8_48 0 rfl rfl dX8_canBeDone_64 ?_
    refine i_iload_n G dX8_canBeDone_67 rfl ?_
    refine j_zald_z G 12 rfl (by decide) (by decide) (by omega) (by omega) dX8_canBeDone_68 ?_
    have b68 : 0 ≤ z 21 (z 24 t) ∧ z 21 (z 24 t) ≤ 1 := hR 21 _
    refine j_retz G hr (by omega) dX8_canBeDone_69 ?_
    refine ⟨rfl, ?_⟩
    have e9 : (z 21 (z 24 t)) = msF z t := by unfold msF; (repeat' split) <;> first | rfl | omega
    exact ⟨e9, by omega, hY, by first | exact fun _ _ => rfl | exact ho90⟩
  · skip
    refine i_aload_n G dX8_canBeDone_102 rfl ?_
    refine i_getr G F_X8_33 0 rfl rfl dX8_canBeDone_103 ?_
    refine i_iload_n G dX8_canBeDone_106 rfl ?_
    refine j_zald_z G 7 rfl (by decide) (by decide) (by omega) (by omega) dX8_canBeDone_107 ?_
    have b107 : 0 ≤ z 16 (z 24 t) ∧ z 16 (z 24 t) ≤ 1 := hR 16 _
    refine j_retz G hr (by omega) dX8_canBeDone_108 ?_
    refine ⟨rfl, ?_⟩
    have e9 : (z 16 (z 24 t)) = msF z t := by unfold msF; (repeat' split) <;> first | rfl | omega
    exact ⟨e9, by omega, hY, by first | exact fun _ _ => rfl | exact ho90⟩
set_option maxHeartbeats 4000000 in
set_option maxRecDepth 100000 in
theorem m_hasTool (l : Launch) {D : va_G} {aC : Nat → ClassId} {ad : Nat → Nat} (hd : wDi ad shM) {z y : wZ} (hR : Rng z) (hY : Rng y) (r : Int) (t : Int) (hr0 : 0 ≤ r ∧ r ≤ 3) (ht : 0 ≤ t ∧ t < 40) : cE l D aC ad shM yX8_hasTool cX8_hasTool 3 (.boolean) (rmL 0) [.ref (ad 40), vi r, vi t] z y (hasT z r (tlK (z 23 t))) := by
  refine c_i [some (.ref (ad 40)), some (vi (r)), some (vi (t))] (by decide +kernel) rfl (Nat.le_of_ble_eq_true rfl) rfl hd ?_
  intro p e s m args below meth c A G hr
  refine i_aload_n G dX8_hasTool_0 rfl ?_
  refine i_getr G F_X8_57 0 rfl rfl dX8_hasTool_1 ?_
  refine i_iload_n G dX8_hasTool_4 rfl ?_
  refine j_cald_z G 15 rfl (by decide) (by decide) (by omega) (by omega) dX8_hasTool_5 ?_
  have b5 : 0 ≤ z 23 t ∧ z 23 t ≤ 65535 := hR 23 _
  refine i_bipush G dX8_hasTool_6 (by decide) ?_
  refine i_icmp_ne (tgt := 29) G dX8_hasTool_8 (by decide) (by omega) (by omega) (fun h8 => ?_) (fun h8 => ?_)
  · skip
    refine i_aload_n G dX8_hasTool_29 rfl ?_
    refine i_getr G F_X8_57 0 rfl rfl dX8_hasTool_30 ?_
    refine i_iload_n G dX8_hasTool_33 rfl ?_
    refine j_cald_z G 15 rfl (by decide) (by decide) (by omega) (by omega) dX8_hasTool_34 ?_
    have b34 : 0 ≤ z 23 t ∧ z 23 t ≤ 65535 := hR 23 _
    refine i_bipush G dX8_hasTool_35 (by decide) ?_
    refine i_icmp_ne (tgt := 52) G dX8_hasTool_37 (by decide) (by omega) (by omega) (fun h37 => ?_) (fun h37 => ?_)
    · skip
      refine i_iconst G dX8_hasTool_52 ?_
      refine i_goto (tgt := 57) G dX8_hasTool_53 (by decide) ?_
      refine j_retz G hr (by omega) dX8_hasTool_57 ?_
      refine ⟨?_, rfl, rfl⟩
      unfold hasT tlK
      (repeat' split) <;> omega
    · skip
      refine i_aload_n G dX8_hasTool_40 rfl ?_
      refine i_getr G F_X8_73 0 rfl rfl dX8_hasTool_41 ?_
      refine i_iload_n G dX8_hasTool_44 rfl ?_
      refine j_iald_z G 20 rfl (by decide) (by decide) (by omega) (by omega) dX8_hasTool_45 ?_
      have b45 : 0 ≤ z 28 r ∧ z 28 r ≤ 3 := hR 28 _
      refine i_iconst G dX8_hasTool_46 ?_
      refine i_irem G (by omega) (by omega) dX8_hasTool_47 ?_
      refine i_iconst G dX8_hasTool_48 ?_
      refine i_icmp_ne (tgt := 56) G dX8_hasTool_49 (by decide) (by omega) (by omega) (fun h49 => ?_) (fun h49 => ?_)
      · skip
        refine i_iconst G dX8_hasTool_56 ?_
        refine j_retz G hr (by omega) dX8_hasTool_57 ?_
        refine ⟨?_, rfl, rfl⟩
        unfold hasT tlK
        (repeat' split) <;> omega
      · skip
        refine i_iconst G dX8_hasTool_52 ?_
        refine i_goto (tgt := 57) G dX8_hasTool_53 (by decide) ?_
        refine j_retz G hr (by omega) dX8_hasTool_57 ?_
        refine ⟨?_, rfl, rfl⟩
        unfold hasT tlK
        (repeat' split) <;> omega
  · skip
    refine i_aload_n G dX8_hasTool_11 rfl ?_
    refine i_getr G F_X8_73 0 rfl rfl dX8_hasTool_12 ?_
    refine i_iload_n G dX8_hasTool_15 rfl ?_
    refine j_iald_z G 20 rfl (by decide) (by decide) (by omega) (by omega) dX8_hasTool_16 ?_
    have b16 : 0 ≤ z 28 r ∧ z 28 r ≤ 3 := hR 28 _
    refine i_iconst G dX8_hasTool_17 ?_
    refine i_icmp_lt (tgt := 25) G dX8_hasTool_18 (by decide) (by omega) (by omega) (fun h18 => ?_) (fun h18 => ?_)
    · skip
      refine i_iconst G dX8_hasTool_25 ?_
      refine i_goto (tgt := 57) G dX8_hasTool_26 (by decide) ?_
      refine j_retz G hr (by omega) dX8_hasTool_57 ?_
      refine ⟨?_, rfl, rfl⟩
      unfold hasT tlK
      (repeat' split) <;> omega
    · skip
      refine i_iconst G dX8_hasTool_21 ?_
      refine i_goto (tgt := 57) G dX8_hasTool_22 (by decide) ?_
      refine j_retz G hr (by omega) dX8_hasTool_57 ?_
      refine ⟨?_, rfl, rfl⟩
      unfold hasT tlK
      (repeat' split) <;> omega
set_option maxHeartbeats 4000000 in
set_option maxRecDepth 100000 in
theorem m_isInTime (l : Launch) {D : va_G} {aC : Nat → ClassId} {ad : Nat → Nat} (hd : wDi ad shM) {z y : wZ} (hR : Rng z) (hY : Rng y) (r : Int) (t : Int) (hr0 : 0 ≤ r ∧ r ≤ 3) (ht : 0 ≤ t ∧ t < z 3 0) (hF : WF z) (hr1 : z 27 r < z 0 0) : cYi l D aC ad shM yX8_isInTime cX8_isInTime 3 (.boolean) (rmL 3) [.ref (ad 40), vi r, vi t] z y (fun r_ y2 => r_ = htF z r t ∧ (r_ = 0 ∨ r_ = 1) ∧ Rng y2 ∧ ∀ k', k' ≠ 70 → y2 k' = y k') := by
  refine c_i [some (.ref (ad 40)), some (vi (r)), some (vi (t))] (by decide +kernel) rfl (Nat.le_of_ble_eq_true rfl) rfl hd ?_
  intro p e s m args below meth c A G hr
  have q3 : 0 ≤ z 3 0 ∧ z 3 0 ≤ 40 := hR 3 0
  have q0 : 0 ≤ z 0 0 ∧ z 0 0 ≤ 16 := hR 0 0
  have q1 : 0 ≤ z 1 0 ∧ z 1 0 ≤ 24 := hR 1 0
  have hW := hF.1
  have hgl : glF z t < z 0 0 := glF_lt hF ht (hR 24 t).1
  have q27 : 0 ≤ z 27 r ∧ z 27 r ≤ 15 := hR 27 r
  refine i_aload_n G dX8_isInTime_0 rfl ?_
  refine i_aload_n G dX8_isInTime_1 rfl ?_
  refine i_getr G F_X8_70 0 rfl rfl dX8_isInTime_2 ?_
  refine i_iload_n G dX8_isInTime_5 rfl ?_
  refine j_iald_z G 19 rfl (by decide) (by decide) (by omega) (by omega) dX8_isInTime_6 ?_
  have b6 : 0 ≤ z 27 r ∧ z 27 r ≤ 15 := hR 27 _
  refine i_aload_n G dX8_isInTime_7 rfl ?_
  refine i_iload_n G dX8_isInTime_8 rfl ?_
  refine j_callE (q0 := 0) (As := [vi (t)]) (st := [vi ((z 27 r)), .ref (ad 40)]) G K_X8_182 (m_placeOf l hd hR hY t (by first | assumption | omega) (by first | assumption | omega)) rfl rfl rfl (rm_ok (by decide) (by decide)) ⟨Nat.le_refl _, Nat.le_refl _⟩ (Nat.le_of_ble_eq_true rfl) dX8_isInTime_9 ?_
  have b9 : 0 ≤ (glF z t) ∧ (glF z t) ≤ 15 := glF_in hR _
  refine i_iconst G dX8_isInTime_12 ?_
  refine j_callYi (q0 := 0) (As := [vi ((z 27 r)), vi ((glF z t)), vi (0)]) (st := []) G K_X8_143 (m_way_0 l hd hR hY (z 27 r) (glF z t) (by first | assumption | omega) (by first | assumption | omega) (by first | assumption | omega)) rfl rfl rfl (rm_ok (by decide) (by decide)) ⟨Nat.le_refl _, Nat.le_refl _⟩ (Nat.le_of_ble_eq_true rfl) dX8_isInTime_13 (fun r13 y13 q13 => ?_)
  obtain ⟨er13, br13, hRy13, ho13⟩ := q13
  refine i_aload_n G dX8_isInTime_16 rfl ?_
  refine i_iload_n G dX8_isInTime_17 rfl ?_
  refine j_callE (q0 := 0) (As := [vi (t)]) (st := [vi (r13)]) G K_X8_185 (m_timeOf l hd hR hRy13 t (by first | assumption | omega)) rfl rfl rfl (rm_ok (by decide) (by decide)) ⟨Nat.le_refl _, Nat.le_refl _⟩ (Nat.le_of_ble_eq_true rfl) dX8_isInTime_18 ?_
  have b18 : 10 ≤ (mnK (z 23 t)) ∧ (mnK (z 23 t)) ≤ 200 := mnK_in _
  refine i_iadd G dX8_isInTime_21 ?_
  refine i_aload_n G dX8_isInTime_22 rfl ?_
  refine j_getz G F_X8_188 0 rfl rfl (by decide) dX8_isInTime_23 ?_
  have b23 : 0 ≤ z 8 0 ∧ z 8 0 ≤ 480 := hR 8 _
  refine i_icmp_gt (tgt := 33) G dX8_isInTime_26 (by decide) (by omega) (by omega) (fun h26 => ?_) (fun h26 => ?_)
  · skip
    refine i_iconst G dX8_isInTime_33 ?_
    refine j_retz G hr (by omega) dX8_isInTime_34 ?_
    refine ⟨rfl, ?_⟩
    have e9 : 0 = htF z r t := by unfold htF; split <;> omega
    exact ⟨e9, by omega, hRy13, ho13⟩
  · skip
    refine i_iconst G dX8_isInTime_29 ?_
    refine i_goto (tgt := 34) G dX8_isInTime_30 (by decide) ?_
    refine j_retz G hr (by omega) dX8_isInTime_34 ?_
    refine ⟨rfl, ?_⟩
    have e9 : 1 = htF z r t := by unfold htF; split <;> omega
    exact ⟨e9, by omega, hRy13, ho13⟩
