/-- a view's rows hold the least minutes -/
def CIv (z y : wZ) (g k : Nat) : Prop := ∀ a b, 0 ≤ a → a < 16 → 0 ≤ b → b < 16 → y k (a * 16 + b) = ds z g a b
theorem zp_id (z : wZ) (k : Nat) (a : Int) : zp z k a (z k a) = z := by
  funext k' a'
  unfold zp
  split
  · next h => rw [h.1, h.2]
  · rfl
theorem WT_congr {z w : wZ} (h : WT z) (h0 : w 0 = z 0) (h1 : w 1 = z 1) (h11 : w 11 = z 11) (h12 : w 12 = z 12) (h13 : w 13 = z 13) (h14 : w 14 = z 14) : WT w := by
  unfold WT at h ⊢
  rw [h0, h1, h11, h12, h13, h14]
  exact h
theorem WT_zp {z : wZ} (h : WT z) {k : Nat} (a x : Int) (hk : k ≠ 0 ∧ k ≠ 1 ∧ k ≠ 11 ∧ k ≠ 12 ∧ k ≠ 13 ∧ k ≠ 14) : WT (zp z k a x) :=
  WT_congr h (zp_nk _ (by omega)) (zp_nk _ (by omega)) (zp_nk _ (by omega)) (zp_nk _ (by omega)) (zp_nk _ (by omega)) (zp_nk _ (by omega))
def jnF (z : wZ) (a b f r : Int) : wZ := zp (zp (zp (zp (zp z 1 0 (z 1 0 + 1)) 11 (z 1 0) a) 12 (z 1 0) b) 13 (z 1 0) f) 14 (z 1 0) r
theorem WT_join {z : wZ} (h : WT z) {a b f r : Int} (ha : 0 ≤ a ∧ a < z 0 0) (hb : 0 ≤ b ∧ b < z 0 0) (hn : a ≠ b) (hf : 1 ≤ f) (hr : 1 ≤ r) : WT (jnF z a b f r) := by
  have e0 : jnF z a b f r 0 0 = z 0 0 := rfl
  have e1 : jnF z a b f r 1 0 = z 1 0 + 1 := rfl
  intro t h0 h1
  rw [e0]
  rw [e1] at h1
  have e11 : jnF z a b f r 11 t = if t = z 1 0 then a else z 11 t := by simp [jnF, zp]
  have e12 : jnF z a b f r 12 t = if t = z 1 0 then b else z 12 t := by simp [jnF, zp]
  have e13 : jnF z a b f r 13 t = if t = z 1 0 then f else z 13 t := by simp [jnF, zp]
  have e14 : jnF z a b f r 14 t = if t = z 1 0 then r else z 14 t := by simp [jnF, zp]
  rw [e11, e12, e13, e14]
  by_cases e : t = z 1 0
  · simp only [if_pos e]; exact ⟨ha, hb, hn, hf, hr⟩
  · simp only [if_neg e]; exact h t h0 (by omega)
set_option maxHeartbeats 4000000 in
set_option maxRecDepth 100000 in
theorem c_shortenBy_0 (l : Launch) {D : va_G} {aC : Nat → ClassId} {ad : Nat → Nat} (hd : wDi ad shC) {z y : wZ} (hR : Rng z) (hY : Rng y) (t : Int) (ht : 0 ≤ t ∧ t < 24) : cYi l D aC ad shC yX2_shortenBy cX2_shortenBy 9 (.boolean) (rmL 0) [.ref (ad 1), vi t, .ref (ad 12)] z y (fun r y' => y' = rlL z 65 t (z 0 0).toNat 0 y ∧ r = rlF z 65 t (z 0 0).toNat 0 y 0 ∧ Rng y' ∧ (r = 0 ∨ r = 1)) := by
  refine c_i [some (.ref (ad 1)), some (vi (t)), some (.ref (ad 12)), none, none, none, none, none, none] (by decide +kernel) rfl (Nat.le_of_ble_eq_true rfl) rfl hd ?_
  intro p e s m args below meth c A G hr
  refine i_iconst G dX2_shortenBy_0 ?_
  refine i_istore_n (L' := [some (.ref (ad 1)), some (vi (t)), some (.ref (ad 12)), some (vi (0)), none, none, none, none, none]) G dX2_shortenBy_1 (by decide) rfl ?_
  refine i_aload_n G dX2_shortenBy_2 rfl ?_
  refine i_getr G F_X2_15 1 rfl rfl dX2_shortenBy_3 ?_
  refine i_iload_n G dX2_shortenBy_6 rfl ?_
  refine j_iald_z G 3 rfl (by decide) (by decide) (by omega) (by omega) dX2_shortenBy_7 ?_
  have b7 : 0 ≤ z 11 t ∧ z 11 t ≤ 15 := hR 11 _
  refine i_bipush G dX2_shortenBy_8 (by decide) ?_
  refine i_imul G dX2_shortenBy_10 ?_
  refine i_istore (L' := [some (.ref (ad 1)), some (vi (t)), some (.ref (ad 12)), some (vi (0)), some (vi (((z 11 t) * 16))), none, none, none, none]) G dX2_shortenBy_11 (by decide) rfl ?_
  refine i_aload_n G dX2_shortenBy_13 rfl ?_
  refine i_getr G F_X2_19 1 rfl rfl dX2_shortenBy_14 ?_
  refine i_iload_n G dX2_shortenBy_17 rfl ?_
  refine j_iald_z G 4 rfl (by decide) (by decide) (by omega) (by omega) dX2_shortenBy_18 ?_
  have b18 : 0 ≤ z 12 t ∧ z 12 t ≤ 15 := hR 12 _
  refine i_bipush G dX2_shortenBy_19 (by decide) ?_
  refine i_imul G dX2_shortenBy_21 ?_
  refine i_istore (L' := [some (.ref (ad 1)), some (vi (t)), some (.ref (ad 12)), some (vi (0)), some (vi (((z 11 t) * 16))), some (vi (((z 12 t) * 16))), none, none, none]) G dX2_shortenBy_22 (by decide) rfl ?_
  refine i_iconst G dX2_shortenBy_24 ?_
  refine i_istore (L' := [some (.ref (ad 1)), some (vi (t)), some (.ref (ad 12)), some (vi (0)), some (vi (((z 11 t) * 16))), some (vi (((z 12 t) * 16))), some (vi (0)), none, none]) G dX2_shortenBy_25 (by decide) rfl ?_
  refine i_forget (L' := [some (.ref (ad 1)), some (vi (t)), some (.ref (ad 12)), some (vi (0)), some (vi (((z 11 t) * 16))), some (vi (((z 12 t) * 16))), some (vi (0)), none, none]) ⟨rfl, ⟨rfl, ⟨rfl, ⟨rfl, ⟨rfl, ⟨rfl, ⟨rfl, trivial⟩⟩⟩⟩⟩⟩⟩ ?_
  have lp27 : ∀ (n27 : Nat) (acc j : Int) (y27_ : wZ), Rng y27_ → (0 ≤ j) → (j + n27 = z 0 0) → (rlL z 65 t n27 j y27_ = rlL z 65 t (z 0 0).toNat 0 y) → (rlF z 65 t n27 j y27_ acc = rlF z 65 t (z 0 0).toNat 0 y 0) → (acc = 0 ∨ acc = 1) → JW p l e (rmL 0) s m args below meth c 9 D aC ad A shC (MQ below (cQi D aC ad shC (fun r_ z_ y_ => z_ = z ∧ (fun r y' => y' = rlL z 65 t (z 0 0).toNat 0 y ∧ r = rlF z 65 t (z 0 0).toNat 0 y 0 ∧ Rng y' ∧ (r = 0 ∨ r = 1)) r_ y_) A) args s 0 0 A) 0 0 (zc z y27_) 27 [some (.ref (ad 1)), some (vi (t)), some (.ref (ad 12)), some (vi (acc)), some (vi (((z 11 t) * 16))), some (vi (((z 12 t) * 16))), some (vi (j)), none, none] [] := by
    intro n27
    induction n27 with
    | zero => 
      intro acc j y27_ hRy27_ hj hn hF hG ha
      refine i_iload G dX2_shortenBy_27 rfl ?_
      refine i_aload_n G dX2_shortenBy_29 rfl ?_
      refine j_getz G F_X2_41 1 rfl rfl (by decide) dX2_shortenBy_30 ?_
      have b30 : 0 ≤ z 0 0 ∧ z 0 0 ≤ 16 := hR 0 _
      refine i_icmp_ge (tgt := 120) G dX2_shortenBy_33 (by decide) (by omega) (by omega) (fun h33 => ?_) (fun h33 => ?_)
      · skip
        refine i_iload_n G dX2_shortenBy_120 rfl ?_
        refine j_retz G hr (by omega) dX2_shortenBy_121 ?_
        exact ⟨rfl, hF, hG, hRy27_, ha⟩
      · skip
        exfalso; omega
    | succ n27 ih27 => 
      intro acc j y27_ hRy27_ hj hn hF hG ha
      refine i_iload G dX2_shortenBy_27 rfl ?_
      refine i_aload_n G dX2_shortenBy_29 rfl ?_
      refine j_getz G F_X2_41 1 rfl rfl (by decide) dX2_shortenBy_30 ?_
      have b30 : 0 ≤ z 0 0 ∧ z 0 0 ≤ 16 := hR 0 _
      refine i_icmp_ge (tgt := 120) G dX2_shortenBy_33 (by decide) (by omega) (by omega) (fun h33 => ?_) (fun h33 => ?_)
      · skip
        exfalso; omega
      · skip
        refine i_aload_n G dX2_shortenBy_36 rfl ?_
        refine i_getr G F_X2_22 1 rfl rfl dX2_shortenBy_37 ?_
        refine i_iload_n G dX2_shortenBy_40 rfl ?_
        refine j_iald_z G 5 rfl (by decide) (by decide) (by omega) (by omega) dX2_shortenBy_41 ?_
        have b41 : 0 ≤ z 13 t ∧ z 13 t ≤ 300 := hR 13 _
        refine i_aload_n G dX2_shortenBy_42 rfl ?_
        refine i_iload G dX2_shortenBy_43 rfl ?_
        refine i_iload G dX2_shortenBy_45 rfl ?_
        refine i_iadd G dX2_shortenBy_47 ?_
        refine j_iald_y G 12 rfl (by decide) (by decide) (by omega) (by omega) dX2_shortenBy_48 ?_
        have b48 : 0 ≤ y27_ 65 (((z 12 t) * 16) + j) ∧ y27_ 65 (((z 12 t) * 16) + j) ≤ 1000000 := hRy27_ 65 _
        refine i_iadd G dX2_shortenBy_49 ?_
        refine i_istore (L' := [some (.ref (ad 1)), some (vi (t)), some (.ref (ad 12)), some (vi (acc)), some (vi (((z 11 t) * 16))), some (vi (((z 12 t) * 16))), some (vi (j)), some (vi (((z 13 t) + (y27_ 65 (((z 12 t) * 16) + j))))), none]) G dX2_shortenBy_50 (by decide) rfl ?_
        refine i_iload G dX2_shortenBy_52 rfl ?_
        refine i_aload_n G dX2_shortenBy_54 rfl ?_
        refine i_iload G dX2_shortenBy_55 rfl ?_
        refine i_iload G dX2_shortenBy_57 rfl ?_
        refine i_iadd G dX2_shortenBy_59 ?_
        refine j_iald_y G 12 rfl (by decide) (by decide) (by omega) (by omega) dX2_shortenBy_60 ?_
        have b60 : 0 ≤ y27_ 65 (((z 11 t) * 16) + j) ∧ y27_ 65 (((z 11 t) * 16) + j) ≤ 1000000 := hRy27_ 65 _
        refine i_icmp_ge (tgt := 75) G dX2_shortenBy_61 (by decide) (by omega) (by omega) (fun h61 => ?_) (fun h61 => ?_)
        · skip
          refine i_aload_n G dX2_shortenBy_75 rfl ?_
          refine i_getr G F_X2_25 1 rfl rfl dX2_shortenBy_76 ?_
          refine i_iload_n G dX2_shortenBy_79 rfl ?_
          refine j_iald_z G 6 rfl (by decide) (by decide) (by omega) (by omega) dX2_shortenBy_80 ?_
          have b80 : 0 ≤ z 14 t ∧ z 14 t ≤ 300 := hR 14 _
          refine i_aload_n G dX2_shortenBy_81 rfl ?_
          refine i_iload G dX2_shortenBy_82 rfl ?_
          refine i_iload G dX2_shortenBy_84 rfl ?_
          refine i_iadd G dX2_shortenBy_86 ?_
          refine j_iald_y G 12 rfl (by decide) (by decide) (by omega) (by omega) dX2_shortenBy_87 ?_
          have b87 : 0 ≤ y27_ 65 (((z 11 t) * 16) + j) ∧ y27_ 65 (((z 11 t) * 16) + j) ≤ 1000000 := hRy27_ 65 _
          refine i_iadd G dX2_shortenBy_88 ?_
          refine i_istore (L' := [some (.ref (ad 1)), some (vi (t)), some (.ref (ad 12)), some (vi (acc)), some (vi (((z 11 t) * 16))), some (vi (((z 12 t) * 16))), some (vi (j)), some (vi (((z 13 t) + (y27_ 65 (((z 12 t) * 16) + j))))), some (vi (((z 14 t) + (y27_ 65 (((z 11 t) * 16) + j)))))]) G dX2_shortenBy_89 (by decide) rfl ?_
          refine i_iload G dX2_shortenBy_91 rfl ?_
          refine i_aload_n G dX2_shortenBy_93 rfl ?_
          refine i_iload G dX2_shortenBy_94 rfl ?_
          refine i_iload G dX2_shortenBy_96 rfl ?_
          refine i_iadd G dX2_shortenBy_98 ?_
          refine j_iald_y G 12 rfl (by decide) (by decide) (by omega) (by omega) dX2_shortenBy_99 ?_
          have b99 : 0 ≤ y27_ 65 (((z 12 t) * 16) + j) ∧ y27_ 65 (((z 12 t) * 16) + j) ≤ 1000000 := hRy27_ 65 _
          refine i_icmp_ge (tgt := 114) G dX2_shortenBy_100 (by decide) (by omega) (by omega) (fun h100 => ?_) (fun h100 => ?_)
          · skip
            refine i_iinc (L' := [some (.ref (ad 1)), some (vi (t)), some (.ref (ad 12)), some (vi (acc)), some (vi (((z 11 t) * 16))), some (vi (((z 12 t) * 16))), some (vi (j + 1)), some (vi (((z 13 t) + (y27_ 65 (((z 12 t) * 16) + j))))), some (vi (((z 14 t) + (y27_ 65 (((z 11 t) * 16) + j)))))]) G dX2_shortenBy_114 (by decide) rfl rfl ?_
            refine i_goto (tgt := 27) G dX2_shortenBy_117 (by decide) ?_
            refine i_forget (L' := [some (.ref (ad 1)), some (vi (t)), some (.ref (ad 12)), some (vi (acc)), some (vi (((z 11 t) * 16))), some (vi (((z 12 t) * 16))), some (vi (j + 1)), none, none]) ⟨rfl, ⟨rfl, ⟨rfl, ⟨rfl, ⟨rfl, ⟨rfl, ⟨rfl, trivial⟩⟩⟩⟩⟩⟩⟩ ?_
            have e1 : rlB z 65 t j (rlA z 65 t j y27_) = y27_ := by
              subst_vars
              first | rw [rlA, if_pos (by omega)] | rw [rlA, if_neg (by omega)]
              first | rw [rlB, if_pos (by omega)] | rw [rlB, if_neg (by omega)]
            have e2 : chF z 65 t j y27_ acc = acc := by
              subst_vars
              first | rw [chF, if_pos (by omega)] | (rw [chF, if_neg (by omega)]; first | rw [if_pos (by omega)] | rw [if_neg (by omega)])
            exact ih27 _ (j + 1) y27_ hRy27_ (by omega) (by omega) (by rw [← hF, rlL, e1]) (by rw [← hG, rlF, e1, e2]) (by omega)
          · skip
            refine i_aload_n G dX2_shortenBy_103 rfl ?_
            refine i_iload G dX2_shortenBy_104 rfl ?_
            refine i_iload G dX2_shortenBy_106 rfl ?_
            refine i_iadd G dX2_shortenBy_108 ?_
            refine i_iload G dX2_shortenBy_109 rfl ?_
            refine j_iast_y G 12 rfl (by decide) (by decide) (by omega) (by omega) (by decide) hRy27_ (by show (0 : Int) ≤ _ ∧ _ ≤ (1000000 : Int); omega) dX2_shortenBy_111 (fun y111 ey111 hRy111 => ?_)
            refine i_iconst G dX2_shortenBy_112 ?_
            refine i_istore_n (L' := [some (.ref (ad 1)), some (vi (t)), some (.ref (ad 12)), some (vi (1)), some (vi (((z 11 t) * 16))), some (vi (((z 12 t) * 16))), some (vi (j)), some (vi (((z 13 t) + (y27_ 65 (((z 12 t) * 16) + j))))), some (vi (((z 14 t) + (y27_ 65 (((z 11 t) * 16) + j)))))]) G dX2_shortenBy_113 (by decide) rfl ?_
            refine i_iinc (L' := [some (.ref (ad 1)), some (vi (t)), some (.ref (ad 12)), some (vi (1)), some (vi (((z 11 t) * 16))), some (vi (((z 12 t) * 16))), some (vi (j + 1)), some (vi (((z 13 t) + (y27_ 65 (((z 12 t) * 16) + j))))), some (vi (((z 14 t) + (y27_ 65 (((z 11 t) * 16) + j)))))]) G dX2_shortenBy_114 (by decide) rfl rfl ?_
            refine i_goto (tgt := 27) G dX2_shortenBy_117 (by decide) ?_
            refine i_forget (L' := [some (.ref (ad 1)), some (vi (t)), some (.ref (ad 12)), some (vi (1)), some (vi (((z 11 t) * 16))), some (vi (((z 12 t) * 16))), some (vi (j + 1)), none, none]) ⟨rfl, ⟨rfl, ⟨rfl, ⟨rfl, ⟨rfl, ⟨rfl, ⟨rfl, trivial⟩⟩⟩⟩⟩⟩⟩ ?_
            have e1 : rlB z 65 t j (rlA z 65 t j y27_) = y111 := by
              subst_vars
              first | rw [rlA, if_pos (by omega)] | rw [rlA, if_neg (by omega)]
              first | rw [rlB, if_pos (by omega)] | rw [rlB, if_neg (by omega)]
            have e2 : chF z 65 t j y27_ acc = 1 := by
              subst_vars
              first | rw [chF, if_pos (by omega)] | (rw [chF, if_neg (by omega)]; first | rw [if_pos (by omega)] | rw [if_neg (by omega)])
            exact ih27 _ (j + 1) y111 hRy111 (by omega) (by omega) (by rw [← hF, rlL, e1]) (by rw [← hG, rlF, e1, e2]) (by omega)
        · skip
          refine i_aload_n G dX2_shortenBy_64 rfl ?_
          refine i_iload G dX2_shortenBy_65 rfl ?_
          refine i_iload G dX2_shortenBy_67 rfl ?_
          refine i_iadd G dX2_shortenBy_69 ?_
          refine i_iload G dX2_shortenBy_70 rfl ?_
          refine j_iast_y G 12 rfl (by decide) (by decide) (by omega) (by omega) (by decide) hRy27_ (by show (0 : Int) ≤ _ ∧ _ ≤ (1000000 : Int); omega) dX2_shortenBy_72 (fun y72 ey72 hRy72 => ?_)
          refine i_iconst G dX2_shortenBy_73 ?_
          refine i_istore_n (L' := [some (.ref (ad 1)), some (vi (t)), some (.ref (ad 12)), some (vi (1)), some (vi (((z 11 t) * 16))), some (vi (((z 12 t) * 16))), some (vi (j)), some (vi (((z 13 t) + (y27_ 65 (((z 12 t) * 16) + j))))), none]) G dX2_shortenBy_74 (by decide) rfl ?_
          refine i_aload_n G dX2_shortenBy_75 rfl ?_
          refine i_getr G F_X2_25 1 rfl rfl dX2_shortenBy_76 ?_
          refine i_iload_n G dX2_shortenBy_79 rfl ?_
          refine j_iald_z G 6 rfl (by decide) (by decide) (by omega) (by omega) dX2_shortenBy_80 ?_
          have b80 : 0 ≤ z 14 t ∧ z 14 t ≤ 300 := hR 14 _
          refine i_aload_n G dX2_shortenBy_81 rfl ?_
          refine i_iload G dX2_shortenBy_82 rfl ?_
          refine i_iload G dX2_shortenBy_84 rfl ?_
          refine i_iadd G dX2_shortenBy_86 ?_
          refine j_iald_y G 12 rfl (by decide) (by decide) (by omega) (by omega) dX2_shortenBy_87 ?_
          have b87 : 0 ≤ y72 65 (((z 11 t) * 16) + j) ∧ y72 65 (((z 11 t) * 16) + j) ≤ 1000000 := hRy72 65 _
          refine i_iadd G dX2_shortenBy_88 ?_
          refine i_istore (L' := [some (.ref (ad 1)), some (vi (t)), some (.ref (ad 12)), some (vi (1)), some (vi (((z 11 t) * 16))), some (vi (((z 12 t) * 16))), some (vi (j)), some (vi (((z 13 t) + (y27_ 65 (((z 12 t) * 16) + j))))), some (vi (((z 14 t) + (y72 65 (((z 11 t) * 16) + j)))))]) G dX2_shortenBy_89 (by decide) rfl ?_
          refine i_iload G dX2_shortenBy_91 rfl ?_
          refine i_aload_n G dX2_shortenBy_93 rfl ?_
          refine i_iload G dX2_shortenBy_94 rfl ?_
          refine i_iload G dX2_shortenBy_96 rfl ?_
          refine i_iadd G dX2_shortenBy_98 ?_
          refine j_iald_y G 12 rfl (by decide) (by decide) (by omega) (by omega) dX2_shortenBy_99 ?_
          have b99 : 0 ≤ y72 65 (((z 12 t) * 16) + j) ∧ y72 65 (((z 12 t) * 16) + j) ≤ 1000000 := hRy72 65 _
          refine i_icmp_ge (tgt := 114) G dX2_shortenBy_100 (by decide) (by omega) (by omega) (fun h100 => ?_) (fun h100 => ?_)
          · skip
            refine i_iinc (L' := [some (.ref (ad 1)), some (vi (t)), some (.ref (ad 12)), some (vi (1)), some (vi (((z 11 t) * 16))), some (vi (((z 12 t) * 16))), some (vi (j + 1)), some (vi (((z 13 t) + (y27_ 65 (((z 12 t) * 16) + j))))), some (vi (((z 14 t) + (y72 65 (((z 11 t) * 16) + j)))))]) G dX2_shortenBy_114 (by decide) rfl rfl ?_
            refine i_goto (tgt := 27) G dX2_shortenBy_117 (by decide) ?_
            refine i_forget (L' := [some (.ref (ad 1)), some (vi (t)), some (.ref (ad 12)), some (vi (1)), some (vi (((z 11 t) * 16))), some (vi (((z 12 t) * 16))), some (vi (j + 1)), none, none]) ⟨rfl, ⟨rfl, ⟨rfl, ⟨rfl, ⟨rfl, ⟨rfl, ⟨rfl, trivial⟩⟩⟩⟩⟩⟩⟩ ?_
            have e1 : rlB z 65 t j (rlA z 65 t j y27_) = y72 := by
              subst_vars
              first | rw [rlA, if_pos (by omega)] | rw [rlA, if_neg (by omega)]
              first | rw [rlB, if_pos (by omega)] | rw [rlB, if_neg (by omega)]
            have e2 : chF z 65 t j y27_ acc = 1 := by
              subst_vars
              first | rw [chF, if_pos (by omega)] | (rw [chF, if_neg (by omega)]; first | rw [if_pos (by omega)] | rw [if_neg (by omega)])
            exact ih27 _ (j + 1) y72 hRy72 (by omega) (by omega) (by rw [← hF, rlL, e1]) (by rw [← hG, rlF, e1, e2]) (by omega)
          · skip
            refine i_aload_n G dX2_shortenBy_103 rfl ?_
            refine i_iload G dX2_shortenBy_104 rfl ?_
            refine i_iload G dX2_shortenBy_106 rfl ?_
            refine i_iadd G dX2_shortenBy_108 ?_
            refine i_iload G dX2_shortenBy_109 rfl ?_
            refine j_iast_y G 12 rfl (by decide) (by decide) (by omega) (by omega) (by decide) hRy72 (by show (0 : Int) ≤ _ ∧ _ ≤ (1000000 : Int); omega) dX2_shortenBy_111 (fun y111 ey111 hRy111 => ?_)
            refine i_iconst G dX2_shortenBy_112 ?_
            refine i_istore_n (L' := [some (.ref (ad 1)), some (vi (t)), some (.ref (ad 12)), some (vi (1)), some (vi (((z 11 t) * 16))), some (vi (((z 12 t) * 16))), some (vi (j)), some (vi (((z 13 t) + (y27_ 65 (((z 12 t) * 16) + j))))), some (vi (((z 14 t) + (y72 65 (((z 11 t) * 16) + j)))))]) G dX2_shortenBy_113 (by decide) rfl ?_
            refine i_iinc (L' := [some (.ref (ad 1)), some (vi (t)), some (.ref (ad 12)), some (vi (1)), some (vi (((z 11 t) * 16))), some (vi (((z 12 t) * 16))), some (vi (j + 1)), some (vi (((z 13 t) + (y27_ 65 (((z 12 t) * 16) + j))))), some (vi (((z 14 t) + (y72 65 (((z 11 t) * 16) + j)))))]) G dX2_shortenBy_114 (by decide) rfl rfl ?_
            refine i_goto (tgt := 27) G dX2_shortenBy_117 (by decide) ?_
            refine i_forget (L' := [some (.ref (ad 1)), some (vi (t)), some (.ref (ad 12)), some (vi (1)), some (vi (((z 11 t) * 16))), some (vi (((z 12 t) * 16))), some (vi (j + 1)), none, none]) ⟨rfl, ⟨rfl, ⟨rfl, ⟨rfl, ⟨rfl, ⟨rfl, ⟨rfl, trivial⟩⟩⟩⟩⟩⟩⟩ ?_
            have e1 : rlB z 65 t j (rlA z 65 t j y27_) = y111 := by
              subst_vars
              first | rw [rlA, if_pos (by omega)] | rw [rlA, if_neg (by omega)]
              first | rw [rlB, if_pos (by omega)] | rw [rlB, if_neg (by omega)]
            have e2 : chF z 65 t j y27_ acc = 1 := by
              subst_vars
              first | rw [chF, if_pos (by omega)] | (rw [chF, if_neg (by omega)]; first | rw [if_pos (by omega)] | rw [if_neg (by omega)])
            exact ih27 _ (j + 1) y111 hRy111 (by omega) (by omega) (by rw [← hF, rlL, e1]) (by rw [← hG, rlF, e1, e2]) (by omega)
  have b27 : 0 ≤ z 0 0 ∧ z 0 0 ≤ 16 := hR 0 0
  exact lp27 (z 0 0).toNat 0 0 y hY (by omega) (by omega) rfl rfl (Or.inl rfl)
set_option maxHeartbeats 4000000 in
set_option maxRecDepth 100000 in
theorem c_findWays_0 (l : Launch) {D : va_G} {aC : Nat → ClassId} {ad : Nat → Nat} (hd : wDi ad shC) {z y : wZ} (hR : Rng z) (hY : Rng y)  (hW : WT z) : cYv l D aC ad shC yX2_findWays cX2_findWays 5 (rmL 1) [.ref (ad 1), .ref (ad 10)] z y (fun y' => Rng y' ∧ (∀ k', k' ≠ 65 → y' k' = y k') ∧ CIv z y' 16 65) := by
  refine c_v [some (.ref (ad 1)), some (.ref (ad 10)), none, none, none] (by decide +kernel) rfl (Nat.le_of_ble_eq_true rfl) rfl hd ?_
  intro p e s m args below meth c A G hr
  refine i_aload_n G dX2_findWays_0 rfl ?_
  refine j_callYv (q0 := 10) (As := []) (st := []) G K_X2_70 (c_forgetWays_0 l hd hR hY  ) rfl rfl rfl (rm_ok (by decide) (by decide)) ⟨Nat.le_refl _, Nat.le_refl _⟩ (Nat.le_of_ble_eq_true rfl) dX2_findWays_1 (fun y1 q1 => ?_)
  obtain ⟨hRy1, ho1, hp1⟩ := q1
  refine i_iconst G dX2_findWays_4 ?_
  refine i_istore_n (L' := [some (.ref (ad 1)), some (.ref (ad 10)), some (vi (1)), none, none]) G dX2_findWays_5 (by decide) rfl ?_
  refine i_iconst G dX2_findWays_6 ?_
  refine i_istore_n (L' := [some (.ref (ad 1)), some (.ref (ad 10)), some (vi (1)), some (vi (1)), none]) G dX2_findWays_7 (by decide) rfl ?_
  refine i_forget (L' := [some (.ref (ad 1)), some (.ref (ad 10)), some (vi (1)), some (vi (1)), none]) ⟨rfl, ⟨rfl, ⟨rfl, ⟨rfl, trivial⟩⟩⟩⟩ ?_
  have lp8 : ∀ (n8 : Nat) (f r : Int) (y8_ : wZ), Rng y8_ → (1 ≤ r ∧ r ≤ 17) → (r + n8 = z 0 0 ∨ (n8 = 0 ∧ z 0 0 ≤ r)) → (f = 0 ∨ f = 1) → (fwL z 16 65 n8 y8_ f = fwL z 16 65 (z 0 0 - 1).toNat y1 1) → JW p l e (rmL 1) s m args below meth c 5 D aC ad A shC (MQ below (cQv D aC ad shC (fun z_ y_ => z_ = z ∧ (fun y' => Rng y' ∧ (∀ k', k' ≠ 65 → y' k' = y k') ∧ CIv z y' 16 65) y_) A) args s 0 0 A) 0 0 (zc z y8_) 8 [some (.ref (ad 1)), some (.ref (ad 10)), some (vi (f)), some (vi (r)), none] [] := by
    intro n8
    induction n8 with
    | zero => 
      intro f r y8_ hRy8_ hr0 hn hf hF
      refine i_iload_n G dX2_findWays_8 rfl ?_
      refine i_aload_n G dX2_findWays_9 rfl ?_
      refine j_getz G F_X2_41 1 rfl rfl (by decide) dX2_findWays_10 ?_
      have b10 : 0 ≤ z 0 0 ∧ z 0 0 ≤ 16 := hR 0 _
      refine i_icmp_ge (tgt := 71) G dX2_findWays_13 (by decide) (by omega) (by omega) (fun h13 => ?_) (fun h13 => ?_)
      · skip
        refine j_retv G hr dX2_findWays_71 ?_
        have hE : y8_ = fwL z 16 65 (z 0 0 - 1).toNat y1 1 := by first | exact hF | rw [← hF, fwL, if_pos h17]
        obtain ⟨k1, k2⟩ := fw_ok (g := 16) (k := 65) hW hR (y := y1) hp1
        exact ⟨rfl, hRy8_, fun k2 hk => by rw [hE, k1 k2 hk]; exact ho1 k2 hk, fun a b a0 a1 b0 b1 => by rw [hE]; exact k2 a b a0 a1 b0 b1⟩
      · skip
        exfalso; omega
    | succ n8 ih8 => 
      intro f r y8_ hRy8_ hr0 hn hf hF
      refine i_iload_n G dX2_findWays_8 rfl ?_
      refine i_aload_n G dX2_findWays_9 rfl ?_
      refine j_getz G F_X2_41 1 rfl rfl (by decide) dX2_findWays_10 ?_
      have b10 : 0 ≤ z 0 0 ∧ z 0 0 ≤ 16 := hR 0 _
      refine i_icmp_ge (tgt := 71) G dX2_findWays_13 (by decide) (by omega) (by omega) (fun h13 => ?_) (fun h13 => ?_)
      · skip
        exfalso; omega
      · skip
        refine i_iload_n G dX2_findWays_16 rfl ?_
        refine i_if_eq (tgt := 71) G dX2_findWays_17 (by decide) (by omega) (fun h17 => ?_) (fun h17 => ?_)
        · skip
          refine j_retv G hr dX2_findWays_71 ?_
          have hE : y8_ = fwL z 16 65 (z 0 0 - 1).toNat y1 1 := by first | exact hF | rw [← hF, fwL, if_pos h17]
          obtain ⟨k1, k2⟩ := fw_ok (g := 16) (k := 65) hW hR (y := y1) hp1
          exact ⟨rfl, hRy8_, fun k2 hk => by rw [hE, k1 k2 hk]; exact ho1 k2 hk, fun a b a0 a1 b0 b1 => by rw [hE]; exact k2 a b a0 a1 b0 b1⟩
        · skip
          refine i_iconst G dX2_findWays_20 ?_
          refine i_istore_n (L' := [some (.ref (ad 1)), some (.ref (ad 10)), some (vi (0)), some (vi (r)), none]) G dX2_findWays_21 (by decide) rfl ?_
          refine i_iconst G dX2_findWays_22 ?_
          refine i_istore (L' := [some (.ref (ad 1)), some (.ref (ad 10)), some (vi (0)), some (vi (r)), some (vi (0))]) G dX2_findWays_23 (by decide) rfl ?_
          have lp25 : ∀ (n25 : Nat) (f2 t : Int) (y25_ : wZ), Rng y25_ → (0 ≤ t) → (t + n25 = z 1 0) → (f2 = 0 ∨ f2 = 1) → (rndL z 16 65 n25 t y25_ = rndL z 16 65 (z 1 0).toNat 0 y8_) → (rndF z 16 65 n25 t y25_ f2 = rndF z 16 65 (z 1 0).toNat 0 y8_ 0) → JW p l e (rmL 1) s m args below meth c 5 D aC ad A shC (MQ below (cQv D aC ad shC (fun z_ y_ => z_ = z ∧ (fun y' => Rng y' ∧ (∀ k', k' ≠ 65 → y' k' = y k') ∧ CIv z y' 16 65) y_) A) args s 0 0 A) 0 0 (zc z y25_) 25 [some (.ref (ad 1)), some (.ref (ad 10)), some (vi (f2)), some (vi (r)), some (vi (t))] [] := by
            intro n25
            induction n25 with
            | zero => 
              intro f2 t y25_ hRy25_ ht hm hf2 hG hH
              refine i_iload G dX2_findWays_25 rfl ?_
              refine i_aload_n G dX2_findWays_27 rfl ?_
              refine j_getz G F_X2_45 1 rfl rfl (by decide) dX2_findWays_28 ?_
              have b28 : 0 ≤ z 1 0 ∧ z 1 0 ≤ 24 := hR 1 _
              refine i_icmp_ge (tgt := 65) G dX2_findWays_31 (by decide) (by omega) (by omega) (fun h31 => ?_) (fun h31 => ?_)
              · skip
                refine i_iinc (L' := [some (.ref (ad 1)), some (.ref (ad 10)), some (vi (f2)), some (vi (r + 1)), some (vi (t))]) G dX2_findWays_65 (by decide) rfl rfl ?_
                refine i_goto (tgt := 8) G dX2_findWays_68 (by decide) ?_
                refine i_forget (L' := [some (.ref (ad 1)), some (.ref (ad 10)), some (vi (f2)), some (vi (r + 1)), none]) ⟨rfl, ⟨rfl, ⟨rfl, ⟨rfl, trivial⟩⟩⟩⟩ ?_
                exact ih8 _ (r + 1) y25_ hRy25_ (by omega) (by omega) hf2 (by rw [← hF, fwL, if_neg h17, ← hG, ← hH]; rfl)
              · skip
                exfalso; omega
            | succ n25 ih25 => 
              intro f2 t y25_ hRy25_ ht hm hf2 hG hH
              refine i_iload G dX2_findWays_25 rfl ?_
              refine i_aload_n G dX2_findWays_27 rfl ?_
              refine j_getz G F_X2_45 1 rfl rfl (by decide) dX2_findWays_28 ?_
              have b28 : 0 ≤ z 1 0 ∧ z 1 0 ≤ 24 := hR 1 _
              refine i_icmp_ge (tgt := 65) G dX2_findWays_31 (by decide) (by omega) (by omega) (fun h31 => ?_) (fun h31 => ?_)
              · skip
                exfalso; omega
              · skip
                refine i_aload_n G dX2_findWays_34 rfl ?_
                refine i_getr G F_X2_52 10 rfl rfl dX2_findWays_35 ?_
                refine i_iload G dX2_findWays_38 rfl ?_
                refine j_zald_z G 11 rfl (by decide) (by decide) (by omega) (by omega) dX2_findWays_40 ?_
                have b40 : 0 ≤ z 16 t ∧ z 16 t ≤ 1 := hR 16 _
                refine i_if_ne (tgt := 59) G dX2_findWays_41 (by decide) (by omega) (fun h41 => ?_) (fun h41 => ?_)
                · skip
                  refine i_iinc (L' := [some (.ref (ad 1)), some (.ref (ad 10)), some (vi (f2)), some (vi (r)), some (vi (t + 1))]) G dX2_findWays_59 (by decide) rfl rfl ?_
                  refine i_goto (tgt := 25) G dX2_findWays_62 (by decide) ?_
                  exact ih25 _ (t + 1) y25_ hRy25_ (by omega) (by omega) (by omega) (by rw [← hG, rndL]; first | rw [if_neg h41] | (rw [if_pos h41]; subst_vars; rfl)) (by rw [← hH, rndF]; first | rw [if_neg h41, if_neg h41] | (rw [if_pos h41, if_pos h41]; subst_vars; first | rw [if_pos h54] | rw [if_neg h54]))
                · skip
                  refine i_aload_n G dX2_findWays_44 rfl ?_
                  refine i_iload G dX2_findWays_45 rfl ?_
                  refine i_aload_n G dX2_findWays_47 rfl ?_
                  refine i_getr G F_X2_73 10 rfl rfl dX2_findWays_48 ?_
                  refine j_callYi (q0 := 1) (As := [vi (t), .ref (ad 12)]) (st := []) G K_X2_76 (c_shortenBy_0 l hd hR hRy25_ t (by omega)) rfl rfl rfl (rm_ok (by decide) (by decide)) ⟨Nat.le_refl _, Nat.le_refl _⟩ (Nat.le_of_ble_eq_true rfl) dX2_findWays_51 (fun r51 y51 q51 => ?_)
                  obtain ⟨ey51, er51, hRy51, br51⟩ := q51
                  refine i_if_eq (tgt := 59) G dX2_findWays_54 (by decide) (by omega) (fun h54 => ?_) (fun h54 => ?_)
                  · skip
                    refine i_iinc (L' := [some (.ref (ad 1)), some (.ref (ad 10)), some (vi (f2)), some (vi (r)), some (vi (t + 1))]) G dX2_findWays_59 (by decide) rfl rfl ?_
                    refine i_goto (tgt := 25) G dX2_findWays_62 (by decide) ?_
                    exact ih25 _ (t + 1) y51 hRy51 (by omega) (by omega) (by omega) (by rw [← hG, rndL]; first | rw [if_neg h41] | (rw [if_pos h41]; subst_vars; rfl)) (by rw [← hH, rndF]; first | rw [if_neg h41, if_neg h41] | (rw [if_pos h41, if_pos h41]; subst_vars; first | rw [if_pos h54] | rw [if_neg h54]))
                  · skip
                    refine i_iconst G dX2_findWays_57 ?_
                    refine i_istore_n (L' := [some (.ref (ad 1)), some (.ref (ad 10)), some (vi (1)), some (vi (r)), some (vi (t))]) G dX2_findWays_58 (by decide) rfl ?_
                    refine i_iinc (L' := [some (.ref (ad 1)), some (.ref (ad 10)), some (vi (1)), some (vi (r)), some (vi (t + 1))]) G dX2_findWays_59 (by decide) rfl rfl ?_
                    refine i_goto (tgt := 25) G dX2_findWays_62 (by decide) ?_
                    exact ih25 _ (t + 1) y51 hRy51 (by omega) (by omega) (by omega) (by rw [← hG, rndL]; first | rw [if_neg h41] | (rw [if_pos h41]; subst_vars; rfl)) (by rw [← hH, rndF]; first | rw [if_neg h41, if_neg h41] | (rw [if_pos h41, if_pos h41]; subst_vars; first | rw [if_pos h54] | rw [if_neg h54]))
          have b25 : 0 ≤ z 1 0 ∧ z 1 0 ≤ 24 := hR 1 0
          exact lp25 (z 1 0).toNat 0 0 y8_ hRy8_ (by omega) (by omega) (Or.inl rfl) rfl rfl
  have b8 : 0 ≤ z 0 0 ∧ z 0 0 ≤ 16 := hR 0 0
  exact lp8 (z 0 0 - 1).toNat 1 1 y1 hRy1 (by omega) (by omega) (Or.inr rfl) rfl
set_option maxHeartbeats 4000000 in
set_option maxRecDepth 100000 in
theorem c_setGone_0 (l : Launch) {D : va_G} {aC : Nat → ClassId} {ad : Nat → Nat} (hd : wDi ad shC) {z y : wZ} (hR : Rng z) (hY : Rng y) (t : Int) (gv : Int) (hW : WT z) (hC : CIv z y 16 65) (ht : 0 ≤ t ∧ t < 24) (hgv : 0 ≤ gv ∧ gv ≤ 1) : cMv l D aC ad shC yX2_setGone cX2_setGone 4 (rmL 2) [.ref (ad 1), .ref (ad 10), vi t, vi gv] z y (fun z' y' => z' = zp z 16 t gv ∧ Rng z' ∧ Rng y' ∧ (∀ k', k' ≠ 65 → y' k' = y k') ∧ CIv z' y' 16 65) := by
  refine c_v [some (.ref (ad 1)), some (.ref (ad 10)), some (vi (t)), some (vi (gv))] (by decide +kernel) rfl (Nat.le_of_ble_eq_true rfl) rfl hd ?_
  intro p e s m args below meth c A G hr
  refine i_aload_n G dX2_setGone_0 rfl ?_
  refine i_getr G F_X2_52 10 rfl rfl dX2_setGone_1 ?_
  refine i_iload_n G dX2_setGone_4 rfl ?_
  refine j_zald_z G 11 rfl (by decide) (by decide) (by omega) (by omega) dX2_setGone_5 ?_
  have b5 : 0 ≤ z 16 t ∧ z 16 t ≤ 1 := hR 16 _
  refine i_iload_n G dX2_setGone_6 rfl ?_
  refine i_icmp_eq (tgt := 22) G dX2_setGone_7 (by decide) (by omega) (by omega) (fun h7 => ?_) (fun h7 => ?_)
  · skip
    refine j_retv G hr dX2_setGone_22 ?_
    first | (exact ⟨ez, hR, hY, ho19, hc19⟩) | (refine ⟨?_, hR, hY, fun _ _ => rfl, hC⟩; rw [← h7, zp_id])
  · skip
    refine i_aload_n G dX2_setGone_10 rfl ?_
    refine i_getr G F_X2_52 10 rfl rfl dX2_setGone_11 ?_
    refine i_iload_n G dX2_setGone_14 rfl ?_
    refine i_iload_n G dX2_setGone_15 rfl ?_
    refine j_zast_z G 11 rfl (by decide) (by decide) (by omega) (by omega) (by omega) (by decide) hR (by show (0 : Int) ≤ _ ∧ _ ≤ (1 : Int); omega) dX2_setGone_16 (fun z16 ez16 hRz16 => ?_)
    have hW2 : WT z16 := by rw [ez16]; exact WT_zp hW _ _ (by decide)
    refine i_aload_n G dX2_setGone_17 rfl ?_
    refine i_aload_n G dX2_setGone_18 rfl ?_
    refine j_callYv (q0 := 1) (As := [.ref (ad 10)]) (st := []) G K_X2_48 (c_findWays_0 l hd hRz16 hY  (by first | assumption | omega)) rfl rfl rfl (rm_ok (by decide) (by decide)) ⟨Nat.le_refl _, Nat.le_refl _⟩ (Nat.le_of_ble_eq_true rfl) dX2_setGone_19 (fun y19 q19 => ?_)
    obtain ⟨hRy19, ho19, hc19⟩ := q19
    refine j_retv G hr dX2_setGone_22 ?_
    first | (exact ⟨ez16, hRz16, hRy19, ho19, hc19⟩) | (refine ⟨?_, hRz16, hRy19, fun _ _ => rfl, hC⟩; rw [← h7, zp_id])
set_option maxHeartbeats 4000000 in
set_option maxRecDepth 100000 in
theorem c_shortenBy_1 (l : Launch) {D : va_G} {aC : Nat → ClassId} {ad : Nat → Nat} (hd : wDi ad shC) {z y : wZ} (hR : Rng z) (hY : Rng y) (t : Int) (ht : 0 ≤ t ∧ t < 24) : cYi l D aC ad shC yX2_shortenBy cX2_shortenBy 9 (.boolean) (rmL 0) [.ref (ad 1), vi t, .ref (ad 9)] z y (fun r y' => y' = rlL z 64 t (z 0 0).toNat 0 y ∧ r = rlF z 64 t (z 0 0).toNat 0 y 0 ∧ Rng y' ∧ (r = 0 ∨ r = 1)) := by
  refine c_i [some (.ref (ad 1)), some (vi (t)), some (.ref (ad 9)), none, none, none, none, none, none] (by decide +kernel) rfl (Nat.le_of_ble_eq_true rfl) rfl hd ?_
  intro p e s m args below meth c A G hr
  refine i_iconst G dX2_shortenBy_0 ?_
  refine i_istore_n (L' := [some (.ref (ad 1)), some (vi (t)), some (.ref (ad 9)), some (vi (0)), none, none, none, none, none]) G dX2_shortenBy_1 (by decide) rfl ?_
  refine i_aload_n G dX2_shortenBy_2 rfl ?_
  refine i_getr G F_X2_15 1 rfl rfl dX2_shortenBy_3 ?_
  refine i_iload_n G dX2_shortenBy_6 rfl ?_
  refine j_iald_z G 3 rfl (by decide) (by decide) (by omega) (by omega) dX2_shortenBy_7 ?_
  have b7 : 0 ≤ z 11 t ∧ z 11 t ≤ 15 := hR 11 _
  refine i_bipush G dX2_shortenBy_8 (by decide) ?_
  refine i_imul G dX2_shortenBy_10 ?_
  refine i_istore (L' := [some (.ref (ad 1)), some (vi (t)), some (.ref (ad 9)), some (vi (0)), some (vi (((z 11 t) * 16))), none, none, none, none]) G dX2_shortenBy_11 (by decide) rfl ?_
  refine i_aload_n G dX2_shortenBy_13 rfl ?_
  refine i_getr G F_X2_19 1 rfl rfl dX2_shortenBy_14 ?_
  refine i_iload_n G dX2_shortenBy_17 rfl ?_
  refine j_iald_z G 4 rfl (by decide) (by decide) (by omega) (by omega) dX2_shortenBy_18 ?_
  have b18 : 0 ≤ z 12 t ∧ z 12 t ≤ 15 := hR 12 _
  refine i_bipush G dX2_shortenBy_19 (by decide) ?_
  refine i_imul G dX2_shortenBy_21 ?_
  refine i_istore (L' := [some (.ref (ad 1)), some (vi (t)), some (.ref (ad 9)), some (vi (0)), some (vi (((z 11 t) * 16))), some (vi (((z 12 t) * 16))), none, none, none]) G dX2_shortenBy_22 (by decide) rfl ?_
  refine i_iconst G dX2_shortenBy_24 ?_
  refine i_istore (L' := [some (.ref (ad 1)), some (vi (t)), some (.ref (ad 9)), some (vi (0)), some (vi (((z 11 t) * 16))), some (vi (((z 12 t) * 16))), some (vi (0)), none, none]) G dX2_shortenBy_25 (by decide) rfl ?_
  refine i_forget (L' := [some (.ref (ad 1)), some (vi (t)), some (.ref (ad 9)), some (vi (0)), some (vi (((z 11 t) * 16))), some (vi (((z 12 t) * 16))), some (vi (0)), none, none]) ⟨rfl, ⟨rfl, ⟨rfl, ⟨rfl, ⟨rfl, ⟨rfl, ⟨rfl, trivial⟩⟩⟩⟩⟩⟩⟩ ?_
  have lp27 : ∀ (n27 : Nat) (acc j : Int) (y27_ : wZ), Rng y27_ → (0 ≤ j) → (j + n27 = z 0 0) → (rlL z 64 t n27 j y27_ = rlL z 64 t (z 0 0).toNat 0 y) → (rlF z 64 t n27 j y27_ acc = rlF z 64 t (z 0 0).toNat 0 y 0) → (acc = 0 ∨ acc = 1) → JW p l e (rmL 0) s m args below meth c 9 D aC ad A shC (MQ below (cQi D aC ad shC (fun r_ z_ y_ => z_ = z ∧ (fun r y' => y' = rlL z 64 t (z 0 0).toNat 0 y ∧ r = rlF z 64 t (z 0 0).toNat 0 y 0 ∧ Rng y' ∧ (r = 0 ∨ r = 1)) r_ y_) A) args s 0 0 A) 0 0 (zc z y27_) 27 [some (.ref (ad 1)), some (vi (t)), some (.ref (ad 9)), some (vi (acc)), some (vi (((z 11 t) * 16))), some (vi (((z 12 t) * 16))), some (vi (j)), none, none] [] := by
    intro n27
    induction n27 with
    | zero => 
      intro acc j y27_ hRy27_ hj hn hF hG ha
      refine i_iload G dX2_shortenBy_27 rfl ?_
      refine i_aload_n G dX2_shortenBy_29 rfl ?_
      refine j_getz G F_X2_41 1 rfl rfl (by decide) dX2_shortenBy_30 ?_
      have b30 : 0 ≤ z 0 0 ∧ z 0 0 ≤ 16 := hR 0 _
      refine i_icmp_ge (tgt := 120) G dX2_shortenBy_33 (by decide) (by omega) (by omega) (fun h33 => ?_) (fun h33 => ?_)
      · skip
        refine i_iload_n G dX2_shortenBy_120 rfl ?_
        refine j_retz G hr (by omega) dX2_shortenBy_121 ?_
        exact ⟨rfl, hF, hG, hRy27_, ha⟩
      · skip
        exfalso; omega
    | succ n27 ih27 => 
      intro acc j y27_ hRy27_ hj hn hF hG ha
      refine i_iload G dX2_shortenBy_27 rfl ?_
      refine i_aload_n G dX2_shortenBy_29 rfl ?_
      refine j_getz G F_X2_41 1 rfl rfl (by decide) dX2_shortenBy_30 ?_
      have b30 : 0 ≤ z 0 0 ∧ z 0 0 ≤ 16 := hR 0 _
      refine i_icmp_ge (tgt := 120) G dX2_shortenBy_33 (by decide) (by omega) (by omega) (fun h33 => ?_) (fun h33 => ?_)
      · skip
        exfalso; omega
      · skip
        refine i_aload_n G dX2_shortenBy_36 rfl ?_
        refine i_getr G F_X2_22 1 rfl rfl dX2_shortenBy_37 ?_
        refine i_iload_n G dX2_shortenBy_40 rfl ?_
        refine j_iald_z G 5 rfl (by decide) (by decide) (by omega) (by omega) dX2_shortenBy_41 ?_
        have b41 : 0 ≤ z 13 t ∧ z 13 t ≤ 300 := hR 13 _
        refine i_aload_n G dX2_shortenBy_42 rfl ?_
        refine i_iload G dX2_shortenBy_43 rfl ?_
        refine i_iload G dX2_shortenBy_45 rfl ?_
        refine i_iadd G dX2_shortenBy_47 ?_
        refine j_iald_y G 9 rfl (by decide) (by decide) (by omega) (by omega) dX2_shortenBy_48 ?_
        have b48 : 0 ≤ y27_ 64 (((z 12 t) * 16) + j) ∧ y27_ 64 (((z 12 t) * 16) + j) ≤ 1000000 := hRy27_ 64 _
        refine i_iadd G dX2_shortenBy_49 ?_
        refine i_istore (L' := [some (.ref (ad 1)), some (vi (t)), some (.ref (ad 9)), some (vi (acc)), some (vi (((z 11 t) * 16))), some (vi (((z 12 t) * 16))), some (vi (j)), some (vi (((z 13 t) + (y27_ 64 (((z 12 t) * 16) + j))))), none]) G dX2_shortenBy_50 (by decide) rfl ?_
        refine i_iload G dX2_shortenBy_52 rfl ?_
        refine i_aload_n G dX2_shortenBy_54 rfl ?_
        refine i_iload G dX2_shortenBy_55 rfl ?_
        refine i_iload G dX2_shortenBy_57 rfl ?_
        refine i_iadd G dX2_shortenBy_59 ?_
        refine j_iald_y G 9 rfl (by decide) (by decide) (by omega) (by omega) dX2_shortenBy_60 ?_
        have b60 : 0 ≤ y27_ 64 (((z 11 t) * 16) + j) ∧ y27_ 64 (((z 11 t) * 16) + j) ≤ 1000000 := hRy27_ 64 _
        refine i_icmp_ge (tgt := 75) G dX2_shortenBy_61 (by decide) (by omega) (by omega) (fun h61 => ?_) (fun h61 => ?_)
        · skip
          refine i_aload_n G dX2_shortenBy_75 rfl ?_
          refine i_getr G F_X2_25 1 rfl rfl dX2_shortenBy_76 ?_
          refine i_iload_n G dX2_shortenBy_79 rfl ?_
          refine j_iald_z G 6 rfl (by decide) (by decide) (by omega) (by omega) dX2_shortenBy_80 ?_
          have b80 : 0 ≤ z 14 t ∧ z 14 t ≤ 300 := hR 14 _
          refine i_aload_n G dX2_shortenBy_81 rfl ?_
          refine i_iload G dX2_shortenBy_82 rfl ?_
          refine i_iload G dX2_shortenBy_84 rfl ?_
          refine i_iadd G dX2_shortenBy_86 ?_
          refine j_iald_y G 9 rfl (by decide) (by decide) (by omega) (by omega) dX2_shortenBy_87 ?_
          have b87 : 0 ≤ y27_ 64 (((z 11 t) * 16) + j) ∧ y27_ 64 (((z 11 t) * 16) + j) ≤ 1000000 := hRy27_ 64 _
          refine i_iadd G dX2_shortenBy_88 ?_
          refine i_istore (L' := [some (.ref (ad 1)), some (vi (t)), some (.ref (ad 9)), some (vi (acc)), some (vi (((z 11 t) * 16))), some (vi (((z 12 t) * 16))), some (vi (j)), some (vi (((z 13 t) + (y27_ 64 (((z 12 t) * 16) + j))))), some (vi (((z 14 t) + (y27_ 64 (((z 11 t) * 16) + j)))))]) G dX2_shortenBy_89 (by decide) rfl ?_
          refine i_iload G dX2_shortenBy_91 rfl ?_
          refine i_aload_n G dX2_shortenBy_93 rfl ?_
          refine i_iload G dX2_shortenBy_94 rfl ?_
          refine i_iload G dX2_shortenBy_96 rfl ?_
          refine i_iadd G dX2_shortenBy_98 ?_
          refine j_iald_y G 9 rfl (by decide) (by decide) (by omega) (by omega) dX2_shortenBy_99 ?_
          have b99 : 0 ≤ y27_ 64 (((z 12 t) * 16) + j) ∧ y27_ 64 (((z 12 t) * 16) + j) ≤ 1000000 := hRy27_ 64 _
          refine i_icmp_ge (tgt := 114) G dX2_shortenBy_100 (by decide) (by omega) (by omega) (fun h100 => ?_) (fun h100 => ?_)
          · skip
            refine i_iinc (L' := [some (.ref (ad 1)), some (vi (t)), some (.ref (ad 9)), some (vi (acc)), some (vi (((z 11 t) * 16))), some (vi (((z 12 t) * 16))), some (vi (j + 1)), some (vi (((z 13 t) + (y27_ 64 (((z 12 t) * 16) + j))))), some (vi (((z 14 t) + (y27_ 64 (((z 11 t) * 16) + j)))))]) G dX2_shortenBy_114 (by decide) rfl rfl ?_
            refine i_goto (tgt := 27) G dX2_shortenBy_117 (by decide) ?_
            refine i_forget (L' := [some (.ref (ad 1)), some (vi (t)), some (.ref (ad 9)), some (vi (acc)), some (vi (((z 11 t) * 16))), some (vi (((z 12 t) * 16))), some (vi (j + 1)), none, none]) ⟨rfl, ⟨rfl, ⟨rfl, ⟨rfl, ⟨rfl, ⟨rfl, ⟨rfl, trivial⟩⟩⟩⟩⟩⟩⟩ ?_
            have e1 : rlB z 64 t j (rlA z 64 t j y27_) = y27_ := by
              subst_vars
              first | rw [rlA, if_pos (by omega)] | rw [rlA, if_neg (by omega)]
              first | rw [rlB, if_pos (by omega)] | rw [rlB, if_neg (by omega)]
            have e2 : chF z 64 t j y27_ acc = acc := by
              subst_vars
              first | rw [chF, if_pos (by omega)] | (rw [chF, if_neg (by omega)]; first | rw [if_pos (by omega)] | rw [if_neg (by omega)])
            exact ih27 _ (j + 1) y27_ hRy27_ (by omega) (by omega) (by rw [← hF, rlL, e1]) (by rw [← hG, rlF, e1, e2]) (by omega)
          · skip
            refine i_aload_n G dX2_shortenBy_103 rfl ?_
            refine i_iload G dX2_shortenBy_104 rfl ?_
            refine i_iload G dX2_shortenBy_106 rfl ?_
            refine i_iadd G dX2_shortenBy_108 ?_
            refine i_iload G dX2_shortenBy_109 rfl ?_
            refine j_iast_y G 9 rfl (by decide) (by decide) (by omega) (by omega) (by decide) hRy27_ (by show (0 : Int) ≤ _ ∧ _ ≤ (1000000 : Int); omega) dX2_shortenBy_111 (fun y111 ey111 hRy111 => ?_)
            refine i_iconst G dX2_shortenBy_112 ?_
            refine i_istore_n (L' := [some (.ref (ad 1)), some (vi (t)), some (.ref (ad 9)), some (vi (1)), some (vi (((z 11 t) * 16))), some (vi (((z 12 t) * 16))), some (vi (j)), some (vi (((z 13 t) + (y27_ 64 (((z 12 t) * 16) + j))))), some (vi (((z 14 t) + (y27_ 64 (((z 11 t) * 16) + j)))))]) G dX2_shortenBy_113 (by decide) rfl ?_
            refine i_iinc (L' := [some (.ref (ad 1)), some (vi (t)), some (.ref (ad 9)), some (vi (1)), some (vi (((z 11 t) * 16))), some (vi (((z 12 t) * 16))), some (vi (j + 1)), some (vi (((z 13 t) + (y27_ 64 (((z 12 t) * 16) + j))))), some (vi (((z 14 t) + (y27_ 64 (((z 11 t) * 16) + j)))))]) G dX2_shortenBy_114 (by decide) rfl rfl ?_
            refine i_goto (tgt := 27) G dX2_shortenBy_117 (by decide) ?_
            refine i_forget (L' := [some (.ref (ad 1)), some (vi (t)), some (.ref (ad 9)), some (vi (1)), some (vi (((z 11 t) * 16))), some (vi (((z 12 t) * 16))), some (vi (j + 1)), none, none]) ⟨rfl, ⟨rfl, ⟨rfl, ⟨rfl, ⟨rfl, ⟨rfl, ⟨rfl, trivial⟩⟩⟩⟩⟩⟩⟩ ?_
            have e1 : rlB z 64 t j (rlA z 64 t j y27_) = y111 := by
              subst_vars
              first | rw [rlA, if_pos (by omega)] | rw [rlA, if_neg (by omega)]
              first | rw [rlB, if_pos (by omega)] | rw [rlB, if_neg (by omega)]
            have e2 : chF z 64 t j y27_ acc = 1 := by
              subst_vars
              first | rw [chF, if_pos (by omega)] | (rw [chF, if_neg (by omega)]; first | rw [if_pos (by omega)] | rw [if_neg (by omega)])
            exact ih27 _ (j + 1) y111 hRy111 (by omega) (by omega) (by rw [← hF, rlL, e1]) (by rw [← hG, rlF, e1, e2]) (by omega)
        · skip
          refine i_aload_n G dX2_shortenBy_64 rfl ?_
          refine i_iload G dX2_shortenBy_65 rfl ?_
          refine i_iload G dX2_shortenBy_67 rfl ?_
          refine i_iadd G dX2_shortenBy_69 ?_
          refine i_iload G dX2_shortenBy_70 rfl ?_
          refine j_iast_y G 9 rfl (by decide) (by decide) (by omega) (by omega) (by decide) hRy27_ (by show (0 : Int) ≤ _ ∧ _ ≤ (1000000 : Int); omega) dX2_shortenBy_72 (fun y72 ey72 hRy72 => ?_)
          refine i_iconst G dX2_shortenBy_73 ?_
          refine i_istore_n (L' := [some (.ref (ad 1)), some (vi (t)), some (.ref (ad 9)), some (vi (1)), some (vi (((z 11 t) * 16))), some (vi (((z 12 t) * 16))), some (vi (j)), some (vi (((z 13 t) + (y27_ 64 (((z 12 t) * 16) + j))))), none]) G dX2_shortenBy_74 (by decide) rfl ?_
          refine i_aload_n G dX2_shortenBy_75 rfl ?_
          refine i_getr G F_X2_25 1 rfl rfl dX2_shortenBy_76 ?_
          refine i_iload_n G dX2_shortenBy_79 rfl ?_
          refine j_iald_z G 6 rfl (by decide) (by decide) (by omega) (by omega) dX2_shortenBy_80 ?_
          have b80 : 0 ≤ z 14 t ∧ z 14 t ≤ 300 := hR 14 _
          refine i_aload_n G dX2_shortenBy_81 rfl ?_
          refine i_iload G dX2_shortenBy_82 rfl ?_
          refine i_iload G dX2_shortenBy_84 rfl ?_
          refine i_iadd G dX2_shortenBy_86 ?_
          refine j_iald_y G 9 rfl (by decide) (by decide) (by omega) (by omega) dX2_shortenBy_87 ?_
          have b87 : 0 ≤ y72 64 (((z 11 t) * 16) + j) ∧ y72 64 (((z 11 t) * 16) + j) ≤ 1000000 := hRy72 64 _
          refine i_iadd G dX2_shortenBy_88 ?_
          refine i_istore (L' := [some (.ref (ad 1)), some (vi (t)), some (.ref (ad 9)), some (vi (1)), some (vi (((z 11 t) * 16))), some (vi (((z 12 t) * 16))), some (vi (j)), some (vi (((z 13 t) + (y27_ 64 (((z 12 t) * 16) + j))))), some (vi (((z 14 t) + (y72 64 (((z 11 t) * 16) + j)))))]) G dX2_shortenBy_89 (by decide) rfl ?_
          refine i_iload G dX2_shortenBy_91 rfl ?_
          refine i_aload_n G dX2_shortenBy_93 rfl ?_
          refine i_iload G dX2_shortenBy_94 rfl ?_
          refine i_iload G dX2_shortenBy_96 rfl ?_
          refine i_iadd G dX2_shortenBy_98 ?_
          refine j_iald_y G 9 rfl (by decide) (by decide) (by omega) (by omega) dX2_shortenBy_99 ?_
          have b99 : 0 ≤ y72 64 (((z 12 t) * 16) + j) ∧ y72 64 (((z 12 t) * 16) + j) ≤ 1000000 := hRy72 64 _
          refine i_icmp_ge (tgt := 114) G dX2_shortenBy_100 (by decide) (by omega) (by omega) (fun h100 => ?_) (fun h100 => ?_)
          · skip
            refine i_iinc (L' := [some (.ref (ad 1)), some (vi (t)), some (.ref (ad 9)), some (vi (1)), some (vi (((z 11 t) * 16))), some (vi (((z 12 t) * 16))), some (vi (j + 1)), some (vi (((z 13 t) + (y27_ 64 (((z 12 t) * 16) + j))))), some (vi (((z 14 t) + (y72 64 (((z 11 t) * 16) + j)))))]) G dX2_shortenBy_114 (by decide) rfl rfl ?_
            refine i_goto (tgt := 27) G dX2_shortenBy_117 (by decide) ?_
            refine i_forget (L' := [some (.ref (ad 1)), some (vi (t)), some (.ref (ad 9)), some (vi (1)), some (vi (((z 11 t) * 16))), some (vi (((z 12 t) * 16))), some (vi (j + 1)), none, none]) ⟨rfl, ⟨rfl, ⟨rfl, ⟨rfl, ⟨rfl, ⟨rfl, ⟨rfl, trivial⟩⟩⟩⟩⟩⟩⟩ ?_
            have e1 : rlB z 64 t j (rlA z 64 t j y27_) = y72 := by
              subst_vars
              first | rw [rlA, if_pos (by omega)] | rw [rlA, if_neg (by omega)]
              first | rw [rlB, if_pos (by omega)] | rw [rlB, if_neg (by omega)]
            have e2 : chF z 64 t j y27_ acc = 1 := by
              subst_vars
              first | rw [chF, if_pos (by omega)] | (rw [chF, if_neg (by omega)]; first | rw [if_pos (by omega)] | rw [if_neg (by omega)])
            exact ih27 _ (j + 1) y72 hRy72 (by omega) (by omega) (by rw [← hF, rlL, e1]) (by rw [← hG, rlF, e1, e2]) (by omega)
          · skip
            refine i_aload_n G dX2_shortenBy_103 rfl ?_
            refine i_iload G dX2_shortenBy_104 rfl ?_
            refine i_iload G dX2_shortenBy_106 rfl ?_
            refine i_iadd G dX2_shortenBy_108 ?_
            refine i_iload G dX2_shortenBy_109 rfl ?_
            refine j_iast_y G 9 rfl (by decide) (by decide) (by omega) (by omega) (by decide) hRy72 (by show (0 : Int) ≤ _ ∧ _ ≤ (1000000 : Int); omega) dX2_shortenBy_111 (fun y111 ey111 hRy111 => ?_)
            refine i_iconst G dX2_shortenBy_112 ?_
            refine i_istore_n (L' := [some (.ref (ad 1)), some (vi (t)), some (.ref (ad 9)), some (vi (1)), some (vi (((z 11 t) * 16))), some (vi (((z 12 t) * 16))), some (vi (j)), some (vi (((z 13 t) + (y27_ 64 (((z 12 t) * 16) + j))))), some (vi (((z 14 t) + (y72 64 (((z 11 t) * 16) + j)))))]) G dX2_shortenBy_113 (by decide) rfl ?_
            refine i_iinc (L' := [some (.ref (ad 1)), some (vi (t)), some (.ref (ad 9)), some (vi (1)), some (vi (((z 11 t) * 16))), some (vi (((z 12 t) * 16))), some (vi (j + 1)), some (vi (((z 13 t) + (y27_ 64 (((z 12 t) * 16) + j))))), some (vi (((z 14 t) + (y72 64 (((z 11 t) * 16) + j)))))]) G dX2_shortenBy_114 (by decide) rfl rfl ?_
            refine i_goto (tgt := 27) G dX2_shortenBy_117 (by decide) ?_
            refine i_forget (L' := [some (.ref (ad 1)), some (vi (t)), some (.ref (ad 9)), some (vi (1)), some (vi (((z 11 t) * 16))), some (vi (((z 12 t) * 16))), some (vi (j + 1)), none, none]) ⟨rfl, ⟨rfl, ⟨rfl, ⟨rfl, ⟨rfl, ⟨rfl, ⟨rfl, trivial⟩⟩⟩⟩⟩⟩⟩ ?_
            have e1 : rlB z 64 t j (rlA z 64 t j y27_) = y111 := by
              subst_vars
              first | rw [rlA, if_pos (by omega)] | rw [rlA, if_neg (by omega)]
              first | rw [rlB, if_pos (by omega)] | rw [rlB, if_neg (by omega)]
            have e2 : chF z 64 t j y27_ acc = 1 := by
              subst_vars
              first | rw [chF, if_pos (by omega)] | (rw [chF, if_neg (by omega)]; first | rw [if_pos (by omega)] | rw [if_neg (by omega)])
            exact ih27 _ (j + 1) y111 hRy111 (by omega) (by omega) (by rw [← hF, rlL, e1]) (by rw [← hG, rlF, e1, e2]) (by omega)
  have b27 : 0 ≤ z 0 0 ∧ z 0 0 ≤ 16 := hR 0 0
  exact lp27 (z 0 0).toNat 0 0 y hY (by omega) (by omega) rfl rfl (Or.inl rfl)
set_option maxHeartbeats 4000000 in
set_option maxRecDepth 100000 in
theorem c_findWays_1 (l : Launch) {D : va_G} {aC : Nat → ClassId} {ad : Nat → Nat} (hd : wDi ad shC) {z y : wZ} (hR : Rng z) (hY : Rng y)  (hW : WT z) : cYv l D aC ad shC yX2_findWays cX2_findWays 5 (rmL 1) [.ref (ad 1), .ref (ad 7)] z y (fun y' => Rng y' ∧ (∀ k', k' ≠ 64 → y' k' = y k') ∧ CIv z y' 15 64) := by
  refine c_v [some (.ref (ad 1)), some (.ref (ad 7)), none, none, none] (by decide +kernel) rfl (Nat.le_of_ble_eq_true rfl) rfl hd ?_
  intro p e s m args below meth c A G hr
  refine i_aload_n G dX2_findWays_0 rfl ?_
  refine j_callYv (q0 := 7) (As := []) (st := []) G K_X2_70 (c_forgetWays_1 l hd hR hY  ) rfl rfl rfl (rm_ok (by decide) (by decide)) ⟨Nat.le_refl _, Nat.le_refl _⟩ (Nat.le_of_ble_eq_true rfl) dX2_findWays_1 (fun y1 q1 => ?_)
  obtain ⟨hRy1, ho1, hp1⟩ := q1
  refine i_iconst G dX2_findWays_4 ?_
  refine i_istore_n (L' := [some (.ref (ad 1)), some (.ref (ad 7)), some (vi (1)), none, none]) G dX2_findWays_5 (by decide) rfl ?_
  refine i_iconst G dX2_findWays_6 ?_
  refine i_istore_n (L' := [some (.ref (ad 1)), some (.ref (ad 7)), some (vi (1)), some (vi (1)), none]) G dX2_findWays_7 (by decide) rfl ?_
  refine i_forget (L' := [some (.ref (ad 1)), some (.ref (ad 7)), some (vi (1)), some (vi (1)), none]) ⟨rfl, ⟨rfl, ⟨rfl, ⟨rfl, trivial⟩⟩⟩⟩ ?_
  have lp8 : ∀ (n8 : Nat) (f r : Int) (y8_ : wZ), Rng y8_ → (1 ≤ r ∧ r ≤ 17) → (r + n8 = z 0 0 ∨ (n8 = 0 ∧ z 0 0 ≤ r)) → (f = 0 ∨ f = 1) → (fwL z 15 64 n8 y8_ f = fwL z 15 64 (z 0 0 - 1).toNat y1 1) → JW p l e (rmL 1) s m args below meth c 5 D aC ad A shC (MQ below (cQv D aC ad shC (fun z_ y_ => z_ = z ∧ (fun y' => Rng y' ∧ (∀ k', k' ≠ 64 → y' k' = y k') ∧ CIv z y' 15 64) y_) A) args s 0 0 A) 0 0 (zc z y8_) 8 [some (.ref (ad 1)), some (.ref (ad 7)), some (vi (f)), some (vi (r)), none] [] := by
    intro n8
    induction n8 with
    | zero => 
      intro f r y8_ hRy8_ hr0 hn hf hF
      refine i_iload_n G dX2_findWays_8 rfl ?_
      refine i_aload_n G dX2_findWays_9 rfl ?_
      refine j_getz G F_X2_41 1 rfl rfl (by decide) dX2_findWays_10 ?_
      have b10 : 0 ≤ z 0 0 ∧ z 0 0 ≤ 16 := hR 0 _
      refine i_icmp_ge (tgt := 71) G dX2_findWays_13 (by decide) (by omega) (by omega) (fun h13 => ?_) (fun h13 => ?_)
      · skip
        refine j_retv G hr dX2_findWays_71 ?_
        have hE : y8_ = fwL z 15 64 (z 0 0 - 1).toNat y1 1 := by first | exact hF | rw [← hF, fwL, if_pos h17]
        obtain ⟨k1, k2⟩ := fw_ok (g := 15) (k := 64) hW hR (y := y1) hp1
        exact ⟨rfl, hRy8_, fun k2 hk => by rw [hE, k1 k2 hk]; exact ho1 k2 hk, fun a b a0 a1 b0 b1 => by rw [hE]; exact k2 a b a0 a1 b0 b1⟩
      · skip
        exfalso; omega
    | succ n8 ih8 => 
      intro f r y8_ hRy8_ hr0 hn hf hF
      refine i_iload_n G dX2_findWays_8 rfl ?_
      refine i_aload_n G dX2_findWays_9 rfl ?_
      refine j_getz G F_X2_41 1 rfl rfl (by decide) dX2_findWays_10 ?_
      have b10 : 0 ≤ z 0 0 ∧ z 0 0 ≤ 16 := hR 0 _
      refine i_icmp_ge (tgt := 71) G dX2_findWays_13 (by decide) (by omega) (by omega) (fun h13 => ?_) (fun h13 => ?_)
      · skip
        exfalso; omega
      · skip
        refine i_iload_n G dX2_findWays_16 rfl ?_
        refine i_if_eq (tgt := 71) G dX2_findWays_17 (by decide) (by omega) (fun h17 => ?_) (fun h17 => ?_)
        · skip
          refine j_retv G hr dX2_findWays_71 ?_
          have hE : y8_ = fwL z 15 64 (z 0 0 - 1).toNat y1 1 := by first | exact hF | rw [← hF, fwL, if_pos h17]
          obtain ⟨k1, k2⟩ := fw_ok (g := 15) (k := 64) hW hR (y := y1) hp1
          exact ⟨rfl, hRy8_, fun k2 hk => by rw [hE, k1 k2 hk]; exact ho1 k2 hk, fun a b a0 a1 b0 b1 => by rw [hE]; exact k2 a b a0 a1 b0 b1⟩
        · skip
          refine i_iconst G dX2_findWays_20 ?_
          refine i_istore_n (L' := [some (.ref (ad 1)), some (.ref (ad 7)), some (vi (0)), some (vi (r)), none]) G dX2_findWays_21 (by decide) rfl ?_
          refine i_iconst G dX2_findWays_22 ?_
          refine i_istore (L' := [some (.ref (ad 1)), some (.ref (ad 7)), some (vi (0)), some (vi (r)), some (vi (0))]) G dX2_findWays_23 (by decide) rfl ?_
          have lp25 : ∀ (n25 : Nat) (f2 t : Int) (y25_ : wZ), Rng y25_ → (0 ≤ t) → (t + n25 = z 1 0) → (f2 = 0 ∨ f2 = 1) → (rndL z 15 64 n25 t y25_ = rndL z 15 64 (z 1 0).toNat 0 y8_) → (rndF z 15 64 n25 t y25_ f2 = rndF z 15 64 (z 1 0).toNat 0 y8_ 0) → JW p l e (rmL 1) s m args below meth c 5 D aC ad A shC (MQ below (cQv D aC ad shC (fun z_ y_ => z_ = z ∧ (fun y' => Rng y' ∧ (∀ k', k' ≠ 64 → y' k' = y k') ∧ CIv z y' 15 64) y_) A) args s 0 0 A) 0 0 (zc z y25_) 25 [some (.ref (ad 1)), some (.ref (ad 7)), some (vi (f2)), some (vi (r)), some (vi (t))] [] := by
            intro n25
            induction n25 with
            | zero => 
              intro f2 t y25_ hRy25_ ht hm hf2 hG hH
              refine i_iload G dX2_findWays_25 rfl ?_
              refine i_aload_n G dX2_findWays_27 rfl ?_
              refine j_getz G F_X2_45 1 rfl rfl (by decide) dX2_findWays_28 ?_
              have b28 : 0 ≤ z 1 0 ∧ z 1 0 ≤ 24 := hR 1 _
              refine i_icmp_ge (tgt := 65) G dX2_findWays_31 (by decide) (by omega) (by omega) (fun h31 => ?_) (fun h31 => ?_)
              · skip
                refine i_iinc (L' := [some (.ref (ad 1)), some (.ref (ad 7)), some (vi (f2)), some (vi (r + 1)), some (vi (t))]) G dX2_findWays_65 (by decide) rfl rfl ?_
                refine i_goto (tgt := 8) G dX2_findWays_68 (by decide) ?_
                refine i_forget (L' := [some (.ref (ad 1)), some (.ref (ad 7)), some (vi (f2)), some (vi (r + 1)), none]) ⟨rfl, ⟨rfl, ⟨rfl, ⟨rfl, trivial⟩⟩⟩⟩ ?_
                exact ih8 _ (r + 1) y25_ hRy25_ (by omega) (by omega) hf2 (by rw [← hF, fwL, if_neg h17, ← hG, ← hH]; rfl)
              · skip
                exfalso; omega
            | succ n25 ih25 => 
              intro f2 t y25_ hRy25_ ht hm hf2 hG hH
              refine i_iload G dX2_findWays_25 rfl ?_
              refine i_aload_n G dX2_findWays_27 rfl ?_
              refine j_getz G F_X2_45 1 rfl rfl (by decide) dX2_findWays_28 ?_
              have b28 : 0 ≤ z 1 0 ∧ z 1 0 ≤ 24 := hR 1 _
              refine i_icmp_ge (tgt := 65) G dX2_findWays_31 (by decide) (by omega) (by omega) (fun h31 => ?_) (fun h31 => ?_)
              · skip
                exfalso; omega
              · skip
                refine i_aload_n G dX2_findWays_34 rfl ?_
                refine i_getr G F_X2_52 7 rfl rfl dX2_findWays_35 ?_
                refine i_iload G dX2_findWays_38 rfl ?_
                refine j_zald_z G 8 rfl (by decide) (by decide) (by omega) (by omega) dX2_findWays_40 ?_
                have b40 : 0 ≤ z 15 t ∧ z 15 t ≤ 1 := hR 15 _
                refine i_if_ne (tgt := 59) G dX2_findWays_41 (by decide) (by omega) (fun h41 => ?_) (fun h41 => ?_)
                · skip
                  refine i_iinc (L' := [some (.ref (ad 1)), some (.ref (ad 7)), some (vi (f2)), some (vi (r)), some (vi (t + 1))]) G dX2_findWays_59 (by decide) rfl rfl ?_
                  refine i_goto (tgt := 25) G dX2_findWays_62 (by decide) ?_
                  exact ih25 _ (t + 1) y25_ hRy25_ (by omega) (by omega) (by omega) (by rw [← hG, rndL]; first | rw [if_neg h41] | (rw [if_pos h41]; subst_vars; rfl)) (by rw [← hH, rndF]; first | rw [if_neg h41, if_neg h41] | (rw [if_pos h41, if_pos h41]; subst_vars; first | rw [if_pos h54] | rw [if_neg h54]))
                · skip
                  refine i_aload_n G dX2_findWays_44 rfl ?_
                  refine i_iload G dX2_findWays_45 rfl ?_
                  refine i_aload_n G dX2_findWays_47 rfl ?_
                  refine i_getr G F_X2_73 7 rfl rfl dX2_findWays_48 ?_
                  refine j_callYi (q0 := 1) (As := [vi (t), .ref (ad 9)]) (st := []) G K_X2_76 (c_shortenBy_1 l hd hR hRy25_ t (by omega)) rfl rfl rfl (rm_ok (by decide) (by decide)) ⟨Nat.le_refl _, Nat.le_refl _⟩ (Nat.le_of_ble_eq_true rfl) dX2_findWays_51 (fun r51 y51 q51 => ?_)
                  obtain ⟨ey51, er51, hRy51, br51⟩ := q51
                  refine i_if_eq (tgt := 59) G dX2_findWays_54 (by decide) (by omega) (fun h54 => ?_) (fun h54 => ?_)
                  · skip
                    refine i_iinc (L' := [some (.ref (ad 1)), some (.ref (ad 7)), some (vi (f2)), some (vi (r)), some (vi (t + 1))]) G dX2_findWays_59 (by decide) rfl rfl ?_
                    refine i_goto (tgt := 25) G dX2_findWays_62 (by decide) ?_
                    exact ih25 _ (t + 1) y51 hRy51 (by omega) (by omega) (by omega) (by rw [← hG, rndL]; first | rw [if_neg h41] | (rw [if_pos h41]; subst_vars; rfl)) (by rw [← hH, rndF]; first | rw [if_neg h41, if_neg h41] | (rw [if_pos h41, if_pos h41]; subst_vars; first | rw [if_pos h54] | rw [if_neg h54]))
                  · skip
                    refine i_iconst G dX2_findWays_57 ?_
                    refine i_istore_n (L' := [some (.ref (ad 1)), some (.ref (ad 7)), some (vi (1)), some (vi (r)), some (vi (t))]) G dX2_findWays_58 (by decide) rfl ?_
                    refine i_iinc (L' := [some (.ref (ad 1)), some (.ref (ad 7)), some (vi (1)), some (vi (r)), some (vi (t + 1))]) G dX2_findWays_59 (by decide) rfl rfl ?_
                    refine i_goto (tgt := 25) G dX2_findWays_62 (by decide) ?_
                    exact ih25 _ (t + 1) y51 hRy51 (by omega) (by omega) (by omega) (by rw [← hG, rndL]; first | rw [if_neg h41] | (rw [if_pos h41]; subst_vars; rfl)) (by rw [← hH, rndF]; first | rw [if_neg h41, if_neg h41] | (rw [if_pos h41, if_pos h41]; subst_vars; first | rw [if_pos h54] | rw [if_neg h54]))
          have b25 : 0 ≤ z 1 0 ∧ z 1 0 ≤ 24 := hR 1 0
          exact lp25 (z 1 0).toNat 0 0 y8_ hRy8_ (by omega) (by omega) (Or.inl rfl) rfl rfl
  have b8 : 0 ≤ z 0 0 ∧ z 0 0 ≤ 16 := hR 0 0
  exact lp8 (z 0 0 - 1).toNat 1 1 y1 hRy1 (by omega) (by omega) (Or.inr rfl) rfl
set_option maxHeartbeats 4000000 in
set_option maxRecDepth 100000 in
theorem c_setGone_1 (l : Launch) {D : va_G} {aC : Nat → ClassId} {ad : Nat → Nat} (hd : wDi ad shC) {z y : wZ} (hR : Rng z) (hY : Rng y) (t : Int) (gv : Int) (hW : WT z) (hC : CIv z y 15 64) (ht : 0 ≤ t ∧ t < 24) (hgv : 0 ≤ gv ∧ gv ≤ 1) : cMv l D aC ad shC yX2_setGone cX2_setGone 4 (rmL 2) [.ref (ad 1), .ref (ad 7), vi t, vi gv] z y (fun z' y' => z' = zp z 15 t gv ∧ Rng z' ∧ Rng y' ∧ (∀ k', k' ≠ 64 → y' k' = y k') ∧ CIv z' y' 15 64) := by
  refine c_v [some (.ref (ad 1)), some (.ref (ad 7)), some (vi (t)), some (vi (gv))] (by decide +kernel) rfl (Nat.le_of_ble_eq_true rfl) rfl hd ?_
  intro p e s m args below meth c A G hr
  refine i_aload_n G dX2_setGone_0 rfl ?_
  refine i_getr G F_X2_52 7 rfl rfl dX2_setGone_1 ?_
  refine i_iload_n G dX2_setGone_4 rfl ?_
  refine j_zald_z G 8 rfl (by decide) (by decide) (by omega) (by omega) dX2_setGone_5 ?_
  have b5 : 0 ≤ z 15 t ∧ z 15 t ≤ 1 := hR 15 _
  refine i_iload_n G dX2_setGone_6 rfl ?_
  refine i_icmp_eq (tgt := 22) G dX2_setGone_7 (by decide) (by omega) (by omega) (fun h7 => ?_) (fun h7 => ?_)
  · skip
    refine j_retv G hr dX2_setGone_22 ?_
    first | (exact ⟨ez, hR, hY, ho19, hc19⟩) | (refine ⟨?_, hR, hY, fun _ _ => rfl, hC⟩; rw [← h7, zp_id])
  · skip
    refine i_aload_n G dX2_setGone_10 rfl ?_
    refine i_getr G F_X2_52 7 rfl rfl dX2_setGone_11 ?_
    refine i_iload_n G dX2_setGone_14 rfl ?_
    refine i_iload_n G dX2_setGone_15 rfl ?_
    refine j_zast_z G 8 rfl (by decide) (by decide) (by omega) (by omega) (by omega) (by decide) hR (by show (0 : Int) ≤ _ ∧ _ ≤ (1 : Int); omega) dX2_setGone_16 (fun z16 ez16 hRz16 => ?_)
    have hW2 : WT z16 := by rw [ez16]; exact WT_zp hW _ _ (by decide)
    refine i_aload_n G dX2_setGone_17 rfl ?_
    refine i_aload_n G dX2_setGone_18 rfl ?_
    refine j_callYv (q0 := 1) (As := [.ref (ad 7)]) (st := []) G K_X2_48 (c_findWays_1 l hd hRz16 hY  (by first | assumption | omega)) rfl rfl rfl (rm_ok (by decide) (by decide)) ⟨Nat.le_refl _, Nat.le_refl _⟩ (Nat.le_of_ble_eq_true rfl) dX2_setGone_19 (fun y19 q19 => ?_)
    obtain ⟨hRy19, ho19, hc19⟩ := q19
    refine j_retv G hr dX2_setGone_22 ?_
    first | (exact ⟨ez16, hRz16, hRy19, ho19, hc19⟩) | (refine ⟨?_, hRz16, hRy19, fun _ _ => rfl, hC⟩; rw [← h7, zp_id])
set_option maxHeartbeats 4000000 in
set_option maxRecDepth 100000 in
theorem c_join (l : Launch) {D : va_G} {aC : Nat → ClassId} {ad : Nat → Nat} (hd : wDi ad shC) {z y : wZ} (hR : Rng z) (hY : Rng y) (fa : Int) (tb : Int) (fo : Int) (ba : Int) (hW : WT z) (hrm : z 1 0 < 24) (ha : 0 ≤ fa ∧ fa < z 0 0) (hb : 0 ≤ tb ∧ tb < z 0 0) (hne : fa ≠ tb) (hfo : 1 ≤ fo ∧ fo ≤ 300) (hba : 1 ≤ ba ∧ ba ≤ 300) : cMi l D aC ad shC yX2_join cX2_join 6 (.int) (rmL 2) [.ref (ad 1), vi fa, vi tb, vi fo, vi ba] z y (fun r z' y' => r = z 1 0 ∧ z' = jnF z fa tb fo ba ∧ Rng z' ∧ Rng y' ∧ (∀ k', k' ≠ 64 → k' ≠ 65 → y' k' = y k') ∧ CIv z' y' 15 64 ∧ CIv z' y' 16 65) := by
  refine c_i [some (.ref (ad 1)), some (vi (fa)), some (vi (tb)), some (vi (fo)), some (vi (ba)), none] (by decide +kernel) rfl (Nat.le_of_ble_eq_true rfl) rfl hd ?_
  intro p e s m args below meth c A G hr
  have b_0 : 0 ≤ z 0 0 ∧ z 0 0 ≤ 16 := hR 0 0
  refine i_aload_n G dX2_join_0 rfl ?_
  refine j_getz G F_X2_45 1 rfl rfl (by decide) dX2_join_1 ?_
  have b1 : 0 ≤ z 1 0 ∧ z 1 0 ≤ 24 := hR 1 _
  refine i_istore (L' := [some (.ref (ad 1)), some (vi (fa)), some (vi (tb)), some (vi (fo)), some (vi (ba)), some (vi ((z 1 0)))]) G dX2_join_4 (by decide) rfl ?_
  refine i_aload_n G dX2_join_6 rfl ?_
  refine i_dup G rfl dX2_join_7 ?_
  refine j_getz G F_X2_45 1 rfl rfl (by decide) dX2_join_8 ?_
  have b8 : 0 ≤ z 1 0 ∧ z 1 0 ≤ 24 := hR 1 _
  refine i_iconst G dX2_join_11 ?_
  refine i_iadd G dX2_join_12 ?_
  refine j_putz G P_X2_45 1 rfl rfl (by decide) (by decide) (by decide) hR (by show (0 : Int) ≤ _ ∧ _ ≤ (24 : Int); omega) dX2_join_13 (fun z13 ez13 hRz13 => ?_)
  refine i_aload_n G dX2_join_16 rfl ?_
  refine i_getr G F_X2_15 1 rfl rfl dX2_join_17 ?_
  refine i_iload G dX2_join_20 rfl ?_
  refine i_iload_n G dX2_join_22 rfl ?_
  refine j_iast_z G 3 rfl (by decide) (by decide) (by omega) (by omega) (by decide) hRz13 (by show (0 : Int) ≤ _ ∧ _ ≤ (15 : Int); omega) dX2_join_23 (fun z23 ez23 hRz23 => ?_)
  refine i_aload_n G dX2_join_24 rfl ?_
  refine i_getr G F_X2_19 1 rfl rfl dX2_join_25 ?_
  refine i_iload G dX2_join_28 rfl ?_
  refine i_iload_n G dX2_join_30 rfl ?_
  refine j_iast_z G 4 rfl (by decide) (by decide) (by omega) (by omega) (by decide) hRz23 (by show (0 : Int) ≤ _ ∧ _ ≤ (15 : Int); omega) dX2_join_31 (fun z31 ez31 hRz31 => ?_)
  refine i_aload_n G dX2_join_32 rfl ?_
  refine i_getr G F_X2_22 1 rfl rfl dX2_join_33 ?_
  refine i_iload G dX2_join_36 rfl ?_
  refine i_iload_n G dX2_join_38 rfl ?_
  refine j_iast_z G 5 rfl (by decide) (by decide) (by omega) (by omega) (by decide) hRz31 (by show (0 : Int) ≤ _ ∧ _ ≤ (300 : Int); omega) dX2_join_39 (fun z39 ez39 hRz39 => ?_)
  refine i_aload_n G dX2_join_40 rfl ?_
  refine i_getr G F_X2_25 1 rfl rfl dX2_join_41 ?_
  refine i_iload G dX2_join_44 rfl ?_
  refine i_iload G dX2_join_46 rfl ?_
  refine j_iast_z G 6 rfl (by decide) (by decide) (by omega) (by omega) (by decide) hRz39 (by show (0 : Int) ≤ _ ∧ _ ≤ (300 : Int); omega) dX2_join_48 (fun z48 ez48 hRz48 => ?_)
  have hzz : z48 = jnF z fa tb fo ba := by subst_vars; rfl
  have hWj : WT z48 := by rw [hzz]; exact WT_join hW ha hb hne hfo.1 hba.1
  refine i_aload_n G dX2_join_49 rfl ?_
  refine i_aload_n G dX2_join_50 rfl ?_
  refine i_getr G F_X2_31 1 rfl rfl dX2_join_51 ?_
  refine j_callYv (q0 := 1) (As := [.ref (ad 7)]) (st := []) G K_X2_48 (c_findWays_1 l hd hRz48 hY  (by first | assumption | omega)) rfl rfl rfl (rm_ok (by decide) (by decide)) ⟨Nat.le_refl _, Nat.le_refl _⟩ (Nat.le_of_ble_eq_true rfl) dX2_join_54 (fun y54 q54 => ?_)
  obtain ⟨hRy54, ho54, hc54⟩ := q54
  refine i_aload_n G dX2_join_57 rfl ?_
  refine i_aload_n G dX2_join_58 rfl ?_
  refine i_getr G F_X2_35 1 rfl rfl dX2_join_59 ?_
  refine j_callYv (q0 := 1) (As := [.ref (ad 10)]) (st := []) G K_X2_48 (c_findWays_0 l hd hRz48 hRy54  (by first | assumption | omega)) rfl rfl rfl (rm_ok (by decide) (by decide)) ⟨Nat.le_refl _, Nat.le_refl _⟩ (Nat.le_of_ble_eq_true rfl) dX2_join_62 (fun y62 q62 => ?_)
  obtain ⟨hRy62, ho62, hc62⟩ := q62
  refine i_iload G dX2_join_65 rfl ?_
  refine j_reti G hr dX2_join_67 ?_
  exact ⟨rfl, hzz, hRz48, hRy62, fun k2 h64 h65 => (ho62 k2 h65).trans (ho54 k2 h64), fun a b a0 a1 b0 b1 => by rw [ho62 64 (by decide)]; exact hc54 a b a0 a1 b0 b1, hc62⟩
