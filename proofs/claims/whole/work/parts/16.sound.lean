/-- the rows compared, with i forks allowed between -/
def FWI (z : wZ) (g : Nat) (y : wZ) (i : Int) : Prop := (∀ a, 0 ≤ a → a < z 0 0 → y 66 (a * 16 + a) = 0) ∧
  (∀ a b, 0 ≤ a → a < z 0 0 → 0 ≤ b → b < z 0 0 → ds z g a b ≤ y 66 (a * 16 + b)) ∧
  (∀ j, 0 ≤ j → j < i → ∀ a b, 0 ≤ a → a < z 0 0 → 0 ≤ b → b < z 0 0 → y 66 (a * 16 + b) ≤ y 66 (a * 16 + j) + y 66 (j * 16 + b)) ∧
  ∀ s, OpT z g s → y 66 (z 11 s * 16 + z 12 s) ≤ z 13 s ∧ y 66 (z 12 s * 16 + z 11 s) ≤ z 14 s
def mnF (y : wZ) (k a b : Int) : Int := if y 66 (a * 16 + k) + y 66 (k * 16 + b) < y 66 (a * 16 + b) then y 66 (a * 16 + k) + y 66 (k * 16 + b) else y 66 (a * 16 + b)
theorem mnF_le (y : wZ) (k a b : Int) : mnF y k a b ≤ y 66 (a * 16 + b) ∧ mnF y k a b ≤ y 66 (a * 16 + k) + y 66 (k * 16 + b) ∧ (mnF y k a b = y 66 (a * 16 + b) ∨ mnF y k a b = y 66 (a * 16 + k) + y 66 (k * 16 + b)) := by
  unfold mnF; split <;> omega
theorem FWI_step {z y y' : wZ} {g : Nat} {i : Int} (hW : WT z) (hR : Rng z) (hY : Rng y) (h : FWI z g y i) (h0 : 0 ≤ i) (h1 : i < z 0 0) (he : ∀ a b, 0 ≤ a → a < z 0 0 → 0 ≤ b → b < z 0 0 → y' 66 (a * 16 + b) = mnF y i a b) : FWI z g y' (i + 1) := by
  obtain ⟨d1, d2, d3, d4⟩ := h
  have nn : ∀ x, 0 ≤ y 66 x := fun x => (hY 66 x).1
  have ii := d1 i h0 h1
  refine ⟨fun a a0 a1 => ?_, fun a b a0 a1 b0 b1 => ?_, fun j j0 j1 a b a0 a1 b0 b1 => ?_, fun s hs => ?_⟩
  · rw [he a a a0 a1 a0 a1]
    have := mnF_le y i a a
    have := d1 a a0 a1
    have := nn (a * 16 + i)
    have := nn (i * 16 + a)
    omega
  · rw [he a b a0 a1 b0 b1]
    have := mnF_le y i a b
    have := d2 a b a0 a1 b0 b1
    have := d2 a i a0 a1 h0 h1
    have := d2 i b h0 h1 b0 b1
    have := ds_tri hW hR g a i b
    omega
  · rw [he a b a0 a1 b0 b1, he a j a0 a1 j0 (by omega), he j b j0 (by omega) b0 b1]
    have m1 := mnF_le y i a b
    have m2 := mnF_le y i a j
    have m3 := mnF_le y i j b
    by_cases e : j = i
    · subst e
      have := nn (a * 16 + j)
      have := nn (j * 16 + b)
      omega
    · have t1 := d3 j j0 (by omega) a b a0 a1 b0 b1
      have t2 := d3 j j0 (by omega) a i a0 a1 h0 h1
      have t3 := d3 j j0 (by omega) i b h0 h1 b0 b1
      have := nn (i * 16 + j)
      have := nn (j * 16 + i)
      omega
  · have hw := hW s hs.1 hs.2.1
    rw [he _ _ hw.1.1 hw.1.2 hw.2.1.1 hw.2.1.2, he _ _ hw.2.1.1 hw.2.1.2 hw.1.1 hw.1.2]
    have := mnF_le y i (z 11 s) (z 12 s)
    have := mnF_le y i (z 12 s) (z 11 s)
    have := d4 s hs
    omega
theorem FWI_end {z y : wZ} {g : Nat} (hW : WT z) (hR : Rng z) (hY : Rng y) (h : FWI z g y (z 0 0)) : ∀ a b, 0 ≤ a → a < z 0 0 → 0 ≤ b → b < z 0 0 → y 66 (a * 16 + b) = ds z g a b := by
  intro a b a0 a1 b0 b1
  obtain ⟨d1, d2, d3, d4⟩ := h
  have lo := d2 a b a0 a1 b0 b1
  have q := le_of_sub hW (ds_is hW hR g b) (S := fun a => if 0 ≤ a ∧ a < z 0 0 then y 66 (a * 16 + b) else 1000000)
    (by rw [if_pos ⟨b0, b1⟩, d1 b b0 b1]; exact Int.le_refl 0)
    (fun a => by
      have := (hY 66 (a * 16 + b)).2
      have h9 : whi 66 = 1000000 := rfl
      split <;> omega)
    (fun t ho => by
      have hw := hW t ho.1 ho.2.1
      simp only
      rw [if_pos hw.1, if_pos hw.2.1]
      have e := d4 t ho
      have t1 := d3 (z 12 t) hw.2.1.1 hw.2.1.2 (z 11 t) b hw.1.1 hw.1.2 b0 b1
      have t2 := d3 (z 11 t) hw.1.1 hw.1.2 (z 12 t) b hw.2.1.1 hw.2.1.2 b0 b1
      omega) a
  rw [if_pos ⟨a0, a1⟩] at q
  omega
/-- before the trails: t of them are laid in -/
def SCI (z : wZ) (g : Nat) (y : wZ) (t : Int) : Prop := (∀ a, 0 ≤ a → a < z 0 0 → y 66 (a * 16 + a) = 0) ∧
  (∀ a b, 0 ≤ a → a < z 0 0 → 0 ≤ b → b < z 0 0 → ds z g a b ≤ y 66 (a * 16 + b)) ∧
  ∀ s, 0 ≤ s → s < t → z g s = 0 → y 66 (z 11 s * 16 + z 12 s) ≤ z 13 s ∧ y 66 (z 12 s * 16 + z 11 s) ≤ z 14 s
theorem SCI_0 {z y : wZ} {g : Nat} (hW : WT z) (hR : Rng z) (h : ∀ a b, 0 ≤ a → a < z 0 0 → 0 ≤ b → b < z 0 0 → y 66 (a * 16 + b) = if a = b then 0 else 1000000) : SCI z g y 0 := by
  refine ⟨fun a a0 a1 => by rw [h a a a0 a1 a0 a1, if_pos rfl], fun a b a0 a1 b0 b1 => ?_, fun s s0 s1 => by omega⟩
  rw [h a b a0 a1 b0 b1]
  split
  · next e => subst e; rw [ds_self hW hR]; exact Int.le_refl _
  · exact (ds_in hW hR g a b).2
theorem SCI_end {z y : wZ} {g : Nat} (h : SCI z g y (z 1 0)) : FWI z g y 0 := ⟨h.1, h.2.1, fun j j0 j1 => by omega, fun s hs => h.2.2 s hs.1 hs.2.1 hs.2.2⟩
theorem SCI_skip {z y : wZ} {g : Nat} {t : Int} (h : SCI z g y t) (hg : z g t ≠ 0) : SCI z g y (t + 1) := ⟨h.1, h.2.1, fun s s0 s1 hs => h.2.2 s s0 (by
  have : s ≠ t := fun e => hg (e ▸ hs)
  omega) hs⟩
theorem SCI_step {z y : wZ} {g : Nat} {t : Int} (hW : WT z) (hR : Rng z) (h : SCI z g y t) (h0 : 0 ≤ t) (h1 : t < z 1 0) (hg : z g t = 0) {u v : Int}
    (hu : u ≤ y 66 (z 11 t * 16 + z 12 t) ∧ u ≤ z 13 t ∧ (u = y 66 (z 11 t * 16 + z 12 t) ∨ u = z 13 t)) (hv : v ≤ y 66 (z 12 t * 16 + z 11 t) ∧ v ≤ z 14 t ∧ (v = y 66 (z 12 t * 16 + z 11 t) ∨ v = z 14 t)) : SCI z g (zp (zp y 66 (z 11 t * 16 + z 12 t) u) 66 (z 12 t * 16 + z 11 t) v) (t + 1) := by
  have hf : 0 ≤ z 0 0 ∧ z 0 0 ≤ 16 := hR 0 0
  have hw := hW t h0 h1
  obtain ⟨d1, d2, d3⟩ := h
  have at' : ∀ a b, 0 ≤ a → a < z 0 0 → 0 ≤ b → b < z 0 0 → zp (zp y 66 (z 11 t * 16 + z 12 t) u) 66 (z 12 t * 16 + z 11 t) v 66 (a * 16 + b) = if a = z 12 t ∧ b = z 11 t then v else if a = z 11 t ∧ b = z 12 t then u else y 66 (a * 16 + b) := by
    intro a b a0 a1 b0 b1
    by_cases c1 : a = z 12 t ∧ b = z 11 t
    · rw [if_pos c1, c1.1, c1.2, zp_same]
    · rw [if_neg c1, zp_ne _ (by omega)]
      by_cases c2 : a = z 11 t ∧ b = z 12 t
      · rw [if_pos c2, c2.1, c2.2, zp_same]
      · rw [if_neg c2, zp_ne _ (by omega)]
  have su := ds_is hW hR g (z 12 t)
  have sv := ds_is hW hR g (z 11 t)
  have su2 := su.2.2.1 t ⟨h0, h1, hg⟩
  have sv2 := sv.2.2.1 t ⟨h0, h1, hg⟩
  simp only [ds_self hW hR] at su2 sv2
  refine ⟨fun a a0 a1 => ?_, fun a b a0 a1 b0 b1 => ?_, fun s s0 s1 hs => ?_⟩
  · rw [at' a a a0 a1 a0 a1, if_neg (by omega), if_neg (by omega)]; exact d1 a a0 a1
  · rw [at' a b a0 a1 b0 b1]
    have q := d2 a b a0 a1 b0 b1
    by_cases c1 : a = z 12 t ∧ b = z 11 t
    · rw [if_pos c1]
      rw [c1.1, c1.2] at q ⊢
      omega
    · rw [if_neg c1]
      by_cases c2 : a = z 11 t ∧ b = z 12 t
      · rw [if_pos c2]
        rw [c2.1, c2.2] at q ⊢
        omega
      · rw [if_neg c2]; exact q
  · have hws := hW s s0 (by omega)
    rw [at' _ _ hws.1.1 hws.1.2 hws.2.1.1 hws.2.1.2, at' _ _ hws.2.1.1 hws.2.1.2 hws.1.1 hws.1.2]
    by_cases e : s = t
    · subst e
      rw [if_neg (by omega), if_pos ⟨rfl, rfl⟩, if_pos ⟨rfl, rfl⟩]
      omega
    · have q := d3 s s0 (by omega) hs
      constructor
      · by_cases c1 : z 11 s = z 12 t ∧ z 12 s = z 11 t
        · rw [if_pos c1]; rw [c1.1, c1.2] at q; omega
        · rw [if_neg c1]
          by_cases c2 : z 11 s = z 11 t ∧ z 12 s = z 12 t
          · rw [if_pos c2]; rw [c2.1, c2.2] at q; omega
          · rw [if_neg c2]; omega
      · by_cases c1 : z 12 s = z 12 t ∧ z 11 s = z 11 t
        · rw [if_pos c1]; rw [c1.1, c1.2] at q; omega
        · rw [if_neg c1]
          by_cases c2 : z 12 s = z 11 t ∧ z 11 s = z 12 t
          · rw [if_pos c2]; rw [c2.1, c2.2] at q; omega
          · rw [if_neg c2]; omega
set_option maxHeartbeats 4000000 in
set_option maxRecDepth 100000 in
theorem c_startComparing_0 (l : Launch) {D : va_G} {aC : Nat → ClassId} {ad : Nat → Nat} (hd : wDi ad shC) {z y : wZ} (hR : Rng z) (hY : Rng y)  (hW : WT z) : cYv l D aC ad shC yX2_startComparing cX2_startComparing 5 (rmL 1) [.ref (ad 1), .ref (ad 10)] z y (fun y' => Rng y' ∧ (∀ k', k' ≠ 66 → y' k' = y k') ∧ FWI z 16 y' 0) := by
  refine c_v [some (.ref (ad 1)), some (.ref (ad 10)), none, none, none] (by decide +kernel) rfl (Nat.le_of_ble_eq_true rfl) rfl hd ?_
  intro p e s m args below meth c A G hr
  have b_0 : 0 ≤ z 0 0 ∧ z 0 0 ≤ 16 := hR 0 0
  have b_1 : 0 ≤ z 1 0 ∧ z 1 0 ≤ 24 := hR 1 0
  refine i_iconst G dX2_startComparing_0 ?_
  refine i_istore_n (L' := [some (.ref (ad 1)), some (.ref (ad 10)), some (vi (0)), none, none]) G dX2_startComparing_1 (by decide) rfl ?_
  refine i_forget (L' := [some (.ref (ad 1)), some (.ref (ad 10)), some (vi (0)), none, none]) ⟨rfl, ⟨rfl, ⟨rfl, trivial⟩⟩⟩ ?_
  have lp2 : ∀ (n2 : Nat) (i : Int) (y2_ : wZ), Rng y2_ → (0 ≤ i) → (i + n2 = z 0 0) → (∀ k', k' ≠ 66 → y2_ k' = y k') → (∀ a b, 0 ≤ a → a < i → 0 ≤ b → b < z 0 0 → y2_ 66 (a * 16 + b) = if a = b then 0 else 1000000) → JW p l e (rmL 1) s m args below meth c 5 D aC ad A shC (MQ below (cQv D aC ad shC (fun z_ y_ => z_ = z ∧ (fun y' => Rng y' ∧ (∀ k', k' ≠ 66 → y' k' = y k') ∧ FWI z 16 y' 0) y_) A) args s 0 0 A) 0 0 (zc z y2_) 2 [some (.ref (ad 1)), some (.ref (ad 10)), some (vi (i)), none, none] [] := by
    intro n2
    induction n2 with
    | zero => 
      intro i y2_ hRy2_ hi hn ho hp
      refine i_iload_n G dX2_startComparing_2 rfl ?_
      refine i_aload_n G dX2_startComparing_3 rfl ?_
      refine j_getz G F_X2_41 1 rfl rfl (by decide) dX2_startComparing_4 ?_
      have b4 : 0 ≤ z 0 0 ∧ z 0 0 ≤ 16 := hR 0 _
      refine i_icmp_ge (tgt := 54) G dX2_startComparing_7 (by decide) (by omega) (by omega) (fun h7 => ?_) (fun h7 => ?_)
      · skip
        refine i_iconst G dX2_startComparing_54 ?_
        refine i_istore_n (L' := [some (.ref (ad 1)), some (.ref (ad 10)), some (vi (0)), none, none]) G dX2_startComparing_55 (by decide) rfl ?_
        refine i_forget (L' := [some (.ref (ad 1)), some (.ref (ad 10)), some (vi (0)), none, none]) ⟨rfl, ⟨rfl, ⟨rfl, trivial⟩⟩⟩ ?_
        have lp56 : ∀ (n56 : Nat) (t : Int) (y56_ : wZ), Rng y56_ → (0 ≤ t) → (t + n56 = z 1 0) → (∀ k', k' ≠ 66 → y56_ k' = y k') → (SCI z 16 y56_ t) → JW p l e (rmL 1) s m args below meth c 5 D aC ad A shC (MQ below (cQv D aC ad shC (fun z_ y_ => z_ = z ∧ (fun y' => Rng y' ∧ (∀ k', k' ≠ 66 → y' k' = y k') ∧ FWI z 16 y' 0) y_) A) args s 0 0 A) 0 0 (zc z y56_) 56 [some (.ref (ad 1)), some (.ref (ad 10)), some (vi (t)), none, none] [] := by
          intro n56
          induction n56 with
          | zero => 
            intro t y56_ hRy56_ ht hq ho2 hS
            refine i_iload_n G dX2_startComparing_56 rfl ?_
            refine i_aload_n G dX2_startComparing_57 rfl ?_
            refine j_getz G F_X2_45 1 rfl rfl (by decide) dX2_startComparing_58 ?_
            have b58 : 0 ≤ z 1 0 ∧ z 1 0 ≤ 24 := hR 1 _
            refine i_icmp_ge (tgt := 158) G dX2_startComparing_61 (by decide) (by omega) (by omega) (fun h61 => ?_) (fun h61 => ?_)
            · skip
              refine j_retv G hr dX2_startComparing_158 ?_
              exact ⟨rfl, hRy56_, ho2, SCI_end (by rw [show z 1 0 = t by omega]; exact hS)⟩
            · skip
              exfalso; omega
          | succ n56 ih56 => 
            intro t y56_ hRy56_ ht hq ho2 hS
            refine i_iload_n G dX2_startComparing_56 rfl ?_
            refine i_aload_n G dX2_startComparing_57 rfl ?_
            refine j_getz G F_X2_45 1 rfl rfl (by decide) dX2_startComparing_58 ?_
            have b58 : 0 ≤ z 1 0 ∧ z 1 0 ≤ 24 := hR 1 _
            refine i_icmp_ge (tgt := 158) G dX2_startComparing_61 (by decide) (by omega) (by omega) (fun h61 => ?_) (fun h61 => ?_)
            · skip
              exfalso; omega
            · skip
              refine i_aload_n G dX2_startComparing_64 rfl ?_
              refine i_getr G F_X2_52 10 rfl rfl dX2_startComparing_65 ?_
              refine i_iload_n G dX2_startComparing_68 rfl ?_
              refine j_zald_z G 11 rfl (by decide) (by decide) (by omega) (by omega) dX2_startComparing_69 ?_
              have b69 : 0 ≤ z 16 t ∧ z 16 t ≤ 1 := hR 16 _
              refine i_if_ne (tgt := 152) G dX2_startComparing_70 (by decide) (by omega) (fun h70 => ?_) (fun h70 => ?_)
              · skip
                refine i_iinc (L' := [some (.ref (ad 1)), some (.ref (ad 10)), some (vi (t + 1)), none, none]) G dX2_startComparing_152 (by decide) rfl rfl ?_
                refine i_goto (tgt := 56) G dX2_startComparing_155 (by decide) ?_
                refine i_forget (L' := [some (.ref (ad 1)), some (.ref (ad 10)), some (vi (t + 1)), none, none]) ⟨rfl, ⟨rfl, ⟨rfl, trivial⟩⟩⟩ ?_
                exact ih56 (t + 1) y56_ hRy56_ (by omega) (by omega) ho2 (SCI_skip hS h70)
              · skip
                refine i_aload_n G dX2_startComparing_73 rfl ?_
                refine i_getr G F_X2_15 1 rfl rfl dX2_startComparing_74 ?_
                refine i_iload_n G dX2_startComparing_77 rfl ?_
                refine j_iald_z G 3 rfl (by decide) (by decide) (by omega) (by omega) dX2_startComparing_78 ?_
                have b78 : 0 ≤ z 11 t ∧ z 11 t ≤ 15 := hR 11 _
                refine i_bipush G dX2_startComparing_79 (by decide) ?_
                refine i_imul G dX2_startComparing_81 ?_
                refine i_aload_n G dX2_startComparing_82 rfl ?_
                refine i_getr G F_X2_19 1 rfl rfl dX2_startComparing_83 ?_
                refine i_iload_n G dX2_startComparing_86 rfl ?_
                refine j_iald_z G 4 rfl (by decide) (by decide) (by omega) (by omega) dX2_startComparing_87 ?_
                have b87 : 0 ≤ z 12 t ∧ z 12 t ≤ 15 := hR 12 _
                refine i_iadd G dX2_startComparing_88 ?_
                refine i_istore_n (L' := [some (.ref (ad 1)), some (.ref (ad 10)), some (vi (t)), some (vi ((((z 11 t) * 16) + (z 12 t)))), none]) G dX2_startComparing_89 (by decide) rfl ?_
                refine i_aload_n G dX2_startComparing_90 rfl ?_
                refine i_getr G F_X2_19 1 rfl rfl dX2_startComparing_91 ?_
                refine i_iload_n G dX2_startComparing_94 rfl ?_
                refine j_iald_z G 4 rfl (by decide) (by decide) (by omega) (by omega) dX2_startComparing_95 ?_
                have b95 : 0 ≤ z 12 t ∧ z 12 t ≤ 15 := hR 12 _
                refine i_bipush G dX2_startComparing_96 (by decide) ?_
                refine i_imul G dX2_startComparing_98 ?_
                refine i_aload_n G dX2_startComparing_99 rfl ?_
                refine i_getr G F_X2_15 1 rfl rfl dX2_startComparing_100 ?_
                refine i_iload_n G dX2_startComparing_103 rfl ?_
                refine j_iald_z G 3 rfl (by decide) (by decide) (by omega) (by omega) dX2_startComparing_104 ?_
                have b104 : 0 ≤ z 11 t ∧ z 11 t ≤ 15 := hR 11 _
                refine i_iadd G dX2_startComparing_105 ?_
                refine i_istore (L' := [some (.ref (ad 1)), some (.ref (ad 10)), some (vi (t)), some (vi ((((z 11 t) * 16) + (z 12 t)))), some (vi ((((z 12 t) * 16) + (z 11 t))))]) G dX2_startComparing_106 (by decide) rfl ?_
                refine i_aload_n G dX2_startComparing_108 rfl ?_
                refine i_getr G F_X2_38 1 rfl rfl dX2_startComparing_109 ?_
                refine i_iload_n G dX2_startComparing_112 rfl ?_
                refine i_aload_n G dX2_startComparing_113 rfl ?_
                refine i_getr G F_X2_38 1 rfl rfl dX2_startComparing_114 ?_
                refine i_iload_n G dX2_startComparing_117 rfl ?_
                refine j_iald_y G 13 rfl (by decide) (by decide) (by omega) (by omega) dX2_startComparing_118 ?_
                have b118 : 0 ≤ y56_ 66 (((z 11 t) * 16) + (z 12 t)) ∧ y56_ 66 (((z 11 t) * 16) + (z 12 t)) ≤ 1000000 := hRy56_ 66 _
                refine i_aload_n G dX2_startComparing_119 rfl ?_
                refine i_getr G F_X2_22 1 rfl rfl dX2_startComparing_120 ?_
                refine i_iload_n G dX2_startComparing_123 rfl ?_
                refine j_iald_z G 5 rfl (by decide) (by decide) (by omega) (by omega) dX2_startComparing_124 ?_
                have b124 : 0 ≤ z 13 t ∧ z 13 t ≤ 300 := hR 13 _
                refine i_min (st := [vi ((((z 11 t) * 16) + (z 12 t))), .ref (ad 13)]) G K_X2_87 ⟨by decide, Nat.le_of_ble_eq_true rfl, Nat.le_refl _, Nat.le_refl _⟩ (by omega) (by omega) dX2_startComparing_125 ?_
                obtain ⟨m125, em125⟩ : ∃ x_ : Int, x_ = (if (z 13 t) < (y56_ 66 (((z 11 t) * 16) + (z 12 t))) then (z 13 t) else (y56_ 66 (((z 11 t) * 16) + (z 12 t)))) := ⟨_, rfl⟩
                rw [← em125]
                have bm125 : ((z 13 t) ≤ (y56_ 66 (((z 11 t) * 16) + (z 12 t))) ∧ m125 = (z 13 t)) ∨ ((y56_ 66 (((z 11 t) * 16) + (z 12 t))) ≤ (z 13 t) ∧ m125 = (y56_ 66 (((z 11 t) * 16) + (z 12 t)))) := by rw [em125]; split <;> omega
                refine j_iast_y G 13 rfl (by decide) (by decide) (by omega) (by omega) (by decide) hRy56_ (by show (0 : Int) ≤ _ ∧ _ ≤ (1000000 : Int); omega) dX2_startComparing_128 (fun y128 ey128 hRy128 => ?_)
                refine i_aload_n G dX2_startComparing_129 rfl ?_
                refine i_getr G F_X2_38 1 rfl rfl dX2_startComparing_130 ?_
                refine i_iload G dX2_startComparing_133 rfl ?_
                refine i_aload_n G dX2_startComparing_135 rfl ?_
                refine i_getr G F_X2_38 1 rfl rfl dX2_startComparing_136 ?_
                refine i_iload G dX2_startComparing_139 rfl ?_
                refine j_iald_y G 13 rfl (by decide) (by decide) (by omega) (by omega) dX2_startComparing_141 ?_
                have b141 : 0 ≤ y128 66 (((z 12 t) * 16) + (z 11 t)) ∧ y128 66 (((z 12 t) * 16) + (z 11 t)) ≤ 1000000 := hRy128 66 _
                refine i_aload_n G dX2_startComparing_142 rfl ?_
                refine i_getr G F_X2_25 1 rfl rfl dX2_startComparing_143 ?_
                refine i_iload_n G dX2_startComparing_146 rfl ?_
                refine j_iald_z G 6 rfl (by decide) (by decide) (by omega) (by omega) dX2_startComparing_147 ?_
                have b147 : 0 ≤ z 14 t ∧ z 14 t ≤ 300 := hR 14 _
                refine i_min (st := [vi ((((z 12 t) * 16) + (z 11 t))), .ref (ad 13)]) G K_X2_87 ⟨by decide, Nat.le_of_ble_eq_true rfl, Nat.le_refl _, Nat.le_refl _⟩ (by omega) (by omega) dX2_startComparing_148 ?_
                obtain ⟨m148, em148⟩ : ∃ x_ : Int, x_ = (if (z 14 t) < (y128 66 (((z 12 t) * 16) + (z 11 t))) then (z 14 t) else (y128 66 (((z 12 t) * 16) + (z 11 t)))) := ⟨_, rfl⟩
                rw [← em148]
                have bm148 : ((z 14 t) ≤ (y128 66 (((z 12 t) * 16) + (z 11 t))) ∧ m148 = (z 14 t)) ∨ ((y128 66 (((z 12 t) * 16) + (z 11 t))) ≤ (z 14 t) ∧ m148 = (y128 66 (((z 12 t) * 16) + (z 11 t)))) := by rw [em148]; split <;> omega
                refine j_iast_y G 13 rfl (by decide) (by decide) (by omega) (by omega) (by decide) hRy128 (by show (0 : Int) ≤ _ ∧ _ ≤ (1000000 : Int); omega) dX2_startComparing_151 (fun y151 ey151 hRy151 => ?_)
                refine i_iinc (L' := [some (.ref (ad 1)), some (.ref (ad 10)), some (vi (t + 1)), some (vi ((((z 11 t) * 16) + (z 12 t)))), some (vi ((((z 12 t) * 16) + (z 11 t))))]) G dX2_startComparing_152 (by decide) rfl rfl ?_
                refine i_goto (tgt := 56) G dX2_startComparing_155 (by decide) ?_
                refine i_forget (L' := [some (.ref (ad 1)), some (.ref (ad 10)), some (vi (t + 1)), none, none]) ⟨rfl, ⟨rfl, ⟨rfl, trivial⟩⟩⟩ ?_
                have hw := hW t ht (by omega)
                have hX := SCI_step (u := m125) (v := m148) hW hR hS ht (by omega) h70 (by omega) (by subst ey128; rw [zp_ne _ (by omega)] at bm148; omega)
                exact ih56 (t + 1) y151 hRy151 (by omega) (by omega) (fun k' hk => by rw [ey151, ey128, zp_nk _ hk, zp_nk _ hk]; exact ho2 k' hk) (by rw [ey151, ey128]; exact hX)
        exact lp56 (z 1 0).toNat 0 y2_ hRy2_ (by omega) (by omega) ho (SCI_0 hW hR (fun a b a0 a1 b0 b1 => hp a b a0 (by omega) b0 b1))
      · skip
        exfalso; omega
    | succ n2 ih2 => 
      intro i y2_ hRy2_ hi hn ho hp
      refine i_iload_n G dX2_startComparing_2 rfl ?_
      refine i_aload_n G dX2_startComparing_3 rfl ?_
      refine j_getz G F_X2_41 1 rfl rfl (by decide) dX2_startComparing_4 ?_
      have b4 : 0 ≤ z 0 0 ∧ z 0 0 ≤ 16 := hR 0 _
      refine i_icmp_ge (tgt := 54) G dX2_startComparing_7 (by decide) (by omega) (by omega) (fun h7 => ?_) (fun h7 => ?_)
      · skip
        exfalso; omega
      · skip
        refine i_iconst G dX2_startComparing_10 ?_
        refine i_istore_n (L' := [some (.ref (ad 1)), some (.ref (ad 10)), some (vi (i)), some (vi (0)), none]) G dX2_startComparing_11 (by decide) rfl ?_
        have lp12 : ∀ (n12 : Nat) (j : Int) (y12_ : wZ), Rng y12_ → (0 ≤ j) → (j + n12 = z 0 0) → (∀ k', k' ≠ 66 → y12_ k' = y k') → (∀ a b, 0 ≤ a → 0 ≤ b → b < z 0 0 → (a < i ∨ (a = i ∧ b < j)) → y12_ 66 (a * 16 + b) = if a = b then 0 else 1000000) → JW p l e (rmL 1) s m args below meth c 5 D aC ad A shC (MQ below (cQv D aC ad shC (fun z_ y_ => z_ = z ∧ (fun y' => Rng y' ∧ (∀ k', k' ≠ 66 → y' k' = y k') ∧ FWI z 16 y' 0) y_) A) args s 0 0 A) 0 0 (zc z y12_) 12 [some (.ref (ad 1)), some (.ref (ad 10)), some (vi (i)), some (vi (j)), none] [] := by
          intro n12
          induction n12 with
          | zero => 
            intro j y12_ hRy12_ hj hm ho' hp'
            refine i_iload_n G dX2_startComparing_12 rfl ?_
            refine i_aload_n G dX2_startComparing_13 rfl ?_
            refine j_getz G F_X2_41 1 rfl rfl (by decide) dX2_startComparing_14 ?_
            have b14 : 0 ≤ z 0 0 ∧ z 0 0 ≤ 16 := hR 0 _
            refine i_icmp_ge (tgt := 48) G dX2_startComparing_17 (by decide) (by omega) (by omega) (fun h17 => ?_) (fun h17 => ?_)
            · skip
              refine i_iinc (L' := [some (.ref (ad 1)), some (.ref (ad 10)), some (vi (i + 1)), some (vi (j)), none]) G dX2_startComparing_48 (by decide) rfl rfl ?_
              refine i_goto (tgt := 2) G dX2_startComparing_51 (by decide) ?_
              refine i_forget (L' := [some (.ref (ad 1)), some (.ref (ad 10)), some (vi (i + 1)), none, none]) ⟨rfl, ⟨rfl, ⟨rfl, trivial⟩⟩⟩ ?_
              exact ih2 (i + 1) y12_ hRy12_ (by omega) (by omega) ho' (fun a b h1 h2 h3 h4 => hp' a b h1 h3 h4 (by omega))
            · skip
              exfalso; omega
          | succ n12 ih12 => 
            intro j y12_ hRy12_ hj hm ho' hp'
            refine i_iload_n G dX2_startComparing_12 rfl ?_
            refine i_aload_n G dX2_startComparing_13 rfl ?_
            refine j_getz G F_X2_41 1 rfl rfl (by decide) dX2_startComparing_14 ?_
            have b14 : 0 ≤ z 0 0 ∧ z 0 0 ≤ 16 := hR 0 _
            refine i_icmp_ge (tgt := 48) G dX2_startComparing_17 (by decide) (by omega) (by omega) (fun h17 => ?_) (fun h17 => ?_)
            · skip
              exfalso; omega
            · skip
              refine i_aload_n G dX2_startComparing_20 rfl ?_
              refine i_getr G F_X2_38 1 rfl rfl dX2_startComparing_21 ?_
              refine i_iload_n G dX2_startComparing_24 rfl ?_
              refine i_bipush G dX2_startComparing_25 (by decide) ?_
              refine i_imul G dX2_startComparing_27 ?_
              refine i_iload_n G dX2_startComparing_28 rfl ?_
              refine i_iadd G dX2_startComparing_29 ?_
              refine i_iload_n G dX2_startComparing_30 rfl ?_
              refine i_iload_n G dX2_startComparing_31 rfl ?_
              refine i_icmp_ne (tgt := 39) G dX2_startComparing_32 (by decide) (by omega) (by omega) (fun h32 => ?_) (fun h32 => ?_)
              · skip
                refine i_ldc G 1000000 kc_X2_59 dX2_startComparing_39 ?_
                refine j_iast_y G 13 rfl (by decide) (by decide) (by omega) (by omega) (by decide) hRy12_ (by show (0 : Int) ≤ _ ∧ _ ≤ (1000000 : Int); omega) dX2_startComparing_41 (fun y41 ey41 hRy41 => ?_)
                refine i_iinc (L' := [some (.ref (ad 1)), some (.ref (ad 10)), some (vi (i)), some (vi (j + 1)), none]) G dX2_startComparing_42 (by decide) rfl rfl ?_
                refine i_goto (tgt := 12) G dX2_startComparing_45 (by decide) ?_
                exact ih12 (j + 1) y41 hRy41 (by omega) (by omega) (fun k' hk => by rw [ey41, zp_nk _ hk]; exact ho' k' hk) (fun a b h1 h2 h3 h4 => by
                  rw [ey41]
                  unfold zp
                  by_cases hx : a = i ∧ b = j
                  · rw [if_pos ⟨rfl, by omega⟩]; first | rw [if_pos (by omega)] | rw [if_neg (by omega)]
                  · rw [if_neg (by omega)]; exact hp' a b h1 h2 h3 (by omega))
              · skip
                refine i_iconst G dX2_startComparing_35 ?_
                refine i_goto (tgt := 41) G dX2_startComparing_36 (by decide) ?_
                refine j_iast_y G 13 rfl (by decide) (by decide) (by omega) (by omega) (by decide) hRy12_ (by show (0 : Int) ≤ _ ∧ _ ≤ (1000000 : Int); omega) dX2_startComparing_41 (fun y41 ey41 hRy41 => ?_)
                refine i_iinc (L' := [some (.ref (ad 1)), some (.ref (ad 10)), some (vi (i)), some (vi (j + 1)), none]) G dX2_startComparing_42 (by decide) rfl rfl ?_
                refine i_goto (tgt := 12) G dX2_startComparing_45 (by decide) ?_
                exact ih12 (j + 1) y41 hRy41 (by omega) (by omega) (fun k' hk => by rw [ey41, zp_nk _ hk]; exact ho' k' hk) (fun a b h1 h2 h3 h4 => by
                  rw [ey41]
                  unfold zp
                  by_cases hx : a = i ∧ b = j
                  · rw [if_pos ⟨rfl, by omega⟩]; first | rw [if_pos (by omega)] | rw [if_neg (by omega)]
                  · rw [if_neg (by omega)]; exact hp' a b h1 h2 h3 (by omega))
        exact lp12 (z 0 0).toNat 0 y2_ hRy2_ (by omega) (by omega) ho (fun a b h1 h2 h3 h4 => hp a b h1 (by omega) h2 h3)
  exact lp2 (z 0 0).toNat 0 y hY (by omega) (by omega) (fun _ _ => rfl) (fun a b h1 h2 => by omega)
set_option maxHeartbeats 4000000 in
set_option maxRecDepth 100000 in
theorem c_startComparing_1 (l : Launch) {D : va_G} {aC : Nat → ClassId} {ad : Nat → Nat} (hd : wDi ad shC) {z y : wZ} (hR : Rng z) (hY : Rng y)  (hW : WT z) : cYv l D aC ad shC yX2_startComparing cX2_startComparing 5 (rmL 1) [.ref (ad 1), .ref (ad 7)] z y (fun y' => Rng y' ∧ (∀ k', k' ≠ 66 → y' k' = y k') ∧ FWI z 15 y' 0) := by
  refine c_v [some (.ref (ad 1)), some (.ref (ad 7)), none, none, none] (by decide +kernel) rfl (Nat.le_of_ble_eq_true rfl) rfl hd ?_
  intro p e s m args below meth c A G hr
  have b_0 : 0 ≤ z 0 0 ∧ z 0 0 ≤ 16 := hR 0 0
  have b_1 : 0 ≤ z 1 0 ∧ z 1 0 ≤ 24 := hR 1 0
  refine i_iconst G dX2_startComparing_0 ?_
  refine i_istore_n (L' := [some (.ref (ad 1)), some (.ref (ad 7)), some (vi (0)), none, none]) G dX2_startComparing_1 (by decide) rfl ?_
  refine i_forget (L' := [some (.ref (ad 1)), some (.ref (ad 7)), some (vi (0)), none, none]) ⟨rfl, ⟨rfl, ⟨rfl, trivial⟩⟩⟩ ?_
  have lp2 : ∀ (n2 : Nat) (i : Int) (y2_ : wZ), Rng y2_ → (0 ≤ i) → (i + n2 = z 0 0) → (∀ k', k' ≠ 66 → y2_ k' = y k') → (∀ a b, 0 ≤ a → a < i → 0 ≤ b → b < z 0 0 → y2_ 66 (a * 16 + b) = if a = b then 0 else 1000000) → JW p l e (rmL 1) s m args below meth c 5 D aC ad A shC (MQ below (cQv D aC ad shC (fun z_ y_ => z_ = z ∧ (fun y' => Rng y' ∧ (∀ k', k' ≠ 66 → y' k' = y k') ∧ FWI z 15 y' 0) y_) A) args s 0 0 A) 0 0 (zc z y2_) 2 [some (.ref (ad 1)), some (.ref (ad 7)), some (vi (i)), none, none] [] := by
    intro n2
    induction n2 with
    | zero => 
      intro i y2_ hRy2_ hi hn ho hp
      refine i_iload_n G dX2_startComparing_2 rfl ?_
      refine i_aload_n G dX2_startComparing_3 rfl ?_
      refine j_getz G F_X2_41 1 rfl rfl (by decide) dX2_startComparing_4 ?_
      have b4 : 0 ≤ z 0 0 ∧ z 0 0 ≤ 16 := hR 0 _
      refine i_icmp_ge (tgt := 54) G dX2_startComparing_7 (by decide) (by omega) (by omega) (fun h7 => ?_) (fun h7 => ?_)
      · skip
        refine i_iconst G dX2_startComparing_54 ?_
        refine i_istore_n (L' := [some (.ref (ad 1)), some (.ref (ad 7)), some (vi (0)), none, none]) G dX2_startComparing_55 (by decide) rfl ?_
        refine i_forget (L' := [some (.ref (ad 1)), some (.ref (ad 7)), some (vi (0)), none, none]) ⟨rfl, ⟨rfl, ⟨rfl, trivial⟩⟩⟩ ?_
        have lp56 : ∀ (n56 : Nat) (t : Int) (y56_ : wZ), Rng y56_ → (0 ≤ t) → (t + n56 = z 1 0) → (∀ k', k' ≠ 66 → y56_ k' = y k') → (SCI z 15 y56_ t) → JW p l e (rmL 1) s m args below meth c 5 D aC ad A shC (MQ below (cQv D aC ad shC (fun z_ y_ => z_ = z ∧ (fun y' => Rng y' ∧ (∀ k', k' ≠ 66 → y' k' = y k') ∧ FWI z 15 y' 0) y_) A) args s 0 0 A) 0 0 (zc z y56_) 56 [some (.ref (ad 1)), some (.ref (ad 7)), some (vi (t)), none, none] [] := by
          intro n56
          induction n56 with
          | zero => 
            intro t y56_ hRy56_ ht hq ho2 hS
            refine i_iload_n G dX2_startComparing_56 rfl ?_
            refine i_aload_n G dX2_startComparing_57 rfl ?_
            refine j_getz G F_X2_45 1 rfl rfl (by decide) dX2_startComparing_58 ?_
            have b58 : 0 ≤ z 1 0 ∧ z 1 0 ≤ 24 := hR 1 _
            refine i_icmp_ge (tgt := 158) G dX2_startComparing_61 (by decide) (by omega) (by omega) (fun h61 => ?_) (fun h61 => ?_)
            · skip
              refine j_retv G hr dX2_startComparing_158 ?_
              exact ⟨rfl, hRy56_, ho2, SCI_end (by rw [show z 1 0 = t by omega]; exact hS)⟩
            · skip
              exfalso; omega
          | succ n56 ih56 => 
            intro t y56_ hRy56_ ht hq ho2 hS
            refine i_iload_n G dX2_startComparing_56 rfl ?_
            refine i_aload_n G dX2_startComparing_57 rfl ?_
            refine j_getz G F_X2_45 1 rfl rfl (by decide) dX2_startComparing_58 ?_
            have b58 : 0 ≤ z 1 0 ∧ z 1 0 ≤ 24 := hR 1 _
            refine i_icmp_ge (tgt := 158) G dX2_startComparing_61 (by decide) (by omega) (by omega) (fun h61 => ?_) (fun h61 => ?_)
            · skip
              exfalso; omega
            · skip
              refine i_aload_n G dX2_startComparing_64 rfl ?_
              refine i_getr G F_X2_52 7 rfl rfl dX2_startComparing_65 ?_
              refine i_iload_n G dX2_startComparing_68 rfl ?_
              refine j_zald_z G 8 rfl (by decide) (by decide) (by omega) (by omega) dX2_startComparing_69 ?_
              have b69 : 0 ≤ z 15 t ∧ z 15 t ≤ 1 := hR 15 _
              refine i_if_ne (tgt := 152) G dX2_startComparing_70 (by decide) (by omega) (fun h70 => ?_) (fun h70 => ?_)
              · skip
                refine i_iinc (L' := [some (.ref (ad 1)), some (.ref (ad 7)), some (vi (t + 1)), none, none]) G dX2_startComparing_152 (by decide) rfl rfl ?_
                refine i_goto (tgt := 56) G dX2_startComparing_155 (by decide) ?_
                refine i_forget (L' := [some (.ref (ad 1)), some (.ref (ad 7)), some (vi (t + 1)), none, none]) ⟨rfl, ⟨rfl, ⟨rfl, trivial⟩⟩⟩ ?_
                exact ih56 (t + 1) y56_ hRy56_ (by omega) (by omega) ho2 (SCI_skip hS h70)
              · skip
                refine i_aload_n G dX2_startComparing_73 rfl ?_
                refine i_getr G F_X2_15 1 rfl rfl dX2_startComparing_74 ?_
                refine i_iload_n G dX2_startComparing_77 rfl ?_
                refine j_iald_z G 3 rfl (by decide) (by decide) (by omega) (by omega) dX2_startComparing_78 ?_
                have b78 : 0 ≤ z 11 t ∧ z 11 t ≤ 15 := hR 11 _
                refine i_bipush G dX2_startComparing_79 (by decide) ?_
                refine i_imul G dX2_startComparing_81 ?_
                refine i_aload_n G dX2_startComparing_82 rfl ?_
                refine i_getr G F_X2_19 1 rfl rfl dX2_startComparing_83 ?_
                refine i_iload_n G dX2_startComparing_86 rfl ?_
                refine j_iald_z G 4 rfl (by decide) (by decide) (by omega) (by omega) dX2_startComparing_87 ?_
                have b87 : 0 ≤ z 12 t ∧ z 12 t ≤ 15 := hR 12 _
                refine i_iadd G dX2_startComparing_88 ?_
                refine i_istore_n (L' := [some (.ref (ad 1)), some (.ref (ad 7)), some (vi (t)), some (vi ((((z 11 t) * 16) + (z 12 t)))), none]) G dX2_startComparing_89 (by decide) rfl ?_
                refine i_aload_n G dX2_startComparing_90 rfl ?_
                refine i_getr G F_X2_19 1 rfl rfl dX2_startComparing_91 ?_
                refine i_iload_n G dX2_startComparing_94 rfl ?_
                refine j_iald_z G 4 rfl (by decide) (by decide) (by omega) (by omega) dX2_startComparing_95 ?_
                have b95 : 0 ≤ z 12 t ∧ z 12 t ≤ 15 := hR 12 _
                refine i_bipush G dX2_startComparing_96 (by decide) ?_
                refine i_imul G dX2_startComparing_98 ?_
                refine i_aload_n G dX2_startComparing_99 rfl ?_
                refine i_getr G F_X2_15 1 rfl rfl dX2_startComparing_100 ?_
                refine i_iload_n G dX2_startComparing_103 rfl ?_
                refine j_iald_z G 3 rfl (by decide) (by decide) (by omega) (by omega) dX2_startComparing_104 ?_
                have b104 : 0 ≤ z 11 t ∧ z 11 t ≤ 15 := hR 11 _
                refine i_iadd G dX2_startComparing_105 ?_
                refine i_istore (L' := [some (.ref (ad 1)), some (.ref (ad 7)), some (vi (t)), some (vi ((((z 11 t) * 16) + (z 12 t)))), some (vi ((((z 12 t) * 16) + (z 11 t))))]) G dX2_startComparing_106 (by decide) rfl ?_
                refine i_aload_n G dX2_startComparing_108 rfl ?_
                refine i_getr G F_X2_38 1 rfl rfl dX2_startComparing_109 ?_
                refine i_iload_n G dX2_startComparing_112 rfl ?_
                refine i_aload_n G dX2_startComparing_113 rfl ?_
                refine i_getr G F_X2_38 1 rfl rfl dX2_startComparing_114 ?_
                refine i_iload_n G dX2_startComparing_117 rfl ?_
                refine j_iald_y G 13 rfl (by decide) (by decide) (by omega) (by omega) dX2_startComparing_118 ?_
                have b118 : 0 ≤ y56_ 66 (((z 11 t) * 16) + (z 12 t)) ∧ y56_ 66 (((z 11 t) * 16) + (z 12 t)) ≤ 1000000 := hRy56_ 66 _
                refine i_aload_n G dX2_startComparing_119 rfl ?_
                refine i_getr G F_X2_22 1 rfl rfl dX2_startComparing_120 ?_
                refine i_iload_n G dX2_startComparing_123 rfl ?_
                refine j_iald_z G 5 rfl (by decide) (by decide) (by omega) (by omega) dX2_startComparing_124 ?_
                have b124 : 0 ≤ z 13 t ∧ z 13 t ≤ 300 := hR 13 _
                refine i_min (st := [vi ((((z 11 t) * 16) + (z 12 t))), .ref (ad 13)]) G K_X2_87 ⟨by decide, Nat.le_of_ble_eq_true rfl, Nat.le_refl _, Nat.le_refl _⟩ (by omega) (by omega) dX2_startComparing_125 ?_
                obtain ⟨m125, em125⟩ : ∃ x_ : Int, x_ = (if (z 13 t) < (y56_ 66 (((z 11 t) * 16) + (z 12 t))) then (z 13 t) else (y56_ 66 (((z 11 t) * 16) + (z 12 t)))) := ⟨_, rfl⟩
                rw [← em125]
                have bm125 : ((z 13 t) ≤ (y56_ 66 (((z 11 t) * 16) + (z 12 t))) ∧ m125 = (z 13 t)) ∨ ((y56_ 66 (((z 11 t) * 16) + (z 12 t))) ≤ (z 13 t) ∧ m125 = (y56_ 66 (((z 11 t) * 16) + (z 12 t)))) := by rw [em125]; split <;> omega
                refine j_iast_y G 13 rfl (by decide) (by decide) (by omega) (by omega) (by decide) hRy56_ (by show (0 : Int) ≤ _ ∧ _ ≤ (1000000 : Int); omega) dX2_startComparing_128 (fun y128 ey128 hRy128 => ?_)
                refine i_aload_n G dX2_startComparing_129 rfl ?_
                refine i_getr G F_X2_38 1 rfl rfl dX2_startComparing_130 ?_
                refine i_iload G dX2_startComparing_133 rfl ?_
                refine i_aload_n G dX2_startComparing_135 rfl ?_
                refine i_getr G F_X2_38 1 rfl rfl dX2_startComparing_136 ?_
                refine i_iload G dX2_startComparing_139 rfl ?_
                refine j_iald_y G 13 rfl (by decide) (by decide) (by omega) (by omega) dX2_startComparing_141 ?_
                have b141 : 0 ≤ y128 66 (((z 12 t) * 16) + (z 11 t)) ∧ y128 66 (((z 12 t) * 16) + (z 11 t)) ≤ 1000000 := hRy128 66 _
                refine i_aload_n G dX2_startComparing_142 rfl ?_
                refine i_getr G F_X2_25 1 rfl rfl dX2_startComparing_143 ?_
                refine i_iload_n G dX2_startComparing_146 rfl ?_
                refine j_iald_z G 6 rfl (by decide) (by decide) (by omega) (by omega) dX2_startComparing_147 ?_
                have b147 : 0 ≤ z 14 t ∧ z 14 t ≤ 300 := hR 14 _
                refine i_min (st := [vi ((((z 12 t) * 16) + (z 11 t))), .ref (ad 13)]) G K_X2_87 ⟨by decide, Nat.le_of_ble_eq_true rfl, Nat.le_refl _, Nat.le_refl _⟩ (by omega) (by omega) dX2_startComparing_148 ?_
                obtain ⟨m148, em148⟩ : ∃ x_ : Int, x_ = (if (z 14 t) < (y128 66 (((z 12 t) * 16) + (z 11 t))) then (z 14 t) else (y128 66 (((z 12 t) * 16) + (z 11 t)))) := ⟨_, rfl⟩
                rw [← em148]
                have bm148 : ((z 14 t) ≤ (y128 66 (((z 12 t) * 16) + (z 11 t))) ∧ m148 = (z 14 t)) ∨ ((y128 66 (((z 12 t) * 16) + (z 11 t))) ≤ (z 14 t) ∧ m148 = (y128 66 (((z 12 t) * 16) + (z 11 t)))) := by rw [em148]; split <;> omega
                refine j_iast_y G 13 rfl (by decide) (by decide) (by omega) (by omega) (by decide) hRy128 (by show (0 : Int) ≤ _ ∧ _ ≤ (1000000 : Int); omega) dX2_startComparing_151 (fun y151 ey151 hRy151 => ?_)
                refine i_iinc (L' := [some (.ref (ad 1)), some (.ref (ad 7)), some (vi (t + 1)), some (vi ((((z 11 t) * 16) + (z 12 t)))), some (vi ((((z 12 t) * 16) + (z 11 t))))]) G dX2_startComparing_152 (by decide) rfl rfl ?_
                refine i_goto (tgt := 56) G dX2_startComparing_155 (by decide) ?_
                refine i_forget (L' := [some (.ref (ad 1)), some (.ref (ad 7)), some (vi (t + 1)), none, none]) ⟨rfl, ⟨rfl, ⟨rfl, trivial⟩⟩⟩ ?_
                have hw := hW t ht (by omega)
                have hX := SCI_step (u := m125) (v := m148) hW hR hS ht (by omega) h70 (by omega) (by subst ey128; rw [zp_ne _ (by omega)] at bm148; omega)
                exact ih56 (t + 1) y151 hRy151 (by omega) (by omega) (fun k' hk => by rw [ey151, ey128, zp_nk _ hk, zp_nk _ hk]; exact ho2 k' hk) (by rw [ey151, ey128]; exact hX)
        exact lp56 (z 1 0).toNat 0 y2_ hRy2_ (by omega) (by omega) ho (SCI_0 hW hR (fun a b a0 a1 b0 b1 => hp a b a0 (by omega) b0 b1))
      · skip
        exfalso; omega
    | succ n2 ih2 => 
      intro i y2_ hRy2_ hi hn ho hp
      refine i_iload_n G dX2_startComparing_2 rfl ?_
      refine i_aload_n G dX2_startComparing_3 rfl ?_
      refine j_getz G F_X2_41 1 rfl rfl (by decide) dX2_startComparing_4 ?_
      have b4 : 0 ≤ z 0 0 ∧ z 0 0 ≤ 16 := hR 0 _
      refine i_icmp_ge (tgt := 54) G dX2_startComparing_7 (by decide) (by omega) (by omega) (fun h7 => ?_) (fun h7 => ?_)
      · skip
        exfalso; omega
      · skip
        refine i_iconst G dX2_startComparing_10 ?_
        refine i_istore_n (L' := [some (.ref (ad 1)), some (.ref (ad 7)), some (vi (i)), some (vi (0)), none]) G dX2_startComparing_11 (by decide) rfl ?_
        have lp12 : ∀ (n12 : Nat) (j : Int) (y12_ : wZ), Rng y12_ → (0 ≤ j) → (j + n12 = z 0 0) → (∀ k', k' ≠ 66 → y12_ k' = y k') → (∀ a b, 0 ≤ a → 0 ≤ b → b < z 0 0 → (a < i ∨ (a = i ∧ b < j)) → y12_ 66 (a * 16 + b) = if a = b then 0 else 1000000) → JW p l e (rmL 1) s m args below meth c 5 D aC ad A shC (MQ below (cQv D aC ad shC (fun z_ y_ => z_ = z ∧ (fun y' => Rng y' ∧ (∀ k', k' ≠ 66 → y' k' = y k') ∧ FWI z 15 y' 0) y_) A) args s 0 0 A) 0 0 (zc z y12_) 12 [some (.ref (ad 1)), some (.ref (ad 7)), some (vi (i)), some (vi (j)), none] [] := by
          intro n12
          induction n12 with
          | zero => 
            intro j y12_ hRy12_ hj hm ho' hp'
            refine i_iload_n G dX2_startComparing_12 rfl ?_
            refine i_aload_n G dX2_startComparing_13 rfl ?_
            refine j_getz G F_X2_41 1 rfl rfl (by decide) dX2_startComparing_14 ?_
            have b14 : 0 ≤ z 0 0 ∧ z 0 0 ≤ 16 := hR 0 _
            refine i_icmp_ge (tgt := 48) G dX2_startComparing_17 (by decide) (by omega) (by omega) (fun h17 => ?_) (fun h17 => ?_)
            · skip
              refine i_iinc (L' := [some (.ref (ad 1)), some (.ref (ad 7)), some (vi (i + 1)), some (vi (j)), none]) G dX2_startComparing_48 (by decide) rfl rfl ?_
              refine i_goto (tgt := 2) G dX2_startComparing_51 (by decide) ?_
              refine i_forget (L' := [some (.ref (ad 1)), some (.ref (ad 7)), some (vi (i + 1)), none, none]) ⟨rfl, ⟨rfl, ⟨rfl, trivial⟩⟩⟩ ?_
              exact ih2 (i + 1) y12_ hRy12_ (by omega) (by omega) ho' (fun a b h1 h2 h3 h4 => hp' a b h1 h3 h4 (by omega))
            · skip
              exfalso; omega
          | succ n12 ih12 => 
            intro j y12_ hRy12_ hj hm ho' hp'
            refine i_iload_n G dX2_startComparing_12 rfl ?_
            refine i_aload_n G dX2_startComparing_13 rfl ?_
            refine j_getz G F_X2_41 1 rfl rfl (by decide) dX2_startComparing_14 ?_
            have b14 : 0 ≤ z 0 0 ∧ z 0 0 ≤ 16 := hR 0 _
            refine i_icmp_ge (tgt := 48) G dX2_startComparing_17 (by decide) (by omega) (by omega) (fun h17 => ?_) (fun h17 => ?_)
            · skip
              exfalso; omega
            · skip
              refine i_aload_n G dX2_startComparing_20 rfl ?_
              refine i_getr G F_X2_38 1 rfl rfl dX2_startComparing_21 ?_
              refine i_iload_n G dX2_startComparing_24 rfl ?_
              refine i_bipush G dX2_startComparing_25 (by decide) ?_
              refine i_imul G dX2_startComparing_27 ?_
              refine i_iload_n G dX2_startComparing_28 rfl ?_
              refine i_iadd G dX2_startComparing_29 ?_
              refine i_iload_n G dX2_startComparing_30 rfl ?_
              refine i_iload_n G dX2_startComparing_31 rfl ?_
              refine i_icmp_ne (tgt := 39) G dX2_startComparing_32 (by decide) (by omega) (by omega) (fun h32 => ?_) (fun h32 => ?_)
              · skip
                refine i_ldc G 1000000 kc_X2_59 dX2_startComparing_39 ?_
                refine j_iast_y G 13 rfl (by decide) (by decide) (by omega) (by omega) (by decide) hRy12_ (by show (0 : Int) ≤ _ ∧ _ ≤ (1000000 : Int); omega) dX2_startComparing_41 (fun y41 ey41 hRy41 => ?_)
                refine i_iinc (L' := [some (.ref (ad 1)), some (.ref (ad 7)), some (vi (i)), some (vi (j + 1)), none]) G dX2_startComparing_42 (by decide) rfl rfl ?_
                refine i_goto (tgt := 12) G dX2_startComparing_45 (by decide) ?_
                exact ih12 (j + 1) y41 hRy41 (by omega) (by omega) (fun k' hk => by rw [ey41, zp_nk _ hk]; exact ho' k' hk) (fun a b h1 h2 h3 h4 => by
                  rw [ey41]
                  unfold zp
                  by_cases hx : a = i ∧ b = j
                  · rw [if_pos ⟨rfl, by omega⟩]; first | rw [if_pos (by omega)] | rw [if_neg (by omega)]
                  · rw [if_neg (by omega)]; exact hp' a b h1 h2 h3 (by omega))
              · skip
                refine i_iconst G dX2_startComparing_35 ?_
                refine i_goto (tgt := 41) G dX2_startComparing_36 (by decide) ?_
                refine j_iast_y G 13 rfl (by decide) (by decide) (by omega) (by omega) (by decide) hRy12_ (by show (0 : Int) ≤ _ ∧ _ ≤ (1000000 : Int); omega) dX2_startComparing_41 (fun y41 ey41 hRy41 => ?_)
                refine i_iinc (L' := [some (.ref (ad 1)), some (.ref (ad 7)), some (vi (i)), some (vi (j + 1)), none]) G dX2_startComparing_42 (by decide) rfl rfl ?_
                refine i_goto (tgt := 12) G dX2_startComparing_45 (by decide) ?_
                exact ih12 (j + 1) y41 hRy41 (by omega) (by omega) (fun k' hk => by rw [ey41, zp_nk _ hk]; exact ho' k' hk) (fun a b h1 h2 h3 h4 => by
                  rw [ey41]
                  unfold zp
                  by_cases hx : a = i ∧ b = j
                  · rw [if_pos ⟨rfl, by omega⟩]; first | rw [if_pos (by omega)] | rw [if_neg (by omega)]
                  · rw [if_neg (by omega)]; exact hp' a b h1 h2 h3 (by omega))
        exact lp12 (z 0 0).toNat 0 y2_ hRy2_ (by omega) (by omega) ho (fun a b h1 h2 h3 h4 => hp a b h1 (by omega) h2 h3)
  exact lp2 (z 0 0).toNat 0 y hY (by omega) (by omega) (fun _ _ => rfl) (fun a b h1 h2 => by omega)
set_option maxHeartbeats 4000000 in
set_option maxRecDepth 100000 in
theorem c_allowBetween (l : Launch) {D : va_G} {aC : Nat → ClassId} {ad : Nat → Nat} (hd : wDi ad shC) {z y : wZ} (hR : Rng z) (hY : Rng y) (k : Int) (hk : 0 ≤ k ∧ k < z 0 0) (hd0 : y 66 (k * 16 + k) = 0) : cYv l D aC ad shC yX2_allowBetween cX2_allowBetween 6 (rmL 1) [.ref (ad 1), vi k] z y (fun y' => Rng y' ∧ (∀ k', k' ≠ 66 → y' k' = y k') ∧ ∀ a b, 0 ≤ a → a < z 0 0 → 0 ≤ b → b < z 0 0 → y' 66 (a * 16 + b) = mnF y k a b) := by
  refine c_v [some (.ref (ad 1)), some (vi (k)), none, none, none, none] (by decide +kernel) rfl (Nat.le_of_ble_eq_true rfl) rfl hd ?_
  intro p e s m args below meth c A G hr
  have b_0 : 0 ≤ z 0 0 ∧ z 0 0 ≤ 16 := hR 0 0
  have hkk : ∀ b, 0 ≤ b → b < z 0 0 → mnF y k k b = y 66 (k * 16 + b) := fun b _ _ => by unfold mnF; rw [hd0, if_neg (by omega)]
  refine i_iconst G dX2_allowBetween_0 ?_
  refine i_istore_n (L' := [some (.ref (ad 1)), some (vi (k)), some (vi (0)), none, none, none]) G dX2_allowBetween_1 (by decide) rfl ?_
  refine i_forget (L' := [some (.ref (ad 1)), some (vi (k)), some (vi (0)), none, none, none]) ⟨rfl, ⟨rfl, ⟨rfl, trivial⟩⟩⟩ ?_
  have lp2 : ∀ (n2 : Nat) (i : Int) (y2_ : wZ), Rng y2_ → (0 ≤ i) → (i + n2 = z 0 0) → (∀ k', k' ≠ 66 → y2_ k' = y k') → (∀ a b, 0 ≤ a → a < z 0 0 → 0 ≤ b → b < z 0 0 → y2_ 66 (a * 16 + b) = if a < i then mnF y k a b else y 66 (a * 16 + b)) → JW p l e (rmL 1) s m args below meth c 6 D aC ad A shC (MQ below (cQv D aC ad shC (fun z_ y_ => z_ = z ∧ (fun y' => Rng y' ∧ (∀ k', k' ≠ 66 → y' k' = y k') ∧ ∀ a b, 0 ≤ a → a < z 0 0 → 0 ≤ b → b < z 0 0 → y' 66 (a * 16 + b) = mnF y k a b) y_) A) args s 0 0 A) 0 0 (zc z y2_) 2 [some (.ref (ad 1)), some (vi (k)), some (vi (i)), none, none, none] [] := by
    intro n2
    induction n2 with
    | zero => 
      intro i y2_ hRy2_ hi hn ho hp
      refine i_iload_n G dX2_allowBetween_2 rfl ?_
      refine i_aload_n G dX2_allowBetween_3 rfl ?_
      refine j_getz G F_X2_41 1 rfl rfl (by decide) dX2_allowBetween_4 ?_
      have b4 : 0 ≤ z 0 0 ∧ z 0 0 ≤ 16 := hR 0 _
      refine i_icmp_ge (tgt := 86) G dX2_allowBetween_7 (by decide) (by omega) (by omega) (fun h7 => ?_) (fun h7 => ?_)
      · skip
        refine j_retv G hr dX2_allowBetween_86 ?_
        exact ⟨rfl, hRy2_, ho, fun a b a0 a1 b0 b1 => by rw [hp a b a0 a1 b0 b1, if_pos (by omega)]⟩
      · skip
        exfalso; omega
    | succ n2 ih2 => 
      intro i y2_ hRy2_ hi hn ho hp
      refine i_iload_n G dX2_allowBetween_2 rfl ?_
      refine i_aload_n G dX2_allowBetween_3 rfl ?_
      refine j_getz G F_X2_41 1 rfl rfl (by decide) dX2_allowBetween_4 ?_
      have b4 : 0 ≤ z 0 0 ∧ z 0 0 ≤ 16 := hR 0 _
      refine i_icmp_ge (tgt := 86) G dX2_allowBetween_7 (by decide) (by omega) (by omega) (fun h7 => ?_) (fun h7 => ?_)
      · skip
        exfalso; omega
      · skip
        refine i_aload_n G dX2_allowBetween_10 rfl ?_
        refine i_getr G F_X2_38 1 rfl rfl dX2_allowBetween_11 ?_
        refine i_iload_n G dX2_allowBetween_14 rfl ?_
        refine i_bipush G dX2_allowBetween_15 (by decide) ?_
        refine i_imul G dX2_allowBetween_17 ?_
        refine i_iload_n G dX2_allowBetween_18 rfl ?_
        refine i_iadd G dX2_allowBetween_19 ?_
        refine j_iald_y G 13 rfl (by decide) (by decide) (by omega) (by omega) dX2_allowBetween_20 ?_
        have b20 : 0 ≤ y2_ 66 ((i * 16) + k) ∧ y2_ 66 ((i * 16) + k) ≤ 1000000 := hRy2_ 66 _
        refine i_istore_n (L' := [some (.ref (ad 1)), some (vi (k)), some (vi (i)), some (vi ((y2_ 66 ((i * 16) + k)))), none, none]) G dX2_allowBetween_21 (by decide) rfl ?_
        refine i_iconst G dX2_allowBetween_22 ?_
        refine i_istore (L' := [some (.ref (ad 1)), some (vi (k)), some (vi (i)), some (vi ((y2_ 66 ((i * 16) + k)))), some (vi (0)), none]) G dX2_allowBetween_23 (by decide) rfl ?_
        refine i_forget (L' := [some (.ref (ad 1)), some (vi (k)), some (vi (i)), some (vi ((y2_ 66 ((i * 16) + k)))), some (vi (0)), none]) ⟨rfl, ⟨rfl, ⟨rfl, ⟨rfl, ⟨rfl, trivial⟩⟩⟩⟩⟩ ?_
        have lp25 : ∀ (n25 : Nat) (j : Int) (y25_ : wZ), Rng y25_ → (0 ≤ j) → (j + n25 = z 0 0) → (∀ k', k' ≠ 66 → y25_ k' = y k') → (∀ a b, 0 ≤ a → a < z 0 0 → 0 ≤ b → b < z 0 0 → y25_ 66 (a * 16 + b) = if a < i ∨ (a = i ∧ b < j) then mnF y k a b else y 66 (a * 16 + b)) → JW p l e (rmL 1) s m args below meth c 6 D aC ad A shC (MQ below (cQv D aC ad shC (fun z_ y_ => z_ = z ∧ (fun y' => Rng y' ∧ (∀ k', k' ≠ 66 → y' k' = y k') ∧ ∀ a b, 0 ≤ a → a < z 0 0 → 0 ≤ b → b < z 0 0 → y' 66 (a * 16 + b) = mnF y k a b) y_) A) args s 0 0 A) 0 0 (zc z y25_) 25 [some (.ref (ad 1)), some (vi (k)), some (vi (i)), some (vi ((y2_ 66 ((i * 16) + k)))), some (vi (j)), none] [] := by
          intro n25
          induction n25 with
          | zero => 
            intro j y25_ hRy25_ hj hm ho' hp'
            refine i_iload G dX2_allowBetween_25 rfl ?_
            refine i_aload_n G dX2_allowBetween_27 rfl ?_
            refine j_getz G F_X2_41 1 rfl rfl (by decide) dX2_allowBetween_28 ?_
            have b28 : 0 ≤ z 0 0 ∧ z 0 0 ≤ 16 := hR 0 _
            refine i_icmp_ge (tgt := 80) G dX2_allowBetween_31 (by decide) (by omega) (by omega) (fun h31 => ?_) (fun h31 => ?_)
            · skip
              refine i_iinc (L' := [some (.ref (ad 1)), some (vi (k)), some (vi (i + 1)), some (vi ((y2_ 66 ((i * 16) + k)))), some (vi (j)), none]) G dX2_allowBetween_80 (by decide) rfl rfl ?_
              refine i_goto (tgt := 2) G dX2_allowBetween_83 (by decide) ?_
              refine i_forget (L' := [some (.ref (ad 1)), some (vi (k)), some (vi (i + 1)), none, none, none]) ⟨rfl, ⟨rfl, ⟨rfl, trivial⟩⟩⟩ ?_
              have hX : ∀ a b, 0 ≤ a → a < z 0 0 → 0 ≤ b → b < z 0 0 → y25_ 66 (a * 16 + b) = if a < i + 1 then mnF y k a b else y 66 (a * 16 + b) := fun a b h1 h2 h3 h4 => by
                rw [hp' a b h1 h2 h3 h4]
                by_cases c1 : a < i ∨ (a = i ∧ b < j)
                · rw [if_pos c1, if_pos (by omega)]
                · rw [if_neg c1, if_neg (by omega)]
              exact ih2 (i + 1) y25_ hRy25_ (by omega) (by omega) ho' hX
            · skip
              exfalso; omega
          | succ n25 ih25 => 
            intro j y25_ hRy25_ hj hm ho' hp'
            refine i_iload G dX2_allowBetween_25 rfl ?_
            refine i_aload_n G dX2_allowBetween_27 rfl ?_
            refine j_getz G F_X2_41 1 rfl rfl (by decide) dX2_allowBetween_28 ?_
            have b28 : 0 ≤ z 0 0 ∧ z 0 0 ≤ 16 := hR 0 _
            refine i_icmp_ge (tgt := 80) G dX2_allowBetween_31 (by decide) (by omega) (by omega) (fun h31 => ?_) (fun h31 => ?_)
            · skip
              exfalso; omega
            · skip
              refine i_iload_n G dX2_allowBetween_34 rfl ?_
              refine i_bipush G dX2_allowBetween_35 (by decide) ?_
              refine i_imul G dX2_allowBetween_37 ?_
              refine i_iload G dX2_allowBetween_38 rfl ?_
              refine i_iadd G dX2_allowBetween_40 ?_
              refine i_istore (L' := [some (.ref (ad 1)), some (vi (k)), some (vi (i)), some (vi ((y2_ 66 ((i * 16) + k)))), some (vi (j)), some (vi (((i * 16) + j)))]) G dX2_allowBetween_41 (by decide) rfl ?_
              refine i_aload_n G dX2_allowBetween_43 rfl ?_
              refine i_getr G F_X2_38 1 rfl rfl dX2_allowBetween_44 ?_
              refine i_iload G dX2_allowBetween_47 rfl ?_
              refine i_aload_n G dX2_allowBetween_49 rfl ?_
              refine i_getr G F_X2_38 1 rfl rfl dX2_allowBetween_50 ?_
              refine i_iload G dX2_allowBetween_53 rfl ?_
              refine j_iald_y G 13 rfl (by decide) (by decide) (by omega) (by omega) dX2_allowBetween_55 ?_
              have b55 : 0 ≤ y25_ 66 ((i * 16) + j) ∧ y25_ 66 ((i * 16) + j) ≤ 1000000 := hRy25_ 66 _
              refine i_iload_n G dX2_allowBetween_56 rfl ?_
              refine i_aload_n G dX2_allowBetween_57 rfl ?_
              refine i_getr G F_X2_38 1 rfl rfl dX2_allowBetween_58 ?_
              refine i_iload_n G dX2_allowBetween_61 rfl ?_
              refine i_bipush G dX2_allowBetween_62 (by decide) ?_
              refine i_imul G dX2_allowBetween_64 ?_
              refine i_iload G dX2_allowBetween_65 rfl ?_
              refine i_iadd G dX2_allowBetween_67 ?_
              refine j_iald_y G 13 rfl (by decide) (by decide) (by omega) (by omega) dX2_allowBetween_68 ?_
              have b68 : 0 ≤ y25_ 66 ((k * 16) + j) ∧ y25_ 66 ((k * 16) + j) ≤ 1000000 := hRy25_ 66 _
              refine i_iadd G dX2_allowBetween_69 ?_
              refine i_min (st := [vi (((i * 16) + j)), .ref (ad 13)]) G K_X2_87 ⟨by decide, Nat.le_of_ble_eq_true rfl, Nat.le_refl _, Nat.le_refl _⟩ (by omega) (by omega) dX2_allowBetween_70 ?_
              obtain ⟨m70, em70⟩ : ∃ x_ : Int, x_ = (if ((y2_ 66 ((i * 16) + k)) + (y25_ 66 ((k * 16) + j))) < (y25_ 66 ((i * 16) + j)) then ((y2_ 66 ((i * 16) + k)) + (y25_ 66 ((k * 16) + j))) else (y25_ 66 ((i * 16) + j))) := ⟨_, rfl⟩
              rw [← em70]
              have bm70 : (((y2_ 66 ((i * 16) + k)) + (y25_ 66 ((k * 16) + j))) ≤ (y25_ 66 ((i * 16) + j)) ∧ m70 = ((y2_ 66 ((i * 16) + k)) + (y25_ 66 ((k * 16) + j)))) ∨ ((y25_ 66 ((i * 16) + j)) ≤ ((y2_ 66 ((i * 16) + k)) + (y25_ 66 ((k * 16) + j))) ∧ m70 = (y25_ 66 ((i * 16) + j))) := by rw [em70]; split <;> omega
              refine j_iast_y G 13 rfl (by decide) (by decide) (by omega) (by omega) (by decide) hRy25_ (by show (0 : Int) ≤ _ ∧ _ ≤ (1000000 : Int); omega) dX2_allowBetween_73 (fun y73 ey73 hRy73 => ?_)
              refine i_iinc (L' := [some (.ref (ad 1)), some (vi (k)), some (vi (i)), some (vi ((y2_ 66 ((i * 16) + k)))), some (vi (j + 1)), some (vi (((i * 16) + j)))]) G dX2_allowBetween_74 (by decide) rfl rfl ?_
              refine i_goto (tgt := 25) G dX2_allowBetween_77 (by decide) ?_
              refine i_forget (L' := [some (.ref (ad 1)), some (vi (k)), some (vi (i)), some (vi ((y2_ 66 ((i * 16) + k)))), some (vi (j + 1)), none]) ⟨rfl, ⟨rfl, ⟨rfl, ⟨rfl, ⟨rfl, trivial⟩⟩⟩⟩⟩ ?_
              exact ih25 (j + 1) y73 hRy73 (by omega) (by omega) (fun k' hk => by rw [ey73, zp_nk _ hk]; exact ho' k' hk) (fun a b h1 h2 h3 h4 => by
                have q0 := hp i k hi (by omega) hk.1 hk.2
                rw [if_neg (by omega)] at q0
                have q1 := hp' i j hi (by omega) hj (by omega)
                rw [if_neg (by omega)] at q1
                have q2 : y25_ 66 (k * 16 + j) = y 66 (k * 16 + j) := by
                  rw [hp' k j hk.1 hk.2 hj (by omega)]
                  split
                  · exact hkk j hj (by omega)
                  · rfl
                rw [ey73]
                by_cases hx : a = i ∧ b = j
                · rw [if_pos (by omega), hx.1, hx.2, zp_same, em70, q0, q1, q2]; rfl
                · rw [zp_ne _ (by omega), hp' a b h1 h2 h3 h4]
                  by_cases c1 : a < i ∨ (a = i ∧ b < j)
                  · rw [if_pos c1, if_pos (by omega)]
                  · rw [if_neg c1, if_neg (by omega)])
        have hX : ∀ a b, 0 ≤ a → a < z 0 0 → 0 ≤ b → b < z 0 0 → y2_ 66 (a * 16 + b) = if a < i ∨ (a = i ∧ b < 0) then mnF y k a b else y 66 (a * 16 + b) := fun a b h1 h2 h3 h4 => by
          rw [hp a b h1 h2 h3 h4]
          by_cases c1 : a < i
          · rw [if_pos c1, if_pos (Or.inl c1)]
          · rw [if_neg c1, if_neg (by omega)]
        exact lp25 (z 0 0).toNat 0 y2_ hRy2_ (by omega) (by omega) ho hX
  exact lp2 (z 0 0).toNat 0 y hY (by omega) (by omega) (fun _ _ => rfl) (fun a b h1 h2 h3 h4 => by rw [if_neg (by omega)])
set_option maxHeartbeats 4000000 in
set_option maxRecDepth 100000 in
theorem c_hasLeastMinutes_0 (l : Launch) {D : va_G} {aC : Nat → ClassId} {ad : Nat → Nat} (hd : wDi ad shC) {z y : wZ} (hR : Rng z) (hY : Rng y)  (hW : WT z) (hC : CIv z y 16 65) : cYi l D aC ad shC yX2_hasLeastMinutes cX2_hasLeastMinutes 4 (.boolean) (rmL 2) [.ref (ad 1), .ref (ad 10)] z y (fun r y' => r = 1 ∧ Rng y' ∧ ∀ k', k' ≠ 66 → y' k' = y k') := by
  refine c_i [some (.ref (ad 1)), some (.ref (ad 10)), none, none] (by decide +kernel) rfl (Nat.le_of_ble_eq_true rfl) rfl hd ?_
  intro p e s m args below meth c A G hr
  have b_0 : 0 ≤ z 0 0 ∧ z 0 0 ≤ 16 := hR 0 0
  refine i_aload_n G dX2_hasLeastMinutes_0 rfl ?_
  refine i_aload_n G dX2_hasLeastMinutes_1 rfl ?_
  refine j_callYv (q0 := 1) (As := [.ref (ad 10)]) (st := []) G K_X2_80 (c_startComparing_0 l hd hR hY  (by first | assumption | omega)) rfl rfl rfl (rm_ok (by decide) (by decide)) ⟨Nat.le_refl _, Nat.le_refl _⟩ (Nat.le_of_ble_eq_true rfl) dX2_hasLeastMinutes_2 (fun y2 q2 => ?_)
  obtain ⟨hRy2, ho2, hI2⟩ := q2
  refine i_iconst G dX2_hasLeastMinutes_5 ?_
  refine i_istore_n (L' := [some (.ref (ad 1)), some (.ref (ad 10)), some (vi (0)), none]) G dX2_hasLeastMinutes_6 (by decide) rfl ?_
  refine i_forget (L' := [some (.ref (ad 1)), some (.ref (ad 10)), some (vi (0)), none]) ⟨rfl, ⟨rfl, ⟨rfl, trivial⟩⟩⟩ ?_
  have lp7 : ∀ (n7 : Nat) (i : Int) (y7_ : wZ), Rng y7_ → (0 ≤ i) → (i + n7 = z 0 0) → (∀ k', k' ≠ 66 → y7_ k' = y k') → (FWI z 16 y7_ i) → JW p l e (rmL 2) s m args below meth c 4 D aC ad A shC (MQ below (cQi D aC ad shC (fun r_ z_ y_ => z_ = z ∧ (fun r y' => r = 1 ∧ Rng y' ∧ ∀ k', k' ≠ 66 → y' k' = y k') r_ y_) A) args s 0 0 A) 0 0 (zc z y7_) 7 [some (.ref (ad 1)), some (.ref (ad 10)), some (vi (i)), none] [] := by
    intro n7
    induction n7 with
    | zero => 
      intro i y7_ hRy7_ hi hn ho hI
      refine i_iload_n G dX2_hasLeastMinutes_7 rfl ?_
      refine i_aload_n G dX2_hasLeastMinutes_8 rfl ?_
      refine j_getz G F_X2_41 1 rfl rfl (by decide) dX2_hasLeastMinutes_9 ?_
      have b9 : 0 ≤ z 0 0 ∧ z 0 0 ≤ 16 := hR 0 _
      refine i_icmp_ge (tgt := 26) G dX2_hasLeastMinutes_12 (by decide) (by omega) (by omega) (fun h12 => ?_) (fun h12 => ?_)
      · skip
        have hE : ∀ a b, 0 ≤ a → a < z 0 0 → 0 ≤ b → b < z 0 0 → y7_ 66 (a * 16 + b) = y7_ 65 (a * 16 + b) := fun a b a0 a1 b0 b1 => by
          rw [FWI_end hW hR hRy7_ (by rw [show z 0 0 = i by omega]; exact hI) a b a0 a1 b0 b1, ho 65 (by decide), hC a b a0 (by omega) b0 (by omega)]
        refine i_iconst G dX2_hasLeastMinutes_26 ?_
        refine i_istore_n (L' := [some (.ref (ad 1)), some (.ref (ad 10)), some (vi (0)), none]) G dX2_hasLeastMinutes_27 (by decide) rfl ?_
        refine i_forget (L' := [some (.ref (ad 1)), some (.ref (ad 10)), some (vi (0)), none]) ⟨rfl, ⟨rfl, ⟨rfl, trivial⟩⟩⟩ ?_
        have lp28 : ∀ (n28 : Nat) (a : Int), (0 ≤ a) → (a + n28 = z 0 0) → JW p l e (rmL 2) s m args below meth c 4 D aC ad A shC (MQ below (cQi D aC ad shC (fun r_ z_ y_ => z_ = z ∧ (fun r y' => r = 1 ∧ Rng y' ∧ ∀ k', k' ≠ 66 → y' k' = y k') r_ y_) A) args s 0 0 A) 0 0 (zc z y7_) 28 [some (.ref (ad 1)), some (.ref (ad 10)), some (vi (a)), none] [] := by
          intro n28
          induction n28 with
          | zero => 
            intro a ha hx
            refine i_iload_n G dX2_hasLeastMinutes_28 rfl ?_
            refine i_aload_n G dX2_hasLeastMinutes_29 rfl ?_
            refine j_getz G F_X2_41 1 rfl rfl (by decide) dX2_hasLeastMinutes_30 ?_
            have b30 : 0 ≤ z 0 0 ∧ z 0 0 ≤ 16 := hR 0 _
            refine i_icmp_ge (tgt := 80) G dX2_hasLeastMinutes_33 (by decide) (by omega) (by omega) (fun h33 => ?_) (fun h33 => ?_)
            · skip
              refine i_iconst G dX2_hasLeastMinutes_80 ?_
              refine j_retz G hr (by omega) dX2_hasLeastMinutes_81 ?_
              exact ⟨rfl, rfl, hRy7_, ho⟩
            · skip
              exfalso; omega
          | succ n28 ih28 => 
            intro a ha hx
            refine i_iload_n G dX2_hasLeastMinutes_28 rfl ?_
            refine i_aload_n G dX2_hasLeastMinutes_29 rfl ?_
            refine j_getz G F_X2_41 1 rfl rfl (by decide) dX2_hasLeastMinutes_30 ?_
            have b30 : 0 ≤ z 0 0 ∧ z 0 0 ≤ 16 := hR 0 _
            refine i_icmp_ge (tgt := 80) G dX2_hasLeastMinutes_33 (by decide) (by omega) (by omega) (fun h33 => ?_) (fun h33 => ?_)
            · skip
              exfalso; omega
            · skip
              refine i_iconst G dX2_hasLeastMinutes_36 ?_
              refine i_istore_n (L' := [some (.ref (ad 1)), some (.ref (ad 10)), some (vi (a)), some (vi (0))]) G dX2_hasLeastMinutes_37 (by decide) rfl ?_
              have lp38 : ∀ (n38 : Nat) (b : Int), (0 ≤ b) → (b + n38 = z 0 0) → JW p l e (rmL 2) s m args below meth c 4 D aC ad A shC (MQ below (cQi D aC ad shC (fun r_ z_ y_ => z_ = z ∧ (fun r y' => r = 1 ∧ Rng y' ∧ ∀ k', k' ≠ 66 → y' k' = y k') r_ y_) A) args s 0 0 A) 0 0 (zc z y7_) 38 [some (.ref (ad 1)), some (.ref (ad 10)), some (vi (a)), some (vi (b))] [] := by
                intro n38
                induction n38 with
                | zero => 
                  intro b hb hw
                  refine i_iload_n G dX2_hasLeastMinutes_38 rfl ?_
                  refine i_aload_n G dX2_hasLeastMinutes_39 rfl ?_
                  refine j_getz G F_X2_41 1 rfl rfl (by decide) dX2_hasLeastMinutes_40 ?_
                  have b40 : 0 ≤ z 0 0 ∧ z 0 0 ≤ 16 := hR 0 _
                  refine i_icmp_ge (tgt := 74) G dX2_hasLeastMinutes_43 (by decide) (by omega) (by omega) (fun h43 => ?_) (fun h43 => ?_)
                  · skip
                    refine i_iinc (L' := [some (.ref (ad 1)), some (.ref (ad 10)), some (vi (a + 1)), some (vi (b))]) G dX2_hasLeastMinutes_74 (by decide) rfl rfl ?_
                    refine i_goto (tgt := 28) G dX2_hasLeastMinutes_77 (by decide) ?_
                    refine i_forget (L' := [some (.ref (ad 1)), some (.ref (ad 10)), some (vi (a + 1)), none]) ⟨rfl, ⟨rfl, ⟨rfl, trivial⟩⟩⟩ ?_
                    exact ih28 (a + 1) (by omega) (by omega)
                  · skip
                    exfalso; omega
                | succ n38 ih38 => 
                  intro b hb hw
                  refine i_iload_n G dX2_hasLeastMinutes_38 rfl ?_
                  refine i_aload_n G dX2_hasLeastMinutes_39 rfl ?_
                  refine j_getz G F_X2_41 1 rfl rfl (by decide) dX2_hasLeastMinutes_40 ?_
                  have b40 : 0 ≤ z 0 0 ∧ z 0 0 ≤ 16 := hR 0 _
                  refine i_icmp_ge (tgt := 74) G dX2_hasLeastMinutes_43 (by decide) (by omega) (by omega) (fun h43 => ?_) (fun h43 => ?_)
                  · skip
                    exfalso; omega
                  · skip
                    refine i_aload_n G dX2_hasLeastMinutes_46 rfl ?_
                    refine i_getr G F_X2_38 1 rfl rfl dX2_hasLeastMinutes_47 ?_
                    refine i_iload_n G dX2_hasLeastMinutes_50 rfl ?_
                    refine i_bipush G dX2_hasLeastMinutes_51 (by decide) ?_
                    refine i_imul G dX2_hasLeastMinutes_53 ?_
                    refine i_iload_n G dX2_hasLeastMinutes_54 rfl ?_
                    refine i_iadd G dX2_hasLeastMinutes_55 ?_
                    refine j_iald_y G 13 rfl (by decide) (by decide) (by omega) (by omega) dX2_hasLeastMinutes_56 ?_
                    have b56 : 0 ≤ y7_ 66 ((a * 16) + b) ∧ y7_ 66 ((a * 16) + b) ≤ 1000000 := hRy7_ 66 _
                    refine i_aload_n G dX2_hasLeastMinutes_57 rfl ?_
                    refine i_iload_n G dX2_hasLeastMinutes_58 rfl ?_
                    refine i_iload_n G dX2_hasLeastMinutes_59 rfl ?_
                    refine j_callE (q0 := 10) (As := [vi (a), vi (b)]) (st := [vi ((y7_ 66 ((a * 16) + b)))]) G K_X2_55 (c_leastMinutes_0 l hd hR hRy7_ a b (by omega) (by omega)) rfl rfl rfl (rm_ok (by decide) (by decide)) ⟨Nat.le_refl _, Nat.le_refl _⟩ (Nat.le_of_ble_eq_true rfl) dX2_hasLeastMinutes_60 ?_
                    have b60 : 0 ≤ (y7_ 65 (a * 16 + b)) ∧ (y7_ 65 (a * 16 + b)) ≤ 1000000 := hRy7_ 65 _
                    refine i_icmp_eq (tgt := 68) G dX2_hasLeastMinutes_63 (by decide) (by omega) (by omega) (fun h63 => ?_) (fun h63 => ?_)
                    · skip
                      refine i_iinc (L' := [some (.ref (ad 1)), some (.ref (ad 10)), some (vi (a)), some (vi (b + 1))]) G dX2_hasLeastMinutes_68 (by decide) rfl rfl ?_
                      refine i_goto (tgt := 38) G dX2_hasLeastMinutes_71 (by decide) ?_
                      exact ih38 (b + 1) (by omega) (by omega)
                    · skip
                      exact absurd (hE a b ha (by omega) hb (by omega)) h63
              exact lp38 (z 0 0).toNat 0 (by omega) (by omega)
        exact lp28 (z 0 0).toNat 0 (by omega) (by omega)
      · skip
        exfalso; omega
    | succ n7 ih7 => 
      intro i y7_ hRy7_ hi hn ho hI
      refine i_iload_n G dX2_hasLeastMinutes_7 rfl ?_
      refine i_aload_n G dX2_hasLeastMinutes_8 rfl ?_
      refine j_getz G F_X2_41 1 rfl rfl (by decide) dX2_hasLeastMinutes_9 ?_
      have b9 : 0 ≤ z 0 0 ∧ z 0 0 ≤ 16 := hR 0 _
      refine i_icmp_ge (tgt := 26) G dX2_hasLeastMinutes_12 (by decide) (by omega) (by omega) (fun h12 => ?_) (fun h12 => ?_)
      · skip
        exfalso; omega
      · skip
        refine i_aload_n G dX2_hasLeastMinutes_15 rfl ?_
        refine i_iload_n G dX2_hasLeastMinutes_16 rfl ?_
        refine j_callYv (q0 := 1) (As := [vi (i)]) (st := []) G K_X2_83 (c_allowBetween l hd hR hRy7_ i (by first | assumption | omega) (by exact hI.1 i (by omega) (by omega))) rfl rfl rfl (rm_ok (by decide) (by decide)) ⟨Nat.le_refl _, Nat.le_refl _⟩ (Nat.le_of_ble_eq_true rfl) dX2_hasLeastMinutes_17 (fun y17 q17 => ?_)
        obtain ⟨hRy17, ho17, hm17⟩ := q17
        refine i_iinc (L' := [some (.ref (ad 1)), some (.ref (ad 10)), some (vi (i + 1)), none]) G dX2_hasLeastMinutes_20 (by decide) rfl rfl ?_
        refine i_goto (tgt := 7) G dX2_hasLeastMinutes_23 (by decide) ?_
        refine i_forget (L' := [some (.ref (ad 1)), some (.ref (ad 10)), some (vi (i + 1)), none]) ⟨rfl, ⟨rfl, ⟨rfl, trivial⟩⟩⟩ ?_
        exact ih7 (i + 1) y17 hRy17 (by omega) (by omega) (fun k' hk => (ho17 k' hk).trans (ho k' hk)) (FWI_step hW hR hRy7_ hI hi (by omega) hm17)
  exact lp7 (z 0 0).toNat 0 y2 hRy2 (by omega) (by omega) ho2 hI2
set_option maxHeartbeats 4000000 in
set_option maxRecDepth 100000 in
theorem c_hasLeastMinutes_1 (l : Launch) {D : va_G} {aC : Nat → ClassId} {ad : Nat → Nat} (hd : wDi ad shC) {z y : wZ} (hR : Rng z) (hY : Rng y)  (hW : WT z) (hC : CIv z y 15 64) : cYi l D aC ad shC yX2_hasLeastMinutes cX2_hasLeastMinutes 4 (.boolean) (rmL 2) [.ref (ad 1), .ref (ad 7)] z y (fun r y' => r = 1 ∧ Rng y' ∧ ∀ k', k' ≠ 66 → y' k' = y k') := by
  refine c_i [some (.ref (ad 1)), some (.ref (ad 7)), none, none] (by decide +kernel) rfl (Nat.le_of_ble_eq_true rfl) rfl hd ?_
  intro p e s m args below meth c A G hr
  have b_0 : 0 ≤ z 0 0 ∧ z 0 0 ≤ 16 := hR 0 0
  refine i_aload_n G dX2_hasLeastMinutes_0 rfl ?_
  refine i_aload_n G dX2_hasLeastMinutes_1 rfl ?_
  refine j_callYv (q0 := 1) (As := [.ref (ad 7)]) (st := []) G K_X2_80 (c_startComparing_1 l hd hR hY  (by first | assumption | omega)) rfl rfl rfl (rm_ok (by decide) (by decide)) ⟨Nat.le_refl _, Nat.le_refl _⟩ (Nat.le_of_ble_eq_true rfl) dX2_hasLeastMinutes_2 (fun y2 q2 => ?_)
  obtain ⟨hRy2, ho2, hI2⟩ := q2
  refine i_iconst G dX2_hasLeastMinutes_5 ?_
  refine i_istore_n (L' := [some (.ref (ad 1)), some (.ref (ad 7)), some (vi (0)), none]) G dX2_hasLeastMinutes_6 (by decide) rfl ?_
  refine i_forget (L' := [some (.ref (ad 1)), some (.ref (ad 7)), some (vi (0)), none]) ⟨rfl, ⟨rfl, ⟨rfl, trivial⟩⟩⟩ ?_
  have lp7 : ∀ (n7 : Nat) (i : Int) (y7_ : wZ), Rng y7_ → (0 ≤ i) → (i + n7 = z 0 0) → (∀ k', k' ≠ 66 → y7_ k' = y k') → (FWI z 15 y7_ i) → JW p l e (rmL 2) s m args below meth c 4 D aC ad A shC (MQ below (cQi D aC ad shC (fun r_ z_ y_ => z_ = z ∧ (fun r y' => r = 1 ∧ Rng y' ∧ ∀ k', k' ≠ 66 → y' k' = y k') r_ y_) A) args s 0 0 A) 0 0 (zc z y7_) 7 [some (.ref (ad 1)), some (.ref (ad 7)), some (vi (i)), none] [] := by
    intro n7
    induction n7 with
    | zero => 
      intro i y7_ hRy7_ hi hn ho hI
      refine i_iload_n G dX2_hasLeastMinutes_7 rfl ?_
      refine i_aload_n G dX2_hasLeastMinutes_8 rfl ?_
      refine j_getz G F_X2_41 1 rfl rfl (by decide) dX2_hasLeastMinutes_9 ?_
      have b9 : 0 ≤ z 0 0 ∧ z 0 0 ≤ 16 := hR 0 _
      refine i_icmp_ge (tgt := 26) G dX2_hasLeastMinutes_12 (by decide) (by omega) (by omega) (fun h12 => ?_) (fun h12 => ?_)
      · skip
        have hE : ∀ a b, 0 ≤ a → a < z 0 0 → 0 ≤ b → b < z 0 0 → y7_ 66 (a * 16 + b) = y7_ 64 (a * 16 + b) := fun a b a0 a1 b0 b1 => by
          rw [FWI_end hW hR hRy7_ (by rw [show z 0 0 = i by omega]; exact hI) a b a0 a1 b0 b1, ho 64 (by decide), hC a b a0 (by omega) b0 (by omega)]
        refine i_iconst G dX2_hasLeastMinutes_26 ?_
        refine i_istore_n (L' := [some (.ref (ad 1)), some (.ref (ad 7)), some (vi (0)), none]) G dX2_hasLeastMinutes_27 (by decide) rfl ?_
        refine i_forget (L' := [some (.ref (ad 1)), some (.ref (ad 7)), some (vi (0)), none]) ⟨rfl, ⟨rfl, ⟨rfl, trivial⟩⟩⟩ ?_
        have lp28 : ∀ (n28 : Nat) (a : Int), (0 ≤ a) → (a + n28 = z 0 0) → JW p l e (rmL 2) s m args below meth c 4 D aC ad A shC (MQ below (cQi D aC ad shC (fun r_ z_ y_ => z_ = z ∧ (fun r y' => r = 1 ∧ Rng y' ∧ ∀ k', k' ≠ 66 → y' k' = y k') r_ y_) A) args s 0 0 A) 0 0 (zc z y7_) 28 [some (.ref (ad 1)), some (.ref (ad 7)), some (vi (a)), none] [] := by
          intro n28
          induction n28 with
          | zero => 
            intro a ha hx
            refine i_iload_n G dX2_hasLeastMinutes_28 rfl ?_
            refine i_aload_n G dX2_hasLeastMinutes_29 rfl ?_
            refine j_getz G F_X2_41 1 rfl rfl (by decide) dX2_hasLeastMinutes_30 ?_
            have b30 : 0 ≤ z 0 0 ∧ z 0 0 ≤ 16 := hR 0 _
            refine i_icmp_ge (tgt := 80) G dX2_hasLeastMinutes_33 (by decide) (by omega) (by omega) (fun h33 => ?_) (fun h33 => ?_)
            · skip
              refine i_iconst G dX2_hasLeastMinutes_80 ?_
              refine j_retz G hr (by omega) dX2_hasLeastMinutes_81 ?_
              exact ⟨rfl, rfl, hRy7_, ho⟩
            · skip
              exfalso; omega
          | succ n28 ih28 => 
            intro a ha hx
            refine i_iload_n G dX2_hasLeastMinutes_28 rfl ?_
            refine i_aload_n G dX2_hasLeastMinutes_29 rfl ?_
            refine j_getz G F_X2_41 1 rfl rfl (by decide) dX2_hasLeastMinutes_30 ?_
            have b30 : 0 ≤ z 0 0 ∧ z 0 0 ≤ 16 := hR 0 _
            refine i_icmp_ge (tgt := 80) G dX2_hasLeastMinutes_33 (by decide) (by omega) (by omega) (fun h33 => ?_) (fun h33 => ?_)
            · skip
              exfalso; omega
            · skip
              refine i_iconst G dX2_hasLeastMinutes_36 ?_
              refine i_istore_n (L' := [some (.ref (ad 1)), some (.ref (ad 7)), some (vi (a)), some (vi (0))]) G dX2_hasLeastMinutes_37 (by decide) rfl ?_
              have lp38 : ∀ (n38 : Nat) (b : Int), (0 ≤ b) → (b + n38 = z 0 0) → JW p l e (rmL 2) s m args below meth c 4 D aC ad A shC (MQ below (cQi D aC ad shC (fun r_ z_ y_ => z_ = z ∧ (fun r y' => r = 1 ∧ Rng y' ∧ ∀ k', k' ≠ 66 → y' k' = y k') r_ y_) A) args s 0 0 A) 0 0 (zc z y7_) 38 [some (.ref (ad 1)), some (.ref (ad 7)), some (vi (a)), some (vi (b))] [] := by
                intro n38
                induction n38 with
                | zero => 
                  intro b hb hw
                  refine i_iload_n G dX2_hasLeastMinutes_38 rfl ?_
                  refine i_aload_n G dX2_hasLeastMinutes_39 rfl ?_
                  refine j_getz G F_X2_41 1 rfl rfl (by decide) dX2_hasLeastMinutes_40 ?_
                  have b40 : 0 ≤ z 0 0 ∧ z 0 0 ≤ 16 := hR 0 _
                  refine i_icmp_ge (tgt := 74) G dX2_hasLeastMinutes_43 (by decide) (by omega) (by omega) (fun h43 => ?_) (fun h43 => ?_)
                  · skip
                    refine i_iinc (L' := [some (.ref (ad 1)), some (.ref (ad 7)), some (vi (a + 1)), some (vi (b))]) G dX2_hasLeastMinutes_74 (by decide) rfl rfl ?_
                    refine i_goto (tgt := 28) G dX2_hasLeastMinutes_77 (by decide) ?_
                    refine i_forget (L' := [some (.ref (ad 1)), some (.ref (ad 7)), some (vi (a + 1)), none]) ⟨rfl, ⟨rfl, ⟨rfl, trivial⟩⟩⟩ ?_
                    exact ih28 (a + 1) (by omega) (by omega)
                  · skip
                    exfalso; omega
                | succ n38 ih38 => 
                  intro b hb hw
                  refine i_iload_n G dX2_hasLeastMinutes_38 rfl ?_
                  refine i_aload_n G dX2_hasLeastMinutes_39 rfl ?_
                  refine j_getz G F_X2_41 1 rfl rfl (by decide) dX2_hasLeastMinutes_40 ?_
                  have b40 : 0 ≤ z 0 0 ∧ z 0 0 ≤ 16 := hR 0 _
                  refine i_icmp_ge (tgt := 74) G dX2_hasLeastMinutes_43 (by decide) (by omega) (by omega) (fun h43 => ?_) (fun h43 => ?_)
                  · skip
                    exfalso; omega
                  · skip
                    refine i_aload_n G dX2_hasLeastMinutes_46 rfl ?_
                    refine i_getr G F_X2_38 1 rfl rfl dX2_hasLeastMinutes_47 ?_
                    refine i_iload_n G dX2_hasLeastMinutes_50 rfl ?_
                    refine i_bipush G dX2_hasLeastMinutes_51 (by decide) ?_
                    refine i_imul G dX2_hasLeastMinutes_53 ?_
                    refine i_iload_n G dX2_hasLeastMinutes_54 rfl ?_
                    refine i_iadd G dX2_hasLeastMinutes_55 ?_
                    refine j_iald_y G 13 rfl (by decide) (by decide) (by omega) (by omega) dX2_hasLeastMinutes_56 ?_
                    have b56 : 0 ≤ y7_ 66 ((a * 16) + b) ∧ y7_ 66 ((a * 16) + b) ≤ 1000000 := hRy7_ 66 _
                    refine i_aload_n G dX2_hasLeastMinutes_57 rfl ?_
                    refine i_iload_n G dX2_hasLeastMinutes_58 rfl ?_
                    refine i_iload_n G dX2_hasLeastMinutes_59 rfl ?_
                    refine j_callE (q0 := 7) (As := [vi (a), vi (b)]) (st := [vi ((y7_ 66 ((a * 16) + b)))]) G K_X2_55 (c_leastMinutes_1 l hd hR hRy7_ a b (by omega) (by omega)) rfl rfl rfl (rm_ok (by decide) (by decide)) ⟨Nat.le_refl _, Nat.le_refl _⟩ (Nat.le_of_ble_eq_true rfl) dX2_hasLeastMinutes_60 ?_
                    have b60 : 0 ≤ (y7_ 64 (a * 16 + b)) ∧ (y7_ 64 (a * 16 + b)) ≤ 1000000 := hRy7_ 64 _
                    refine i_icmp_eq (tgt := 68) G dX2_hasLeastMinutes_63 (by decide) (by omega) (by omega) (fun h63 => ?_) (fun h63 => ?_)
                    · skip
                      refine i_iinc (L' := [some (.ref (ad 1)), some (.ref (ad 7)), some (vi (a)), some (vi (b + 1))]) G dX2_hasLeastMinutes_68 (by decide) rfl rfl ?_
                      refine i_goto (tgt := 38) G dX2_hasLeastMinutes_71 (by decide) ?_
                      exact ih38 (b + 1) (by omega) (by omega)
                    · skip
                      exact absurd (hE a b ha (by omega) hb (by omega)) h63
              exact lp38 (z 0 0).toNat 0 (by omega) (by omega)
        exact lp28 (z 0 0).toNat 0 (by omega) (by omega)
      · skip
        exfalso; omega
    | succ n7 ih7 => 
      intro i y7_ hRy7_ hi hn ho hI
      refine i_iload_n G dX2_hasLeastMinutes_7 rfl ?_
      refine i_aload_n G dX2_hasLeastMinutes_8 rfl ?_
      refine j_getz G F_X2_41 1 rfl rfl (by decide) dX2_hasLeastMinutes_9 ?_
      have b9 : 0 ≤ z 0 0 ∧ z 0 0 ≤ 16 := hR 0 _
      refine i_icmp_ge (tgt := 26) G dX2_hasLeastMinutes_12 (by decide) (by omega) (by omega) (fun h12 => ?_) (fun h12 => ?_)
      · skip
        exfalso; omega
      · skip
        refine i_aload_n G dX2_hasLeastMinutes_15 rfl ?_
        refine i_iload_n G dX2_hasLeastMinutes_16 rfl ?_
        refine j_callYv (q0 := 1) (As := [vi (i)]) (st := []) G K_X2_83 (c_allowBetween l hd hR hRy7_ i (by first | assumption | omega) (by exact hI.1 i (by omega) (by omega))) rfl rfl rfl (rm_ok (by decide) (by decide)) ⟨Nat.le_refl _, Nat.le_refl _⟩ (Nat.le_of_ble_eq_true rfl) dX2_hasLeastMinutes_17 (fun y17 q17 => ?_)
        obtain ⟨hRy17, ho17, hm17⟩ := q17
        refine i_iinc (L' := [some (.ref (ad 1)), some (.ref (ad 7)), some (vi (i + 1)), none]) G dX2_hasLeastMinutes_20 (by decide) rfl rfl ?_
        refine i_goto (tgt := 7) G dX2_hasLeastMinutes_23 (by decide) ?_
        refine i_forget (L' := [some (.ref (ad 1)), some (.ref (ad 7)), some (vi (i + 1)), none]) ⟨rfl, ⟨rfl, ⟨rfl, trivial⟩⟩⟩ ?_
        exact ih7 (i + 1) y17 hRy17 (by omega) (by omega) (fun k' hk => (ho17 k' hk).trans (ho k' hk)) (FWI_step hW hR hRy7_ hI hi (by omega) hm17)
  exact lp7 (z 0 0).toNat 0 y2 hRy2 (by omega) (by omega) ho2 hI2
