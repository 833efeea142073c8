/-! WHAT BOTH SIDES DO, over the shared state alone -/
section SPEC
def WB (z : wZ) : Prop := ∀ b, 0 ≤ b → b < z 2 0 → z 17 b < z 0 0 ∧ z 18 b < z 0 0 ∧ z 17 b ≠ z 18 b ∧ z 19 b < z 1 0 ∧ (z 11 (z 19 b) = z 17 b ∨ z 12 (z 19 b) = z 17 b)
def WK (z : wZ) : Prop := ∀ t, 0 ≤ t → t < z 3 0 → (z 23 t = 99 ∨ z 23 t = 117 ∨ z 23 t = 114 ∨ z 23 t = 109) ∧ (z 23 t = 109 → z 24 t < z 1 0) ∧ (z 23 t ≠ 109 → z 24 t < z 2 0) ∧ z 26 t < z 4 0
def WRg (z : wZ) : Prop := ∀ r, 0 ≤ r → r < z 4 0 → z 27 r < z 0 0
def WF (z : wZ) : Prop := WT z ∧ WB z ∧ WK z ∧ WRg z
theorem WB_congr {z w : wZ} (h : WB z) (e : ∀ k, k = 0 ∨ k = 1 ∨ k = 2 ∨ k = 11 ∨ k = 12 ∨ k = 17 ∨ k = 18 ∨ k = 19 → w k = z k) : WB w := by
  unfold WB at h ⊢
  rw [e 0 (by decide), e 1 (by decide), e 2 (by decide), e 11 (by decide), e 12 (by decide), e 17 (by decide), e 18 (by decide), e 19 (by decide)]
  exact h
theorem WK_congr {z w : wZ} (h : WK z) (e : ∀ k, k = 1 ∨ k = 2 ∨ k = 3 ∨ k = 4 ∨ k = 23 ∨ k = 24 ∨ k = 26 → w k = z k) : WK w := by
  unfold WK at h ⊢
  rw [e 1 (by decide), e 2 (by decide), e 3 (by decide), e 4 (by decide), e 23 (by decide), e 24 (by decide), e 26 (by decide)]
  exact h
theorem WRg_congr {z w : wZ} (h : WRg z) (e : ∀ k, k = 0 ∨ k = 4 ∨ k = 27 → w k = z k) : WRg w := by
  unfold WRg at h ⊢
  rw [e 0 (by decide), e 4 (by decide), e 27 (by decide)]
  exact h
theorem WT_cg {z w : wZ} (h : WT z) (e : ∀ k, k = 0 ∨ k = 1 ∨ k = 11 ∨ k = 12 ∨ k = 13 ∨ k = 14 → w k = z k) : WT w :=
  WT_congr h (e 0 (by decide)) (e 1 (by decide)) (e 11 (by decide)) (e 12 (by decide)) (e 13 (by decide)) (e 14 (by decide))
theorem WF_congr {z w : wZ} (h : WF z) (e : ∀ k, k ≠ 6 → k ≠ 7 → k ≠ 8 → k ≠ 15 → k ≠ 16 → k ≠ 20 → k ≠ 21 → k ≠ 22 → k ≠ 25 → k ≠ 28 → k ≠ 29 → k ≠ 32 → w k = z k) : WF w :=
  ⟨WT_cg h.1 (fun k hk => e k (by omega) (by omega) (by omega) (by omega) (by omega) (by omega) (by omega) (by omega) (by omega) (by omega) (by omega) (by omega)),
   WB_congr h.2.1 (fun k hk => e k (by omega) (by omega) (by omega) (by omega) (by omega) (by omega) (by omega) (by omega) (by omega) (by omega) (by omega) (by omega)),
   WK_congr h.2.2.1 (fun k hk => e k (by omega) (by omega) (by omega) (by omega) (by omega) (by omega) (by omega) (by omega) (by omega) (by omega) (by omega) (by omega)),
   WRg_congr h.2.2.2 (fun k hk => e k (by omega) (by omega) (by omega) (by omega) (by omega) (by omega) (by omega) (by omega) (by omega) (by omega) (by omega) (by omega))⟩
theorem CIv_congr {z w y : wZ} {g k : Nat} (h : CIv z y g k) (e : ∀ i, i = 1 ∨ i = 11 ∨ i = 12 ∨ i = 13 ∨ i = 14 ∨ i = g → w i = z i) : CIv w y g k := by
  have : ds w g = ds z g := ds_congr (e 1 (by simp)) (e 11 (by simp)) (e 12 (by simp)) (e 13 (by simp)) (e 14 (by simp)) (e g (by simp))
  unfold CIv at h ⊢
  rw [this]; exact h
theorem CIv_y {z y y' : wZ} {g k : Nat} (h : CIv z y g k) (e : y' k = y k) : CIv z y' g k := by
  unfold CIv at h ⊢
  rw [e]; exact h
/-- the first trail of the way -/
noncomputable def nxt (z : wZ) (a b : Int) : Int := nxtF z (ds z 16) a b
def nxP (z : wZ) (D : Int → Int → Int) (a b t : Int) : Prop := (z 11 t = a ∨ z 12 t = a) ∧ z 16 t = 0 ∧ ofm z t a + D (oth z t a) b = D a b
theorem nxtL_P (z : wZ) (D : Int → Int → Int) (a b : Int) : ∀ (n : Nat) (t : Int), nxtL z D a b n t = -1 ∨ (t ≤ nxtL z D a b n t ∧ nxtL z D a b n t < t + n ∧ nxP z D a b (nxtL z D a b n t))
  | 0, t => Or.inl rfl
  | n + 1, t => by
    unfold nxtL
    split
    · next h => right; exact ⟨by omega, by omega, h⟩
    · rcases nxtL_P z D a b n (t + 1) with h1 | ⟨h1, h2, h3⟩
      · exact Or.inl h1
      · right; exact ⟨by omega, by omega, h3⟩
theorem nxtL_ex (z : wZ) (D : Int → Int → Int) (a b : Int) : ∀ (n : Nat) (t : Int), 0 ≤ t → (∃ s, t ≤ s ∧ s < t + n ∧ nxP z D a b s) → nxtL z D a b n t ≠ -1
  | 0, t, _, ⟨s, h1, h2, _⟩ => by omega
  | n + 1, t, h0, ⟨s, h1, h2, h3⟩ => by
    unfold nxtL
    split
    · omega
    · next h =>
      have hs : s ≠ t := fun e => h (e ▸ h3)
      exact nxtL_ex z D a b n (t + 1) (by omega) ⟨s, by omega, by omega, h3⟩
theorem nxtL_cg {z : wZ} {D E : Int → Int → Int} (hR : Rng z) {a b : Int} (hb : 0 ≤ b ∧ b < 16) (ha : 0 ≤ a ∧ a < 16) (h : ∀ a b, 0 ≤ a → a < 16 → 0 ≤ b → b < 16 → D a b = E a b) : ∀ (n : Nat) (t : Int), nxtL z D a b n t = nxtL z E a b n t
  | 0, t => rfl
  | n + 1, t => by
    have o := oth_in hR t a
    unfold nxtL
    rw [h (oth z t a) b (by omega) (by omega) hb.1 hb.2, h a b ha.1 ha.2 hb.1 hb.2, nxtL_cg hR hb ha h n (t + 1)]
theorem nxtF_cg {z : wZ} {D E : Int → Int → Int} (hR : Rng z) {a b : Int} (ha : 0 ≤ a ∧ a ≤ 15) (hb : 0 ≤ b ∧ b ≤ 15) (h : ∀ a b, 0 ≤ a → a < 16 → 0 ≤ b → b < 16 → D a b = E a b) : nxtF z D a b = nxtF z E a b := by
  unfold nxtF
  rw [h a b (by omega) (by omega) (by omega) (by omega), nxtL_cg hR (by omega) (by omega) h]
theorem nxt_P {z : wZ} (hR : Rng z) {a b : Int} (h : nxt z a b ≠ -1) : 0 ≤ nxt z a b ∧ nxt z a b < z 1 0 ∧ a ≠ b ∧ ds z 16 a b < 1000000 ∧ nxP z (ds z 16) a b (nxt z a b) := by
  have h1 : 0 ≤ z 1 0 ∧ z 1 0 ≤ 24 := hR 1 0
  unfold nxt nxtF at h ⊢
  by_cases c : a = b ∨ 1000000 ≤ ds z 16 a b
  · rw [if_pos c] at h; exact absurd rfl h
  · rw [if_neg c] at h ⊢
    rcases nxtL_P z (ds z 16) a b (z 1 0).toNat 0 with q | ⟨q1, q2, q3⟩
    · exact absurd q h
    · exact ⟨q1, by omega, by omega, by omega, q3⟩
theorem nxt_ex {z : wZ} (hW : WT z) (hR : Rng z) {a b : Int} (hne : a ≠ b) (h : ds z 16 a b < 1000000) : nxt z a b ≠ -1 := by
  have h1 : 0 ≤ z 1 0 ∧ z 1 0 ≤ 24 := hR 1 0
  unfold nxt nxtF
  rw [if_neg (by omega)]
  refine nxtL_ex z (ds z 16) a b _ 0 (Int.le_refl 0) ?_
  have hb := ds_is hW hR 16 b
  rcases hb.2.2.2 a hne with q | ⟨t, ho, q⟩
  · simp only at q; omega
  · have hw := hW t ho.1 ho.2.1
    have h2 := ho.2.1
    refine ⟨t, ho.1, by omega, ?_⟩
    simp only at q
    rcases q with ⟨e, q⟩ | ⟨e, q⟩
    · refine ⟨Or.inl e.symm, ho.2.2, ?_⟩
      unfold ofm oth
      rw [if_pos e.symm, if_pos e.symm]; omega
    · refine ⟨Or.inr e.symm, ho.2.2, ?_⟩
      unfold ofm oth
      rw [if_neg (by omega), if_neg (by omega)]; omega
/-- a trail from a fork leads to a fork -/
theorem oth_fk {z : wZ} (hW : WT z) {t a : Int} (h0 : 0 ≤ t) (h1 : t < z 1 0) : 0 ≤ oth z t a ∧ oth z t a < z 0 0 := by
  have hw := hW t h0 h1
  unfold oth; split <;> omega
def mnK (k : Int) : Int := if k = 109 then 200 else if k = 114 then 30 else 10
def tlK (k : Int) : Int := if k = 109 then 2 else if k = 114 then 1 else 0
theorem mnK_in (k : Int) : 10 ≤ mnK k ∧ mnK k ≤ 200 := by unfold mnK; (repeat' split) <;> omega
theorem tlK_in (k : Int) : 0 ≤ tlK k ∧ tlK k ≤ 2 := by unfold tlK; (repeat' split) <;> omega
def glF (z : wZ) (t : Int) : Int := if z 23 t = 109 then z 11 (z 24 t) else z 17 (z 24 t)
theorem glF_in {z : wZ} (hR : Rng z) (t : Int) : 0 ≤ glF z t ∧ glF z t ≤ 15 := by
  have h1 : 0 ≤ z 11 (z 24 t) ∧ z 11 (z 24 t) ≤ 15 := hR 11 _
  have h2 : 0 ≤ z 17 (z 24 t) ∧ z 17 (z 24 t) ≤ 15 := hR 17 _
  unfold glF; split <;> omega
noncomputable def msF (z : wZ) (t : Int) : Int := if z 23 t = 109 then z 16 (z 24 t) else if z 23 t = 114 then (if 0 < z 6 0 ∧ ds z 16 (z 17 (z 24 t)) (z 18 (z 24 t)) ≤ 300 then 1 else 0) else if z 21 (z 24 t) = (if z 23 t = 117 then 1 else 0) then 1 else 0
theorem msF_in {z : wZ} (hR : Rng z) (t : Int) : 0 ≤ msF z t ∧ msF z t ≤ 1 := by
  have h1 : 0 ≤ z 16 (z 24 t) ∧ z 16 (z 24 t) ≤ 1 := hR 16 _
  unfold msF; (repeat' split) <;> omega
noncomputable def htF (z : wZ) (r t : Int) : Int := if ds z 16 (z 27 r) (glF z t) + mnK (z 23 t) ≤ z 8 0 then 1 else 0
/-- the task that a ranger takes -/
noncomputable def chL (z : wZ) (r : Int) : Nat → Int → Int → Int
  | 0, _, best => best
  | n + 1, t, best => chL z r n (t + 1) (if (best = -1 ∨ z 25 best < z 25 t) ∧ z 26 t = -1 ∧ hasT z r (tlK (z 23 t)) = 1 ∧ msF z t = 1 ∧ htF z r t = 1 then t else best)
theorem chL_in (z : wZ) (r : Int) : ∀ (n : Nat) (t best : Int), 0 ≤ t → (best = -1 ∨ (0 ≤ best ∧ best < t)) → (chL z r n t best = -1 ∨ (0 ≤ chL z r n t best ∧ chL z r n t best < t + n))
  | 0, t, best, h0, h => by unfold chL; omega
  | n + 1, t, best, h0, h => by
    unfold chL
    split
    · have := chL_in z r n (t + 1) t (by omega) (by omega); omega
    · have := chL_in z r n (t + 1) best (by omega) (by omega); omega
theorem chL_ok (z : wZ) (r : Int) (P : Int → Prop) (hP : ∀ t, z 26 t = -1 → hasT z r (tlK (z 23 t)) = 1 → msF z t = 1 → htF z r t = 1 → P t) : ∀ (n : Nat) (t best : Int), (best = -1 ∨ P best) → (chL z r n t best = -1 ∨ P (chL z r n t best))
  | 0, t, best, h => h
  | n + 1, t, best, h => by
    unfold chL
    refine chL_ok z r P hP n (t + 1) _ ?_
    split
    · next c => exact Or.inr (hP t c.2.1 c.2.2.1 c.2.2.2.1 c.2.2.2.2)
    · exact h
noncomputable def choF (z : wZ) (r : Int) : Int := chL z r (z 3 0).toNat 0 (-1)
theorem choF_in {z : wZ} (hR : Rng z) (r : Int) : choF z r = -1 ∨ (0 ≤ choF z r ∧ choF z r < z 3 0) := by
  have h1 : 0 ≤ z 3 0 ∧ z 3 0 ≤ 40 := hR 3 0
  have := chL_in z r (z 3 0).toNat 0 (-1) (Int.le_refl 0) (Or.inl rfl)
  unfold choF; omega
theorem choF_ok {z : wZ} {r : Int} (h : choF z r ≠ -1) : z 26 (choF z r) = -1 ∧ msF z (choF z r) = 1 ∧ htF z r (choF z r) = 1 := by
  rcases chL_ok z r (fun t => z 26 t = -1 ∧ msF z t = 1 ∧ htF z r t = 1) (fun t a b c d => ⟨a, c, d⟩) (z 3 0).toNat 0 (-1) (Or.inl rfl) with q | q
  · exact absurd q h
  · exact q
/-- a trail is seen -/
def seF (z : wZ) (t : Int) : wZ := jdgL t (if z 15 t = 0 then 1 else 2) 10 0 (zp z 16 t (z 15 t))
theorem jdgS_k (t r w : Int) (z : wZ) {k : Nat} (h1 : k ≠ 22) (h2 : k ≠ 32) : jdgS z t r w k = z k := by
  unfold jdgS
  rw [zp_nk _ h2]
  (repeat' split) <;> first | rw [zp_nk _ h1] | rfl
theorem jdgL_k (t r : Int) {k : Nat} (h1 : k ≠ 22) (h2 : k ≠ 32) : ∀ (n : Nat) (w : Int) (z : wZ), jdgL t r n w z k = z k
  | 0, _, _ => rfl
  | n + 1, w, z => by unfold jdgL; rw [jdgL_k t r h1 h2 n, jdgS_k t r w z h1 h2]
theorem seF_k (z : wZ) (t : Int) {k : Nat} (h0 : k ≠ 16) (h1 : k ≠ 22) (h2 : k ≠ 32) : seF z t k = z k := by
  unfold seF; rw [jdgL_k t _ h1 h2, zp_nk _ h0]
theorem seF_16 (z : wZ) (t : Int) : seF z t 16 = zp z 16 t (z 15 t) 16 := by unfold seF; rw [jdgL_k t _ (by decide) (by decide)]
theorem WF_se {z : wZ} (h : WF z) (t : Int) : WF (seF z t) := WF_congr h (fun k _ _ _ _ h16 _ _ h22 _ _ _ h32 => seF_k z t h16 h22 h32)
/-- a ranger goes by a trail -/
def mvF (z : wZ) (r t : Int) : wZ := zp (spdF z r (ofm z t (z 27 r))) 27 r (oth z t (z 27 r))
theorem mvF_k (z : wZ) (r t : Int) {k : Nat} (h1 : k ≠ 8) (h2 : k ≠ 29) (h3 : k ≠ 27) : mvF z r t k = z k := by unfold mvF spdF; rw [zp_nk _ h3, zp_nk _ h2, zp_nk _ h1]
theorem WF_mv {z : wZ} (h : WF z) {r t : Int} (h0 : 0 ≤ t) (h1 : t < z 1 0) : WF (mvF z r t) := by
  have e : ∀ k, k ≠ 8 → k ≠ 29 → k ≠ 27 → mvF z r t k = z k := fun k a b c => mvF_k z r t a b c
  refine ⟨WT_cg h.1 (fun k hk => e k (by omega) (by omega) (by omega)), WB_congr h.2.1 (fun k hk => e k (by omega) (by omega) (by omega)), WK_congr h.2.2.1 (fun k hk => e k (by omega) (by omega) (by omega)), fun q q0 q1 => ?_⟩
  rw [e 4 (by decide) (by decide) (by decide)] at q1
  rw [e 0 (by decide) (by decide) (by decide)]
  have o := oth_fk h.1 (a := z 27 r) h0 h1
  have hq := h.2.2.2 q q0 q1
  unfold mvF
  by_cases c : q = r
  · subst c; rw [zp_same]; exact o.2
  · rw [zp_ne _ (by omega)]
    unfold spdF
    rw [zp_nk _ (by decide), zp_nk _ (by decide)]; exact hq
/-- the walk: at most n steps -/
noncomputable def cmL (r t g : Int) : Nat → wZ → Int × wZ
  | 0, z => (0, z)
  | n + 1, z => if z 27 r = g then (1, z) else if nxt z (z 27 r) g = -1 ∨ htF z r t = 0 then (0, z) else
      if z 15 (nxt z (z 27 r) g) = 0 then cmL r t g n (mvF (seF z (nxt z (z 27 r) g)) r (nxt z (z 27 r) g)) else cmL r t g n (seF z (nxt z (z 27 r) g))
def r5F (m : Int) : Int := (m + 4) / 5 * 5
noncomputable def puF (z : wZ) (b : Int) : wZ := zp (zp (zp (zp z 19 b (nxt z (z 17 b) (z 18 b))) 20 b (r5F (ds z 16 (z 17 b) (z 18 b)))) 21 b 0) 6 0 (z 6 0 - 1)
noncomputable def dnF (z : wZ) (t : Int) : wZ := if z 23 t = 109 then zp (zp (seF z (z 24 t)) 15 (z 24 t) 0) 16 (z 24 t) 0 else if z 23 t = 114 then puF z (z 24 t) else zp z 21 (z 24 t) (if z 23 t = 99 then 1 else 0)
noncomputable def coF (z : wZ) (r t : Int) : wZ := zp (spdF (dnF z t) r (mnK (z 23 t))) 26 t r
noncomputable def snL (r : Int) : Nat → wZ → Int → Int × wZ
  | 0, z, d => (d, z)
  | n + 1, z, d => if choF z r = -1 then (d, z) else
      if (cmL r (choF z r) (glF z (choF z r)) 1000 z).1 = 1 ∧ msF (cmL r (choF z r) (glF z (choF z r)) 1000 z).2 (choF z r) = 1 then snL r n (coF (cmL r (choF z r) (glF z (choF z r)) 1000 z).2 r (choF z r)) (d + 1)
      else snL r n (cmL r (choF z r) (glF z (choF z r)) 1000 z).2 d
noncomputable def dyL : Nat → Int → wZ → Int → Int × wZ
  | 0, _, z, d => (d, z)
  | n + 1, r, z, d => dyL n (r + 1) (snL r 1000 (zp z 8 0 480) 0).2 (d + (snL r 1000 (zp z 8 0 480) 0).1)
theorem puF_k (z : wZ) (b : Int) {k : Nat} (h1 : k ≠ 19) (h2 : k ≠ 20) (h3 : k ≠ 21) (h4 : k ≠ 6) : puF z b k = z k := by unfold puF; rw [zp_nk _ h4, zp_nk _ h3, zp_nk _ h2, zp_nk _ h1]
theorem WF_pu {z : wZ} (h : WF z) (hR : Rng z) {b : Int} (b0 : 0 ≤ b) (b1 : b < z 2 0) (hd : ds z 16 (z 17 b) (z 18 b) ≤ 300) : WF (puF z b) := by
  have e : ∀ k, k ≠ 19 → k ≠ 20 → k ≠ 21 → k ≠ 6 → puF z b k = z k := fun k a b' c d => puF_k z b a b' c d
  refine ⟨WT_cg h.1 (fun k hk => e k (by omega) (by omega) (by omega) (by omega)), fun c c0 c1 => ?_, WK_congr h.2.2.1 (fun k hk => e k (by omega) (by omega) (by omega) (by omega)), WRg_congr h.2.2.2 (fun k hk => e k (by omega) (by omega) (by omega) (by omega))⟩
  rw [e 2 (by decide) (by decide) (by decide) (by decide)] at c1
  rw [e 0 (by decide) (by decide) (by decide) (by decide), e 1 (by decide) (by decide) (by decide) (by decide), e 11 (by decide) (by decide) (by decide) (by decide), e 12 (by decide) (by decide) (by decide) (by decide), e 17 (by decide) (by decide) (by decide) (by decide), e 18 (by decide) (by decide) (by decide) (by decide)]
  have hb := h.2.1 c c0 c1
  by_cases q : c = b
  · subst q
    have e19 : puF z c 19 c = nxt z (z 17 c) (z 18 c) := by unfold puF; rw [zp_nk _ (by decide), zp_nk _ (by decide), zp_nk _ (by decide), zp_same]
    have p := nxt_P hR (nxt_ex h.1 hR hb.2.2.1 (by omega))
    rw [e19]
    exact ⟨hb.1, hb.2.1, hb.2.2.1, p.2.1, p.2.2.2.2.1⟩
  · have e19 : puF z b 19 c = z 19 c := by unfold puF; rw [zp_nk _ (by decide), zp_nk _ (by decide), zp_nk _ (by decide), zp_ne _ (by omega)]
    rw [e19]; exact hb
theorem dnF_k (z : wZ) (t : Int) {k : Nat} (h : k ≠ 15 ∧ k ≠ 16 ∧ k ≠ 22 ∧ k ≠ 32 ∧ k ≠ 19 ∧ k ≠ 20 ∧ k ≠ 21 ∧ k ≠ 6) : dnF z t k = z k := by
  unfold dnF
  split
  · rw [zp_nk _ (by omega), zp_nk _ (by omega), seF_k _ _ (by omega) (by omega) (by omega)]
  · split
    · exact puF_k _ _ (by omega) (by omega) (by omega) (by omega)
    · rw [zp_nk _ (by omega)]
theorem WF_dn {z : wZ} (h : WF z) (hR : Rng z) {t : Int} (t0 : 0 ≤ t) (t1 : t < z 3 0) (hm : msF z t = 1) : WF (dnF z t) := by
  have hk := h.2.2.1 t t0 t1
  have n0 : 0 ≤ z 24 t ∧ z 24 t ≤ 29 := hR 24 t
  unfold dnF
  by_cases c1 : z 23 t = 109
  · rw [if_pos c1]
    exact WF_congr (WF_se h (z 24 t)) (fun k _ _ _ h15 h16 _ _ _ _ _ _ _ => by rw [zp_nk _ h16, zp_nk _ h15])
  · rw [if_neg c1]
    by_cases c2 : z 23 t = 114
    · rw [if_pos c2]
      refine WF_pu h hR n0.1 (hk.2.2.1 c1) ?_
      unfold msF at hm
      rw [if_neg c1, if_pos c2] at hm
      split at hm
      · next q => exact q.2
      · omega
    · rw [if_neg c2]
      exact WF_congr h (fun k _ _ _ _ _ _ h21 _ _ _ _ _ => by rw [zp_nk _ h21])
theorem WF_co {z : wZ} (h : WF z) (hR : Rng z) {r t : Int} (t0 : 0 ≤ t) (t1 : t < z 3 0) (r1 : r < z 4 0) (hm : msF z t = 1) : WF (coF z r t) := by
  have hd := WF_dn h hR t0 t1 hm
  have e : ∀ k, k ≠ 8 → k ≠ 29 → k ≠ 26 → coF z r t k = dnF z t k := fun k a b c => by unfold coF spdF; rw [zp_nk _ c, zp_nk _ b, zp_nk _ a]
  have e4 : dnF z t 4 = z 4 := dnF_k z t (by decide)
  have e3 : dnF z t 3 = z 3 := dnF_k z t (by decide)
  refine ⟨WT_cg hd.1 (fun k hk => e k (by omega) (by omega) (by omega)), WB_congr hd.2.1 (fun k hk => e k (by omega) (by omega) (by omega)), fun q q0 q1 => ?_, WRg_congr hd.2.2.2 (fun k hk => e k (by omega) (by omega) (by omega))⟩
  rw [e 3 (by decide) (by decide) (by decide)] at q1
  rw [e 1 (by decide) (by decide) (by decide), e 2 (by decide) (by decide) (by decide), e 4 (by decide) (by decide) (by decide), e 23 (by decide) (by decide) (by decide), e 24 (by decide) (by decide) (by decide)]
  have hq := hd.2.2.1 q q0 q1
  refine ⟨hq.1, hq.2.1, hq.2.2.1, ?_⟩
  by_cases c : q = t
  · subst c
    unfold coF
    rw [zp_same, e4]; exact r1
  · unfold coF spdF
    rw [zp_ne _ (by omega), zp_nk _ (by decide), zp_nk _ (by decide)]; exact hq.2.2.2
end SPEC
