/-! the invariant of the law: at the start, and over planning and a day -/
section INVW
theorem z0S_R : Rng z0S := fun k a => by
  unfold z0S
  by_cases c1 : k = 6
  · subst c1; rw [if_pos rfl]; exact ⟨by decide, by decide⟩
  · rw [if_neg c1]
    by_cases c2 : k = 22
    · subst c2; rw [if_pos rfl]
      split
      · exact ⟨by decide, by decide⟩
      · exact ⟨by decide, by decide⟩
    · rw [if_neg c2]; exact zZ_R k a
theorem z0S_0 {k : Nat} (h : k ≠ 6 ∧ k ≠ 22) (a : Int) : z0S k a = 0 := by unfold z0S; rw [if_neg h.1, if_neg h.2]
theorem z0S_WF : WF z0S := by
  have e1 := z0S_0 (k := 1) (by decide) 0
  have e2 := z0S_0 (k := 2) (by decide) 0
  have e3 := z0S_0 (k := 3) (by decide) 0
  have e4 := z0S_0 (k := 4) (by decide) 0
  exact ⟨fun t h0 h1 => by omega, fun t h0 h1 => by omega, fun t h0 h1 => by omega, fun t h0 h1 => by omega⟩
theorem z0S_CI {y : wZ} {g k : Nat} (h : ∀ a b, 0 ≤ a → a < 16 → 0 ≤ b → b < 16 → y k (a * 16 + b) = if a = b then 0 else 1000000) : CIv z0S y g k := fun a b a0 a1 b0 b1 => by
  have e0 := z0S_0 (k := 0) (by decide) 0
  rw [h a b a0 a1 b0 b1, ds_off z0S_WF.1 z0S_R g (Or.inl (by omega))]
theorem z0S_CW {y : wZ} (h1 : ∀ a b, 0 ≤ a → a < 16 → 0 ≤ b → b < 16 → y 64 (a * 16 + b) = if a = b then 0 else 1000000) (h2 : ∀ a b, 0 ≤ a → a < 16 → 0 ≤ b → b < 16 → y 65 (a * 16 + b) = if a = b then 0 else 1000000) : CW z0S y :=
  ⟨z0S_WF, z0S_CI h1, z0S_CI h2⟩
theorem z0S_MI {y : wZ} (h : ∀ i, y 72 i = 0) : MI z0S y := fun i _ _ => by rw [h i, z0S_0 (k := 32) (by decide) i]; rfl
theorem CW_pl {z y : wZ} (h : CW z y) (n : Nat) (m : Int) (hW : WF (plL n z m).2) : CW (plL n z m).2 y := CW_k h hW (fun i hi => plL_k (by omega) n z m)
theorem dyL_29 : ∀ (n : Nat) (r : Int) (z : wZ) (d q : Int), (q < r ∨ r + n ≤ q) → (dyL n r z d).2 29 q = z 29 q
  | 0, _, _, _, _, _ => rfl
  | n + 1, r, z, d, q, h => by
    unfold dyL
    rw [dyL_29 n (r + 1) _ _ q (by omega), snL_29 r (by omega), zp_nk _ (by decide)]
/-- what holds between the calls of the law: n calls are done -/
def LI (n : Nat) (z y y' : wZ) : Prop := Rng z ∧ Rng y ∧ Rng y' ∧ CW z y ∧ MI z y' ∧ z 6 0 ≤ 10 + 99 * n ∧ ∀ q, 0 ≤ q → q < 4 → z 29 q ≤ 480 * z 7 0
theorem LI_0 {y y' : wZ} (hy : Rng y) (hy' : Rng y') (h1 : ∀ a b, 0 ≤ a → a < 16 → 0 ≤ b → b < 16 → y 64 (a * 16 + b) = if a = b then 0 else 1000000) (h2 : ∀ a b, 0 ≤ a → a < 16 → 0 ≤ b → b < 16 → y 65 (a * 16 + b) = if a = b then 0 else 1000000) (h3 : ∀ i, y' 72 i = 0) : LI 0 z0S y y' :=
  ⟨z0S_R, hy, hy', z0S_CW h1 h2, z0S_MI h3, Int.le_refl _, fun q _ _ => by rw [z0S_0 (k := 29) (by decide), z0S_0 (k := 7) (by decide)]; decide⟩
end INVW
