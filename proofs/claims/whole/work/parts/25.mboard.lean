/-! the model's boards -/
section MBD
theorem zp_comm (z : wZ) {k k' : Nat} (h : k ≠ k') (a a' x x' : Int) : zp (zp z k a x) k' a' x' = zp (zp z k' a' x') k a x := by
  funext q c
  unfold zp
  by_cases h1 : q = k'
  · by_cases h2 : q = k
    · omega
    · simp [h1, Ne.symm h]
  · simp [h1]
theorem nxtL_zc {z w : wZ} (h11 : w 11 = z 11) (h12 : w 12 = z 12) (h13 : w 13 = z 13) (h14 : w 14 = z 14) (h16 : w 16 = z 16) (D : Int → Int → Int) (a b : Int) : ∀ (n : Nat) (t : Int), nxtL w D a b n t = nxtL z D a b n t
  | 0, _ => rfl
  | n + 1, t => by
    unfold nxtL ofm oth
    rw [h11, h12, h13, h14, h16, nxtL_zc h11 h12 h13 h14 h16 D a b n]
theorem nxt_zc {z w : wZ} (h : ∀ k, k = 1 ∨ k = 11 ∨ k = 12 ∨ k = 13 ∨ k = 14 ∨ k = 16 → w k = z k) (a b : Int) : nxt w a b = nxt z a b := by
  have e : ds w 16 = ds z 16 := ds_congr (h 1 (by decide)) (h 11 (by decide)) (h 12 (by decide)) (h 13 (by decide)) (h 14 (by decide)) (h 16 (by decide))
  unfold nxt nxtF
  rw [e, h 1 (by decide), nxtL_zc (h 11 (by decide)) (h 12 (by decide)) (h 13 (by decide)) (h 14 (by decide)) (h 16 (by decide))]
theorem ds_zc {z w : wZ} {g : Nat} (hg : g = 15 ∨ g = 16) (h : ∀ k, k = 1 ∨ k = 11 ∨ k = 12 ∨ k = 13 ∨ k = 14 ∨ k = 15 ∨ k = 16 → w k = z k) : ds w g = ds z g :=
  ds_congr (h 1 (by decide)) (h 11 (by decide)) (h 12 (by decide)) (h 13 (by decide)) (h 14 (by decide)) (h g (by omega))
/-- what the model puts up at b -/
noncomputable def mcF (z : wZ) (b f q : Int) : wZ := puF (zp (zp z 17 b f) 18 b q) b
theorem mcF_eq (z : wZ) (b f q : Int) : mcF z b f q = zp (zp (zp (zp (zp (zp z 17 b f) 18 b q) 20 b (r5F (ds z 16 f q))) 19 b (nxt z f q)) 21 b 0) 6 0 (z 6 0 - 1) := by
  have e : ∀ k, k ≠ 17 → k ≠ 18 → (zp (zp z 17 b f) 18 b q) k = z k := fun k a c => by rw [zp_nk _ c, zp_nk _ a]
  have e17 : (zp (zp z 17 b f) 18 b q) 17 b = f := by rw [zp_nk _ (by decide), zp_same]
  have e18 : (zp (zp z 17 b f) 18 b q) 18 b = q := by rw [zp_same]
  unfold mcF puF
  rw [e17, e18, e 6 (by decide) (by decide), nxt_zc (z := z) (fun k hk => e k (by omega) (by omega)), ds_zc (z := z) (by decide) (fun k hk => e k (by omega) (by omega)), zp_comm _ (by decide : (19 : Nat) ≠ 20)]
theorem mcF_id (z : wZ) (b : Int) : mcF z b (z 17 b) (z 18 b) = puF z b := by
  unfold mcF
  rw [zp_id, zp_id]
theorem mcF_cu (z : wZ) (f q : Int) : zp (mcF z (z 2 0) f q) 2 0 (z 2 0 + 1) = cuF z f q := by
  have e : ∀ k, k ≠ 2 ∧ k ≠ 17 ∧ k ≠ 18 → cwF z f q k = z k := fun k h => cwF_k z f q h
  unfold cuF puF
  rw [cwF_17, cwF_18, e 6 (by decide), nxt_zc (z := z) (fun k hk => e k (by omega)), cwF_ds z f q 16 (by decide), mcF_eq]
  unfold cwF
  rw [zp_comm _ (by decide : (6 : Nat) ≠ 2), zp_comm _ (by decide : (21 : Nat) ≠ 2), zp_comm _ (by decide : (19 : Nat) ≠ 2), zp_comm _ (by decide : (20 : Nat) ≠ 2), zp_comm _ (by decide : (18 : Nat) ≠ 2), zp_comm _ (by decide : (17 : Nat) ≠ 2), zp_comm _ (by decide : (20 : Nat) ≠ 19)]
end MBD

