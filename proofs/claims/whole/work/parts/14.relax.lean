/-! SHORTENING BY TRAILS, as the class does it, and what it comes to -/
section RLX
def rlA (z : wZ) (k : Nat) (t j : Int) (y : wZ) : wZ := if z 13 t + y k (z 12 t * 16 + j) < y k (z 11 t * 16 + j) then zp y k (z 11 t * 16 + j) (z 13 t + y k (z 12 t * 16 + j)) else y
def rlB (z : wZ) (k : Nat) (t j : Int) (y : wZ) : wZ := if z 14 t + y k (z 11 t * 16 + j) < y k (z 12 t * 16 + j) then zp y k (z 12 t * 16 + j) (z 14 t + y k (z 11 t * 16 + j)) else y
def chF (z : wZ) (k : Nat) (t j : Int) (y : wZ) (acc : Int) : Int := if z 13 t + y k (z 12 t * 16 + j) < y k (z 11 t * 16 + j) then 1 else if z 14 t + y k (z 11 t * 16 + j) < y k (z 12 t * 16 + j) then 1 else acc
def rlL (z : wZ) (k : Nat) (t : Int) : Nat → Int → wZ → wZ
  | 0, _, y => y
  | n + 1, j, y => rlL z k t n (j + 1) (rlB z k t j (rlA z k t j y))
def rlF (z : wZ) (k : Nat) (t : Int) : Nat → Int → wZ → Int → Int
  | 0, _, _, acc => acc
  | n + 1, j, y, acc => rlF z k t n (j + 1) (rlB z k t j (rlA z k t j y)) (chF z k t j y acc)
def rndL (z : wZ) (g k : Nat) : Nat → Int → wZ → wZ
  | 0, _, y => y
  | n + 1, t, y => rndL z g k n (t + 1) (if z g t = 0 then rlL z k t (z 0 0).toNat 0 y else y)
def rndF (z : wZ) (g k : Nat) : Nat → Int → wZ → Int → Int
  | 0, _, _, acc => acc
  | n + 1, t, y, acc => rndF z g k n (t + 1) (if z g t = 0 then rlL z k t (z 0 0).toNat 0 y else y) (if z g t = 0 then (if rlF z k t (z 0 0).toNat 0 y 0 = 0 then acc else 1) else acc)
def fwL (z : wZ) (g k : Nat) : Nat → wZ → Int → wZ
  | 0, y, _ => y
  | n + 1, y, f => if f = 0 then y else fwL z g k n (rndL z g k (z 1 0).toNat 0 y) (rndF z g k (z 1 0).toNat 0 y 0)
/-- one column of one trail -/
theorem rl_at {z : wZ} {k : Nat} {t j : Int} {y : wZ} (hp : 0 ≤ z 11 t ∧ z 11 t < 16) (hq : 0 ≤ z 12 t ∧ z 12 t < 16) (hne : z 11 t ≠ z 12 t) (hj : 0 ≤ j ∧ j < 16) :
    (∀ k', k' ≠ k → rlB z k t j (rlA z k t j y) k' = y k') ∧
    (∀ a b, 0 ≤ a → a < 16 → 0 ≤ b → b < 16 → (b ≠ j ∨ (a ≠ z 11 t ∧ a ≠ z 12 t)) → rlB z k t j (rlA z k t j y) k (a * 16 + b) = y k (a * 16 + b)) ∧
    (rlB z k t j (rlA z k t j y) k (z 11 t * 16 + j) = if z 13 t + y k (z 12 t * 16 + j) < y k (z 11 t * 16 + j) then z 13 t + y k (z 12 t * 16 + j) else y k (z 11 t * 16 + j)) ∧
    (rlB z k t j (rlA z k t j y) k (z 12 t * 16 + j) = if z 14 t + rlB z k t j (rlA z k t j y) k (z 11 t * 16 + j) < y k (z 12 t * 16 + j) then z 14 t + rlB z k t j (rlA z k t j y) k (z 11 t * 16 + j) else y k (z 12 t * 16 + j)) := by
  have e1 : ∀ (w : wZ), rlA z k t j w k (z 11 t * 16 + j) = if z 13 t + w k (z 12 t * 16 + j) < w k (z 11 t * 16 + j) then z 13 t + w k (z 12 t * 16 + j) else w k (z 11 t * 16 + j) := fun w => by
    unfold rlA
    split
    · rw [zp_same]
    · rfl
  have e2 : ∀ (w : wZ), rlA z k t j w k (z 12 t * 16 + j) = w k (z 12 t * 16 + j) := fun w => by
    unfold rlA
    split
    · rw [zp_ne _ (by omega)]
    · rfl
  have e3 : ∀ (w : wZ), rlB z k t j w k (z 11 t * 16 + j) = w k (z 11 t * 16 + j) := fun w => by
    unfold rlB
    split
    · rw [zp_ne _ (by omega)]
    · rfl
  have e4 : ∀ (w : wZ), rlB z k t j w k (z 12 t * 16 + j) = if z 14 t + w k (z 11 t * 16 + j) < w k (z 12 t * 16 + j) then z 14 t + w k (z 11 t * 16 + j) else w k (z 12 t * 16 + j) := fun w => by
    unfold rlB
    split
    · rw [zp_same]
    · rfl
  refine ⟨fun k' hk => ?_, fun a b h1 h2 h3 h4 h5 => ?_, ?_, ?_⟩
  · unfold rlB rlA
    (repeat' split) <;> simp only [zp_nk _ hk]
  · have a1 : ∀ (w : wZ), rlA z k t j w k (a * 16 + b) = w k (a * 16 + b) := fun w => by
      unfold rlA
      split
      · rw [zp_ne _ (by omega)]
      · rfl
    have a2 : ∀ (w : wZ), rlB z k t j w k (a * 16 + b) = w k (a * 16 + b) := fun w => by
      unfold rlB
      split
      · rw [zp_ne _ (by omega)]
      · rfl
    rw [a2, a1]
  · rw [e3, e1]
  · rw [e4, e2, e3]
theorem ch_at {z : wZ} {k : Nat} {t j : Int} {y : wZ} {acc : Int} : (chF z k t j y acc = acc ∧ rlB z k t j (rlA z k t j y) = y) ∨ chF z k t j y acc = 1 := by
  by_cases c1 : z 13 t + y k (z 12 t * 16 + j) < y k (z 11 t * 16 + j)
  · right; rw [chF, if_pos c1]
  · by_cases c2 : z 14 t + y k (z 11 t * 16 + j) < y k (z 12 t * 16 + j)
    · right; rw [chF, if_neg c1, if_pos c2]
    · left
      rw [chF, if_neg c1, if_neg c2, rlA, if_neg c1, rlB, if_neg c2]
      exact ⟨rfl, rfl⟩
/-- all columns of one trail -/
theorem rl_all {z : wZ} {k : Nat} {t : Int} (hp : 0 ≤ z 11 t ∧ z 11 t < 16) (hq : 0 ≤ z 12 t ∧ z 12 t < 16) (hne : z 11 t ≠ z 12 t) : ∀ (n : Nat) (j : Int) (y : wZ), 0 ≤ j → j + n ≤ 16 →
    (∀ k', k' ≠ k → rlL z k t n j y k' = y k') ∧
    (∀ a b, 0 ≤ a → a < 16 → 0 ≤ b → b < 16 → (b < j ∨ j + n ≤ b) → rlL z k t n j y k (a * 16 + b) = y k (a * 16 + b)) ∧
    (∀ a b, 0 ≤ a → a < 16 → 0 ≤ b → b < 16 → rlL z k t n j y k (a * 16 + b) ≤ y k (a * 16 + b)) ∧
    (∀ b, j ≤ b → b < j + n → rlL z k t n j y k (z 11 t * 16 + b) ≤ z 13 t + y k (z 12 t * 16 + b) ∧ rlL z k t n j y k (z 12 t * 16 + b) ≤ z 14 t + y k (z 11 t * 16 + b)) ∧
    (∀ D : Int → Int → Int, (∀ a b, 0 ≤ a → a < 16 → 0 ≤ b → b < 16 → D a b ≤ y k (a * 16 + b)) → (∀ b, D (z 11 t) b ≤ z 13 t + D (z 12 t) b ∧ D (z 12 t) b ≤ z 14 t + D (z 11 t) b) → ∀ a b, 0 ≤ a → a < 16 → 0 ≤ b → b < 16 → D a b ≤ rlL z k t n j y k (a * 16 + b)) := by
  intro n
  induction n with
  | zero => intro j y h1 h2; exact ⟨fun _ _ => rfl, fun _ _ _ _ _ _ _ => rfl, fun _ _ _ _ _ _ => Int.le_refl _, fun b h3 h4 => by omega, fun D h3 _ => h3⟩
  | succ n ih =>
    intro j y h1 h2
    obtain ⟨s1, s2, s3, s4⟩ := rl_at (k := k) (t := t) (j := j) (y := y) hp hq hne ⟨h1, by omega⟩
    obtain ⟨i1, i2, i3, i4, i5⟩ := ih (j + 1) (rlB z k t j (rlA z k t j y)) (by omega) (by omega)
    have hle : ∀ a b, 0 ≤ a → a < 16 → 0 ≤ b → b < 16 → rlB z k t j (rlA z k t j y) k (a * 16 + b) ≤ y k (a * 16 + b) := by
      intro a b a0 a1 b0 b1
      by_cases c : b ≠ j ∨ (a ≠ z 11 t ∧ a ≠ z 12 t)
      · rw [s2 a b a0 a1 b0 b1 c]; exact Int.le_refl _
      · have hb : b = j := by omega
        subst hb
        by_cases c1 : a = z 11 t
        · subst c1; rw [s3]; split <;> omega
        · have c2 : a = z 12 t := by omega
          subst c2; rw [s4]; split <;> omega
    have hp2 := hle (z 11 t) j hp.1 hp.2 h1 (by omega)
    have hp3 : rlB z k t j (rlA z k t j y) k (z 11 t * 16 + j) ≤ z 13 t + y k (z 12 t * 16 + j) := by rw [s3]; split <;> omega
    have hq3 : rlB z k t j (rlA z k t j y) k (z 12 t * 16 + j) ≤ z 14 t + rlB z k t j (rlA z k t j y) k (z 11 t * 16 + j) := by rw [s4]; split <;> omega
    refine ⟨fun k' hk => ?_, fun a b a0 a1 b0 b1 c => ?_, fun a b a0 a1 b0 b1 => ?_, fun b c1 c2 => ?_, fun D hD hs a b a0 a1 b0 b1 => ?_⟩
    · unfold rlL; rw [i1 k' hk, s1 k' hk]
    · unfold rlL; rw [i2 a b a0 a1 b0 b1 (by omega), s2 a b a0 a1 b0 b1 (by omega)]
    · unfold rlL; exact Int.le_trans (i3 a b a0 a1 b0 b1) (hle a b a0 a1 b0 b1)
    · unfold rlL
      by_cases c : b = j
      · subst c
        have q1 := i3 (z 11 t) b hp.1 hp.2 h1 (by omega)
        have q2 := i3 (z 12 t) b hq.1 hq.2 h1 (by omega)
        omega
      · have q := i4 b (by omega) (by omega)
        rw [s2 (z 12 t) b hq.1 hq.2 (by omega) (by omega) (Or.inl c), s2 (z 11 t) b hp.1 hp.2 (by omega) (by omega) (Or.inl c)] at q
        exact q
    · unfold rlL
      refine i5 D (fun a b a0 a1 b0 b1 => ?_) hs a b a0 a1 b0 b1
      by_cases c : b ≠ j ∨ (a ≠ z 11 t ∧ a ≠ z 12 t)
      · rw [s2 a b a0 a1 b0 b1 c]; exact hD a b a0 a1 b0 b1
      · have hb : b = j := by omega
        subst hb
        have d1 := hD (z 11 t) b hp.1 hp.2 b0 b1
        have d2 := hD (z 12 t) b hq.1 hq.2 b0 b1
        have d3 := hs b
        have d4 : D (z 11 t) b ≤ rlB z k t b (rlA z k t b y) k (z 11 t * 16 + b) := by rw [s3]; split <;> omega
        by_cases c1 : a = z 11 t
        · subst c1; exact d4
        · have c2 : a = z 12 t := by omega
          subst c2; rw [s4]; split <;> omega
theorem rl_flag {z : wZ} {k : Nat} {t : Int} : ∀ (n : Nat) (j : Int) (y : wZ) (acc : Int), (rlF z k t n j y acc = acc ∧ rlL z k t n j y = y) ∨ rlF z k t n j y acc = 1 := by
  intro n
  induction n with
  | zero => intro j y acc; exact Or.inl ⟨rfl, rfl⟩
  | succ n ih =>
    intro j y acc
    unfold rlF rlL
    rcases ch_at (z := z) (k := k) (t := t) (j := j) (y := y) (acc := acc) with ⟨h1, h2⟩ | h1
    · rw [h1, h2]; exact ih (j + 1) y acc
    · rw [h1]
      rcases ih (j + 1) (rlB z k t j (rlA z k t j y)) 1 with ⟨h2, -⟩ | h2 <;> exact Or.inr h2
/-- a round -/
theorem rnd_all {z : wZ} {g k : Nat} (hW : WT z) (hR : Rng z) : ∀ (n : Nat) (t : Int) (y : wZ), 0 ≤ t → t + n ≤ z 1 0 →
    (∀ k', k' ≠ k → rndL z g k n t y k' = y k') ∧
    (∀ a b, 0 ≤ a → a < 16 → 0 ≤ b → b < 16 → z 0 0 ≤ b → rndL z g k n t y k (a * 16 + b) = y k (a * 16 + b)) ∧
    (∀ a b, 0 ≤ a → a < 16 → 0 ≤ b → b < 16 → rndL z g k n t y k (a * 16 + b) ≤ y k (a * 16 + b)) ∧
    (∀ s b, t ≤ s → s < t + n → z g s = 0 → 0 ≤ b → b < z 0 0 → rndL z g k n t y k (z 11 s * 16 + b) ≤ z 13 s + y k (z 12 s * 16 + b) ∧ rndL z g k n t y k (z 12 s * 16 + b) ≤ z 14 s + y k (z 11 s * 16 + b)) ∧
    (∀ D : Int → Int → Int, (∀ a b, 0 ≤ a → a < 16 → 0 ≤ b → b < 16 → D a b ≤ y k (a * 16 + b)) → (∀ b, SubD z g (fun a => D a b)) → ∀ a b, 0 ≤ a → a < 16 → 0 ≤ b → b < 16 → D a b ≤ rndL z g k n t y k (a * 16 + b)) := by
  have hf : 0 ≤ z 0 0 ∧ z 0 0 ≤ 16 := hR 0 0
  intro n
  induction n with
  | zero => intro t y h1 h2; exact ⟨fun _ _ => rfl, fun _ _ _ _ _ _ _ => rfl, fun _ _ _ _ _ _ => Int.le_refl _, fun s b h3 h4 => by omega, fun D h3 _ => h3⟩
  | succ n ih =>
    intro t y h1 h2
    have hw := hW t h1 (by omega)
    by_cases c : z g t = 0
    · obtain ⟨s1, s2, s3, s4, s5⟩ := rl_all (k := k) (t := t) (by omega) (by omega) hw.2.2.1 (z 0 0).toNat 0 y (Int.le_refl 0) (by omega)
      obtain ⟨i1, i2, i3, i4, i5⟩ := ih (t + 1) (rlL z k t (z 0 0).toNat 0 y) (by omega) (by omega)
      refine ⟨fun k' hk => ?_, fun a b a0 a1 b0 b1 c1 => ?_, fun a b a0 a1 b0 b1 => ?_, fun s b c1 c2 c3 b0 b1 => ?_, fun D hD hs a b a0 a1 b0 b1 => ?_⟩
      · unfold rndL; rw [if_pos c, i1 k' hk, s1 k' hk]
      · unfold rndL; rw [if_pos c, i2 a b a0 a1 b0 b1 c1, s2 a b a0 a1 b0 b1 (by omega)]
      · unfold rndL; rw [if_pos c]; exact Int.le_trans (i3 a b a0 a1 b0 b1) (s3 a b a0 a1 b0 b1)
      · unfold rndL; rw [if_pos c]
        by_cases e : s = t
        · subst e
          have q := s4 b b0 (by omega)
          have q1 := i3 (z 11 s) b (by omega) (by omega) b0 (by omega)
          have q2 := i3 (z 12 s) b (by omega) (by omega) b0 (by omega)
          omega
        · have q := i4 s b (by omega) (by omega) c3 b0 b1
          have hws := hW s (by omega) (by omega)
          have q1 := s3 (z 11 s) b (by omega) (by omega) b0 (by omega)
          have q2 := s3 (z 12 s) b (by omega) (by omega) b0 (by omega)
          omega
      · unfold rndL; rw [if_pos c]
        exact i5 D (s5 D hD (fun b => hs b t ⟨h1, by omega, c⟩)) hs a b a0 a1 b0 b1
    · obtain ⟨i1, i2, i3, i4, i5⟩ := ih (t + 1) y (by omega) (by omega)
      refine ⟨fun k' hk => ?_, fun a b a0 a1 b0 b1 c1 => ?_, fun a b a0 a1 b0 b1 => ?_, fun s b c1 c2 c3 b0 b1 => ?_, fun D hD hs a b a0 a1 b0 b1 => ?_⟩
      · unfold rndL; rw [if_neg c, i1 k' hk]
      · unfold rndL; rw [if_neg c, i2 a b a0 a1 b0 b1 c1]
      · unfold rndL; rw [if_neg c]; exact i3 a b a0 a1 b0 b1
      · unfold rndL; rw [if_neg c]
        have e : s ≠ t := fun e => c (e ▸ c3)
        exact i4 s b (by omega) (by omega) c3 b0 b1
      · unfold rndL; rw [if_neg c]
        exact i5 D hD hs a b a0 a1 b0 b1
theorem rnd_flag {z : wZ} {g k : Nat} : ∀ (n : Nat) (t : Int) (y : wZ) (acc : Int), (rndF z g k n t y acc = acc ∧ rndL z g k n t y = y) ∨ rndF z g k n t y acc = 1 := by
  intro n
  induction n with
  | zero => intro t y acc; exact Or.inl ⟨rfl, rfl⟩
  | succ n ih =>
    intro t y acc
    unfold rndF rndL
    by_cases c : z g t = 0
    · simp only [if_pos c]
      rcases rl_flag (z := z) (k := k) (t := t) (z 0 0).toNat 0 y 0 with ⟨h1, h2⟩ | h1
      · rw [h1, h2, if_pos rfl]; exact ih (t + 1) y acc
      · rw [h1, if_neg (by omega)]
        rcases ih (t + 1) (rlL z k t (z 0 0).toNat 0 y) 1 with ⟨h2, -⟩ | h2 <;> exact Or.inr h2
    · simp only [if_neg c]; exact ih (t + 1) y acc
def col (y : wZ) (k : Nat) (b : Int) : Int → Int := fun a => if 0 ≤ a ∧ a < 16 then y k (a * 16 + b) else 1000000
theorem col_in (y : wZ) (k : Nat) (b : Int) {a : Int} (h0 : 0 ≤ a) (h1 : a < 16) : col y k b a = y k (a * 16 + b) := if_pos ⟨h0, h1⟩
/-- what holds of the rows between rounds: r rounds are done -/
def fwI (z : wZ) (g k : Nat) (r : Nat) (y : wZ) : Prop := (∀ a b, 0 ≤ a → a < 16 → 0 ≤ b → b < 16 → y k (a * 16 + b) ≤ 1000000) ∧
  (∀ a b, 0 ≤ a → a < 16 → 0 ≤ b → b < 16 → ds z g a b ≤ y k (a * 16 + b)) ∧
  (∀ a b, 0 ≤ a → a < 16 → 0 ≤ b → b < 16 → z 0 0 ≤ b → y k (a * 16 + b) = if a = b then 0 else 1000000) ∧
  ∀ b, 0 ≤ b → b < z 0 0 → ∀ a : Int, 0 ≤ a → a < z 0 0 → rk (fun a => ds z g a b) (ds z g a b) (z 0 0).toNat ≤ r → y k (a * 16 + b) ≤ ds z g a b
def fwC (z : wZ) (g k : Nat) (y : wZ) : Prop := ∀ s b, OpT z g s → 0 ≤ b → b < z 0 0 → y k (z 11 s * 16 + b) ≤ z 13 s + y k (z 12 s * 16 + b) ∧ y k (z 12 s * 16 + b) ≤ z 14 s + y k (z 11 s * 16 + b)
/-- a fork that is not there -/
theorem ds_off {z : wZ} (hW : WT z) (hR : Rng z) (g : Nat) {a b : Int} (h : z 0 0 ≤ a ∨ z 0 0 ≤ b) : ds z g a b = if a = b then 0 else 1000000 := by
  have hb := ds_is hW hR g b
  by_cases e : a = b
  · rw [if_pos e]; subst e; exact hb.2.1
  · rw [if_neg e]
    rcases h with h | h
    · rcases hb.2.2.2 a e with q | ⟨t, ho, q⟩
      · exact q
      · have hw := hW t ho.1 ho.2.1
        rcases q with ⟨q, -⟩ | ⟨q, -⟩ <;> omega
    · have hi : IsD z g b (fun a => if a = b then 0 else 1000000) := by
        refine ⟨fun c => by simp only; split <;> omega, by simp, fun t ho => ?_, fun c hc => Or.inl (by simp [hc])⟩
        have hw := hW t ho.1 ho.2.1
        simp only
        rw [if_neg (by omega), if_neg (by omega)]
        omega
      have := ds_eq hW hR hi a
      rw [← this, if_neg e]
theorem fw_end {z : wZ} {g k : Nat} (hW : WT z) (hR : Rng z) {y : wZ} {r : Nat} (hI : fwI z g k r y) (h : (z 0 0).toNat ≤ r + 1 ∨ fwC z g k y) : ∀ a b, 0 ≤ a → a < 16 → 0 ≤ b → b < 16 → y k (a * 16 + b) = ds z g a b := by
  intro a b a0 a1 b0 b1
  have hf : 0 ≤ z 0 0 ∧ z 0 0 ≤ 16 := hR 0 0
  have hlo := hI.2.1 a b a0 a1 b0 b1
  by_cases cb : z 0 0 ≤ b
  · rw [hI.2.2.1 a b a0 a1 b0 b1 cb, ds_off hW hR g (Or.inr cb)]
  by_cases ca : z 0 0 ≤ a
  · have q := ds_off hW hR g (a := a) (b := b) (Or.inl ca)
    rw [if_neg (by omega)] at q
    have := hI.1 a b a0 a1 b0 b1
    omega
  have hup : y k (a * 16 + b) ≤ ds z g a b := by
    rcases h with h | h
    · refine hI.2.2.2 b b0 (by omega) a a0 (by omega) ?_
      have := rk_lt (D := fun a => ds z g a b) (a := a) (n := (z 0 0).toNat) a0 (by omega)
      omega
    · have hb := ds_is hW hR g b
      have q := le_of_sub hW hb (S := col y k b) (by
          have e0 : rk (fun a => ds z g a b) (ds z g b b) (z 0 0).toNat = 0 := by
            have hz : ∀ m, rk (fun a => ds z g a b) (ds z g b b) m = 0 := fun m => by
              induction m with
              | zero => rfl
              | succ m ih => unfold rk; rw [ih, if_neg (by have := (hb.1 m).1; simp only at this; rw [ds_self hW hR]; omega)]
            exact hz _
          have := hI.2.2.2 b b0 (by omega) b b0 (by omega) (by omega)
          rw [ds_self hW hR] at this
          rw [col_in y k b b0 b1]; exact this)
        (fun a => by unfold col; split; exact hI.1 a b (by omega) (by omega) b0 b1; exact Int.le_refl _)
        (fun t ho => by
          have hw := hW t ho.1 ho.2.1
          rw [col_in y k b (by omega) (by omega), col_in y k b (by omega) (by omega)]
          exact h t b ho b0 (by omega)) a
      rw [col_in y k b a0 a1] at q
      exact q
  omega
theorem fw_go {z : wZ} {g k : Nat} (hW : WT z) (hR : Rng z) : ∀ (n : Nat) (y : wZ) (f : Int) (r : Nat), fwI z g k r y → (f = 0 → fwC z g k y) → (z 0 0).toNat ≤ r + n + 1 →
    (∀ k', k' ≠ k → fwL z g k n y f k' = y k') ∧ ∀ a b, 0 ≤ a → a < 16 → 0 ≤ b → b < 16 → fwL z g k n y f k (a * 16 + b) = ds z g a b := by
  have hf : 0 ≤ z 0 0 ∧ z 0 0 ≤ 16 := hR 0 0
  have ht : 0 ≤ z 1 0 ∧ z 1 0 ≤ 24 := hR 1 0
  intro n
  induction n with
  | zero => intro y f r hI hc hr; exact ⟨fun _ _ => rfl, fw_end hW hR hI (Or.inl (by omega))⟩
  | succ n ih =>
    intro y f r hI hc hr
    by_cases e : f = 0
    · unfold fwL; rw [if_pos e]
      exact ⟨fun _ _ => rfl, fw_end hW hR hI (Or.inr (hc e))⟩
    · unfold fwL; rw [if_neg e]
      obtain ⟨s1, s2, s3, s4, s5⟩ := rnd_all (g := g) (k := k) hW hR (z 1 0).toNat 0 y (Int.le_refl 0) (by omega)
      have hI2 : fwI z g k (r + 1) (rndL z g k (z 1 0).toNat 0 y) := by
        refine ⟨fun a b a0 a1 b0 b1 => Int.le_trans (s3 a b a0 a1 b0 b1) (hI.1 a b a0 a1 b0 b1), s5 (ds z g) hI.2.1 (fun b => (ds_is hW hR g b).2.2.1), fun a b a0 a1 b0 b1 c => by rw [s2 a b a0 a1 b0 b1 c]; exact hI.2.2.1 a b a0 a1 b0 b1 c, ?_⟩
        intro b b0 b1 a a0 a1 hrk
        have hb := ds_is hW hR g b
        have q := rnd_step (n := (z 0 0).toNat) (r := r) (S := col y k b) (S' := col (rndL z g k (z 1 0).toNat 0 y) k b) hW (by omega) hb
          (fun a => by unfold col; split; exact Int.le_trans (s3 a b (by omega) (by omega) b0 (by omega)) (hI.1 a b (by omega) (by omega) b0 (by omega)); exact Int.le_refl _)
          (fun a => by unfold col; split; exact s3 a b (by omega) (by omega) b0 (by omega); exact Int.le_refl _)
          (fun t ho => by
            have hw := hW t ho.1 ho.2.1
            have h1 := ho.2.1
            rw [col_in _ k b (by omega) (by omega), col_in _ k b (by omega) (by omega), col_in _ k b (by omega) (by omega), col_in _ k b (by omega) (by omega)]
            exact s4 t b ho.1 (by omega) ho.2.2 b0 b1)
          (fun a a0 a1 h => by rw [col_in y k b a0 (by omega)]; exact hI.2.2.2 b b0 b1 a a0 (by omega) h) a a0 (by omega) hrk
        rw [col_in _ k b a0 (by omega)] at q
        exact q
      have hc2 : rndF z g k (z 1 0).toNat 0 y 0 = 0 → fwC z g k (rndL z g k (z 1 0).toNat 0 y) := by
        intro h0
        rcases rnd_flag (z := z) (g := g) (k := k) (z 1 0).toNat 0 y 0 with ⟨-, h2⟩ | h2
        · intro s b ho b0 b1
          have h1 := ho.2.1
          have q := s4 s b ho.1 (by omega) ho.2.2 b0 b1
          rw [h2] at q ⊢
          exact q
        · omega
      obtain ⟨j1, j2⟩ := ih _ _ (r + 1) hI2 hc2 (by omega)
      exact ⟨fun k' hk => by rw [j1 k' hk, s1 k' hk], j2⟩
theorem fw_ok {z : wZ} {g k : Nat} (hW : WT z) (hR : Rng z) {y : wZ} (h0 : ∀ a b, 0 ≤ a → a < 16 → 0 ≤ b → b < 16 → y k (a * 16 + b) = if a = b then 0 else 1000000) :
    (∀ k', k' ≠ k → fwL z g k (z 0 0 - 1).toNat y 1 k' = y k') ∧ ∀ a b, 0 ≤ a → a < 16 → 0 ≤ b → b < 16 → fwL z g k (z 0 0 - 1).toNat y 1 k (a * 16 + b) = ds z g a b := by
  have hf : 0 ≤ z 0 0 ∧ z 0 0 ≤ 16 := hR 0 0
  refine fw_go hW hR _ y 1 0 ⟨fun a b a0 a1 b0 b1 => ?_, fun a b a0 a1 b0 b1 => ?_, fun a b a0 a1 b0 b1 _ => h0 a b a0 a1 b0 b1, fun b b0 b1 a a0 a1 hr => ?_⟩ (fun h => by omega) (by omega)
  · rw [h0 a b a0 a1 b0 b1]; split <;> omega
  · rw [h0 a b a0 a1 b0 b1]
    split
    · next e => subst e; rw [ds_self hW hR]; exact Int.le_refl _
    · exact (ds_in hW hR g a b).2
  · have q := rnd_0 (n := (z 0 0).toNat) (S := fun a => if a = b then 0 else 1000000) hW (ds_is hW hR g b) b0 (by omega) (by simp) a a0 (by omega) hr
    rw [h0 a b a0 (by omega) b0 (by omega)]
    exact q
end RLX
