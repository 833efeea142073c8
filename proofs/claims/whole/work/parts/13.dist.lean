/-! THE LEAST MINUTES, as mathematics: what fits the trails is one function alone -/
section DIST
/-- the trails are between two forks, with minutes -/
def WT (z : wZ) : Prop := ∀ t, 0 ≤ t → t < z 1 0 → (0 ≤ z 11 t ∧ z 11 t < z 0 0) ∧ (0 ≤ z 12 t ∧ z 12 t < z 0 0) ∧ z 11 t ≠ z 12 t ∧ 1 ≤ z 13 t ∧ 1 ≤ z 14 t
def OpT (z : wZ) (g : Nat) (t : Int) : Prop := 0 ≤ t ∧ t < z 1 0 ∧ z g t = 0
def SubD (z : wZ) (g : Nat) (D : Int → Int) : Prop := ∀ t, OpT z g t → D (z 11 t) ≤ z 13 t + D (z 12 t) ∧ D (z 12 t) ≤ z 14 t + D (z 11 t)
def IsD (z : wZ) (g : Nat) (b : Int) (D : Int → Int) : Prop := (∀ a, 0 ≤ D a ∧ D a ≤ 1000000) ∧ D b = 0 ∧ SubD z g D ∧
  ∀ a, a ≠ b → D a = 1000000 ∨ ∃ t, OpT z g t ∧ ((a = z 11 t ∧ D a = z 13 t + D (z 12 t)) ∨ (a = z 12 t ∧ D a = z 14 t + D (z 11 t)))
theorem le_of_sub {z : wZ} {g : Nat} {b : Int} {D S : Int → Int} (hW : WT z) (hD : IsD z g b D) (h0 : S b ≤ 0) (hM : ∀ a, S a ≤ 1000000) (hS : SubD z g S) : ∀ a, S a ≤ D a := by
  have key : ∀ (n : Nat) (a : Int), D a ≤ n → S a ≤ D a := by
    intro n
    induction n with
    | zero =>
      intro a ha
      have h1 := (hD.1 a).1
      by_cases e : a = b
      · subst e; rw [hD.2.1]; exact h0
      · rcases hD.2.2.2 a e with h | ⟨t, ho, h⟩
        · omega
        · have hw := hW t ho.1 ho.2.1
          have q1 := (hD.1 (z 12 t)).1
          have q2 := (hD.1 (z 11 t)).1
          rcases h with ⟨-, h⟩ | ⟨-, h⟩ <;> omega
    | succ n ih =>
      intro a ha
      by_cases e : a = b
      · subst e; rw [hD.2.1]; exact h0
      · rcases hD.2.2.2 a e with h | ⟨t, ho, h⟩
        · rw [h]; exact hM a
        · have hw := hW t ho.1 ho.2.1
          have hs := hS t ho
          rcases h with ⟨e1, h⟩ | ⟨e1, h⟩
          · have q := ih (z 12 t) (by omega)
            rw [← e1] at hs
            omega
          · have q := ih (z 11 t) (by omega)
            rw [← e1] at hs
            omega
  intro a
  have h1 := (hD.1 a).1
  exact key (D a).toNat a (by omega)
theorem D_unique {z : wZ} {g : Nat} {b : Int} {D E : Int → Int} (hW : WT z) (hD : IsD z g b D) (hE : IsD z g b E) : ∀ a, D a = E a := fun a => by
  have h1 := le_of_sub hW hE (Int.le_of_eq hD.2.1) (fun a => (hD.1 a).2) hD.2.2.1 a
  have h2 := le_of_sub hW hD (Int.le_of_eq hE.2.1) (fun a => (hE.1 a).2) hE.2.2.1 a
  omega
def smI (D : Int → Int) : Nat → Int
  | 0 => 0
  | n + 1 => smI D n + D n
theorem smI_nn {D : Int → Int} (h : ∀ a, 0 ≤ D a) : ∀ n, 0 ≤ smI D n
  | 0 => Int.le_refl 0
  | n + 1 => by have := smI_nn h n; have := h n; unfold smI; omega
theorem smI_le {D E : Int → Int} (h : ∀ a, D a ≤ E a) : ∀ n, smI D n ≤ smI E n
  | 0 => Int.le_refl 0
  | n + 1 => by have := smI_le h n; have := h n; unfold smI; omega
theorem smI_lt {D E : Int → Int} (h : ∀ a, D a ≤ E a) {x : Int} (hx : 0 ≤ x) (hl : D x < E x) : ∀ n : Nat, x < n → smI D n < smI E n
  | 0, hn => by omega
  | n + 1, hn => by
    by_cases e : x = n
    · have := smI_le h n; rw [e] at hl; unfold smI; omega
    · have := smI_lt h hx hl n (by omega); have := h n; unfold smI; omega
/-- weaker: each number has a trail that it is no less than -/
def RelD (z : wZ) (g : Nat) (b : Int) (D : Int → Int) : Prop := (∀ a, 0 ≤ D a ∧ D a ≤ 1000000) ∧ D b = 0 ∧
  ∀ a, a ≠ b → D a = 1000000 ∨ ∃ t, OpT z g t ∧ ((a = z 11 t ∧ z 13 t + D (z 12 t) ≤ D a) ∨ (a = z 12 t ∧ z 14 t + D (z 11 t) ≤ D a))
theorem RelD_step {z : wZ} {g : Nat} {b : Int} {D : Int → Int} (h : RelD z g b D) {x v : Int} (hv : v < D x) (h0 : 0 ≤ v) (hr : ∃ t, OpT z g t ∧ ((x = z 11 t ∧ x ≠ z 12 t ∧ z 13 t + D (z 12 t) = v) ∨ (x = z 12 t ∧ x ≠ z 11 t ∧ z 14 t + D (z 11 t) = v))) (hx : x ≠ b) : RelD z g b (fun a => if a = x then v else D a) := by
  refine ⟨fun a => ?_, ?_, fun a ha => ?_⟩
  · have h1 := h.1 a
    by_cases e : a = x
    · subst e; simp only [if_true]; omega
    · simp only [if_neg e]; exact h1
  · simp only [if_neg (Ne.symm hx)]; exact h.2.1
  · have hle : ∀ c, (if c = x then v else D c) ≤ D c := fun c => by by_cases e : c = x <;> simp [e] ; omega
    by_cases e : a = x
    · subst e
      obtain ⟨t, ho, hc⟩ := hr
      refine Or.inr ⟨t, ho, ?_⟩
      rcases hc with ⟨e1, e2, e3⟩ | ⟨e1, e2, e3⟩
      · left
        refine ⟨e1, ?_⟩
        simp only [if_neg (Ne.symm e2), if_true]; omega
      · right
        refine ⟨e1, ?_⟩
        simp only [if_neg (Ne.symm e2), if_true]; omega
    · simp only [if_neg e]
      rcases h.2.2 a ha with h1 | ⟨t, ho, hc⟩
      · exact Or.inl h1
      · refine Or.inr ⟨t, ho, ?_⟩
        rcases hc with ⟨e1, e2⟩ | ⟨e1, e2⟩
        · left; exact ⟨e1, by have := hle (z 12 t); omega⟩
        · right; exact ⟨e1, by have := hle (z 11 t); omega⟩
theorem D_exN {z : wZ} {g : Nat} {b : Int} (hW : WT z) (hR : Rng z) : ∀ (N : Nat) (D : Int → Int), RelD z g b D → smI D 16 ≤ N → ∃ E, IsD z g b E := by
  intro N
  induction N with
  | zero =>
    intro D h hs
    refine ⟨D, h.1, h.2.1, fun t ho => ?_, fun a ha => ?_⟩
    · have hw := hW t ho.1 ho.2.1
      have hf : 0 ≤ z 0 0 ∧ z 0 0 ≤ 16 := hR 0 0
      have hz : ∀ x, 0 ≤ x → x < 16 → D x = 0 := fun x h1 h2 => by
        have a1 := (h.1 x).1
        rcases Int.lt_or_eq_of_le a1 with a2 | a2
        · have := smI_lt (D := fun _ => 0) (E := D) (fun a => (h.1 a).1) h1 a2 16 h2
          have q := smI_nn (D := fun _ => 0) (fun _ => Int.le_refl 0) 16
          omega
        · exact a2.symm
      rw [hz (z 11 t) (by omega) (by omega), hz (z 12 t) (by omega) (by omega)]; omega
    · rcases h.2.2 a ha with h1 | ⟨t, ho, hc⟩
      · exact Or.inl h1
      · have hw := hW t ho.1 ho.2.1
        have hf : 0 ≤ z 0 0 ∧ z 0 0 ≤ 16 := hR 0 0
        have hz : ∀ x, 0 ≤ x → x < 16 → D x = 0 := fun x h1 h2 => by
          have a1 := (h.1 x).1
          rcases Int.lt_or_eq_of_le a1 with a2 | a2
          · have := smI_lt (D := fun _ => 0) (E := D) (fun a => (h.1 a).1) h1 a2 16 h2
            have q := smI_nn (D := fun _ => 0) (fun _ => Int.le_refl 0) 16
            omega
          · exact a2.symm
        have q1 := hz (z 11 t) (by omega) (by omega)
        have q2 := hz (z 12 t) (by omega) (by omega)
        rcases hc with ⟨e1, e2⟩ | ⟨e1, e2⟩
        · rw [e1] at e2; omega
        · rw [e1] at e2; omega
  | succ N ih =>
    intro D h hs
    by_cases hS : SubD z g D
    · refine ⟨D, h.1, h.2.1, hS, fun a ha => ?_⟩
      rcases h.2.2 a ha with h1 | ⟨t, ho, hc⟩
      · exact Or.inl h1
      · refine Or.inr ⟨t, ho, ?_⟩
        have q := hS t ho
        rcases hc with ⟨e1, e2⟩ | ⟨e1, e2⟩
        · left; refine ⟨e1, ?_⟩; rw [← e1] at q; omega
        · right; refine ⟨e1, ?_⟩; rw [← e1] at q; omega
    · have hf : 0 ≤ z 0 0 ∧ z 0 0 ≤ 16 := hR 0 0
      have hex : ∃ t, OpT z g t ∧ ¬ (D (z 11 t) ≤ z 13 t + D (z 12 t) ∧ D (z 12 t) ≤ z 14 t + D (z 11 t)) := by
        refine Classical.byContradiction fun hn => hS fun t ho => ?_
        exact Classical.byContradiction fun hc => hn ⟨t, ho, hc⟩
      obtain ⟨t, ho, hv⟩ := hex
      have hw := hW t ho.1 ho.2.1
      have b1 := h.1 (z 11 t)
      have b2 := h.1 (z 12 t)
      by_cases c1 : D (z 11 t) ≤ z 13 t + D (z 12 t)
      · have c2 : z 14 t + D (z 11 t) < D (z 12 t) := by omega
        refine ih _ (RelD_step h c2 (by omega) ⟨t, ho, Or.inr ⟨rfl, Ne.symm hw.2.2.1, rfl⟩⟩ (fun e => by rw [e, h.2.1] at c2; omega)) ?_
        have := smI_lt (D := fun a => if a = z 12 t then z 14 t + D (z 11 t) else D a) (E := D) (fun a => by by_cases e : a = z 12 t <;> simp [e]; omega) (x := z 12 t) (by omega) (by simpa using c2) 16 (by omega)
        omega
      · have c2 : z 13 t + D (z 12 t) < D (z 11 t) := by omega
        refine ih _ (RelD_step h c2 (by omega) ⟨t, ho, Or.inl ⟨rfl, hw.2.2.1, rfl⟩⟩ (fun e => by rw [e, h.2.1] at c2; omega)) ?_
        have := smI_lt (D := fun a => if a = z 11 t then z 13 t + D (z 12 t) else D a) (E := D) (fun a => by by_cases e : a = z 11 t <;> simp [e]; omega) (x := z 11 t) (by omega) (by simpa using c2) 16 (by omega)
        omega
def D0 (b : Int) : Int → Int := fun a => if a = b then 0 else 1000000
theorem D0_rel (z : wZ) (g : Nat) (b : Int) : RelD z g b (D0 b) := by
  refine ⟨fun a => ?_, by simp [D0], fun a ha => Or.inl (by simp [D0, ha])⟩
  unfold D0; split <;> omega
theorem D_ex {z : wZ} (hW : WT z) (hR : Rng z) (g : Nat) (b : Int) : ∃ E, IsD z g b E :=
  D_exN hW hR (smI (D0 b) 16).toNat (D0 b) (D0_rel z g b) (by have := smI_nn (D := D0 b) (fun a => by unfold D0; split <;> omega) 16; omega)
noncomputable def ds (z : wZ) (g : Nat) (a b : Int) : Int := Classical.epsilon (fun D : Int → Int => IsD z g b D) a
theorem ds_is {z : wZ} (hW : WT z) (hR : Rng z) (g : Nat) (b : Int) : IsD z g b (fun a => ds z g a b) := Classical.epsilon_spec (D_ex hW hR g b)
theorem ds_eq {z : wZ} (hW : WT z) (hR : Rng z) {g : Nat} {b : Int} {D : Int → Int} (h : IsD z g b D) (a : Int) : D a = ds z g a b := D_unique hW h (ds_is hW hR g b) a
theorem ds_congr {z w : wZ} {g : Nat} (h1 : z 1 = w 1) (h11 : z 11 = w 11) (h12 : z 12 = w 12) (h13 : z 13 = w 13) (h14 : z 14 = w 14) (hg : z g = w g) : ds z g = ds w g := by
  have e : ∀ b, IsD z g b = IsD w g b := fun b => by
    funext D
    simp only [IsD, SubD, OpT, h1, h11, h12, h13, h14, hg]
  funext a b
  unfold ds
  rw [e b]
theorem ds_in {z : wZ} (hW : WT z) (hR : Rng z) (g : Nat) (a b : Int) : 0 ≤ ds z g a b ∧ ds z g a b ≤ 1000000 := (ds_is hW hR g b).1 a
theorem ds_self {z : wZ} (hW : WT z) (hR : Rng z) (g : Nat) (b : Int) : ds z g b b = 0 := (ds_is hW hR g b).2.1
/-- three forks -/
theorem ds_tri {z : wZ} (hW : WT z) (hR : Rng z) (g : Nat) (a j b : Int) : ds z g a b ≤ ds z g a j + ds z g j b := by
  have hj := ds_is hW hR g j
  have hb := ds_is hW hR g b
  have key : ∀ (n : Nat) (a : Int), ds z g a j ≤ n → ds z g a b ≤ ds z g a j + ds z g j b := by
    intro n
    induction n with
    | zero =>
      intro a ha
      by_cases e : a = j
      · subst e; have := (hj.1 a).1; simp only at this; omega
      · rcases hj.2.2.2 a e with h | ⟨t, ho, h⟩
        · have : ds z g a j = 1000000 := h; omega
        · have hw := hW t ho.1 ho.2.1
          have q1 := (hj.1 (z 12 t)).1
          have q2 := (hj.1 (z 11 t)).1
          rcases h with ⟨-, h⟩ | ⟨-, h⟩ <;> simp only at h q1 q2 <;> omega
    | succ n ih =>
      intro a ha
      by_cases e : a = j
      · subst e; have := (hj.1 a).1; simp only at this; omega
      · rcases hj.2.2.2 a e with h | ⟨t, ho, h⟩
        · have h9 : ds z g a j = 1000000 := h
          have q1 := (hb.1 a).2
          have q2 := (hb.1 j).1
          simp only at q1 q2
          omega
        · have hw := hW t ho.1 ho.2.1
          have hs := hb.2.2.1 t ho
          simp only at h hs
          rcases h with ⟨e1, h⟩ | ⟨e1, h⟩
          · have q := ih (z 12 t) (by omega)
            rw [← e1] at hs
            omega
          · have q := ih (z 11 t) (by omega)
            rw [← e1] at hs
            omega
  have h1 := (hj.1 a).1
  exact key (ds z g a j).toNat a (by simp only at h1; omega)
/-- how many forks are nearer -/
def rk (D : Int → Int) (v : Int) : Nat → Nat
  | 0 => 0
  | n + 1 => rk D v n + if D n < v then 1 else 0
theorem rk_mono {D : Int → Int} {v w : Int} (h : v ≤ w) : ∀ n, rk D v n ≤ rk D w n
  | 0 => Nat.le_refl 0
  | n + 1 => by
    have := rk_mono (D := D) h n
    unfold rk
    by_cases c : D n < v
    · rw [if_pos c, if_pos (by omega)]; omega
    · rw [if_neg c]; split <;> omega
theorem rk_up {D : Int → Int} {v w x : Int} (h : v ≤ w) (hx : 0 ≤ x) (h1 : v ≤ D x) (h2 : D x < w) : ∀ n : Nat, x < n → rk D v n + 1 ≤ rk D w n
  | 0, hn => by omega
  | n + 1, hn => by
    unfold rk
    by_cases e : x = n
    · have := rk_mono (D := D) h n
      rw [e] at h1 h2
      rw [if_neg (by omega), if_pos (by omega)]; omega
    · have := rk_up h hx h1 h2 n (by omega)
      by_cases c : D n < v
      · rw [if_pos c, if_pos (by omega)]; omega
      · rw [if_neg c]; split <;> omega
theorem rk_le {D : Int → Int} {v : Int} : ∀ n, rk D v n ≤ n
  | 0 => Nat.le_refl 0
  | n + 1 => by have := rk_le (D := D) (v := v) n; unfold rk; split <;> omega
theorem rk_lt {D : Int → Int} {a : Int} {n : Nat} (h0 : 0 ≤ a) (h1 : a < n) : rk D (D a) n + 1 ≤ n := by
  have := rk_up (D := D) (v := D a) (w := D a + 1) (x := a) (by omega) h0 (Int.le_refl _) (by omega) n h1
  have := rk_le (D := D) (v := D a + 1) n
  omega
/-- no way is longer than 300 minutes a fork -/
theorem ds_short {z : wZ} (hW : WT z) (hR : Rng z) (g : Nat) {a b : Int} (h : ds z g a b < 1000000) : ds z g a b ≤ 300 * rk (fun a => ds z g a b) (ds z g a b) 16 := by
  have hb := ds_is hW hR g b
  have hf : 0 ≤ z 0 0 ∧ z 0 0 ≤ 16 := hR 0 0
  have key : ∀ (n : Nat) (a : Int), ds z g a b ≤ n → ds z g a b < 1000000 → ds z g a b ≤ 300 * rk (fun a => ds z g a b) (ds z g a b) 16 := by
    intro n
    induction n with
    | zero => intro a ha _; have := (hb.1 a).1; simp only at this; omega
    | succ n ih =>
      intro a ha hl
      by_cases e : a = b
      · subst e; rw [ds_self hW hR]; omega
      · rcases hb.2.2.2 a e with h | ⟨t, ho, h⟩
        · simp only at h; omega
        · have hw := hW t ho.1 ho.2.1
          simp only at h
          have r13 : 0 ≤ z 13 t ∧ z 13 t ≤ 300 := hR 13 t
          have r14 : 0 ≤ z 14 t ∧ z 14 t ≤ 300 := hR 14 t
          rcases h with ⟨e1, h⟩ | ⟨e1, h⟩
          · have q := ih (z 12 t) (by omega) (by omega)
            have u := rk_up (D := fun a => ds z g a b) (v := ds z g (z 12 t) b) (w := ds z g a b) (x := z 12 t) (by omega) (by omega) (Int.le_refl _) (by show ds z g (z 12 t) b < ds z g a b; omega) 16 (by omega)
            omega
          · have q := ih (z 11 t) (by omega) (by omega)
            have u := rk_up (D := fun a => ds z g a b) (v := ds z g (z 11 t) b) (w := ds z g a b) (x := z 11 t) (by omega) (by omega) (Int.le_refl _) (by show ds z g (z 11 t) b < ds z g a b; omega) 16 (by omega)
            omega
  have h1 := (hb.1 a).1
  exact key (ds z g a b).toNat a (by simp only at h1; omega) h
theorem ds_4800 {z : wZ} (hW : WT z) (hR : Rng z) (g : Nat) (a b : Int) : ds z g a b ≤ 4800 ∨ ds z g a b = 1000000 := by
  have h1 := ds_in hW hR g a b
  by_cases h : ds z g a b < 1000000
  · have := ds_short hW hR g h
    have := rk_le (D := fun a => ds z g a b) (v := ds z g a b) 16
    left; omega
  · right; omega
/-- a round over the trails brings one more fork to its least -/
theorem rnd_step {z : wZ} {g : Nat} {b : Int} {D S S' : Int → Int} {n r : Nat} (hW : WT z) (hn : z 0 0 = n) (hD : IsD z g b D) (hM : ∀ a, S' a ≤ 1000000) (hle : ∀ a, S' a ≤ S a)
    (hs : ∀ t, OpT z g t → S' (z 11 t) ≤ z 13 t + S (z 12 t) ∧ S' (z 12 t) ≤ z 14 t + S (z 11 t))
    (h : ∀ a : Int, 0 ≤ a → a < n → rk D (D a) n ≤ r → S a ≤ D a) : ∀ a : Int, 0 ≤ a → a < n → rk D (D a) n ≤ r + 1 → S' a ≤ D a := by
  intro a h0 h1 hr
  by_cases hr2 : rk D (D a) n ≤ r
  · exact Int.le_trans (hle a) (h a h0 h1 hr2)
  by_cases e : a = b
  · subst e
    have : rk D (D a) n = 0 := by
      have hz : ∀ m, rk D (D a) m = 0 := fun m => by
        induction m with
        | zero => rfl
        | succ m ih => unfold rk; rw [ih, if_neg (by have := (hD.1 m).1; rw [hD.2.1]; omega)]
      exact hz n
    exact Int.le_trans (hle a) (h a h0 h1 (by omega))
  · rcases hD.2.2.2 a e with q | ⟨t, ho, q⟩
    · rw [q]; exact hM a
    · have hw := hW t ho.1 ho.2.1
      have hs' := hs t ho
      rcases q with ⟨e1, q⟩ | ⟨e1, q⟩
      · have u := rk_up (D := D) (v := D (z 12 t)) (w := D a) (x := z 12 t) (by omega) (by omega) (Int.le_refl _) (by omega) n (by omega)
        have k := h (z 12 t) (by omega) (by omega) (by omega)
        rw [← e1] at hs'
        omega
      · have u := rk_up (D := D) (v := D (z 11 t)) (w := D a) (x := z 11 t) (by omega) (by omega) (Int.le_refl _) (by omega) n (by omega)
        have k := h (z 11 t) (by omega) (by omega) (by omega)
        rw [← e1] at hs'
        omega
theorem rnd_0 {z : wZ} {g : Nat} {b : Int} {D S : Int → Int} {n : Nat} (hW : WT z) (hD : IsD z g b D) (hb : 0 ≤ b) (hbn : b < n) (h0 : S b ≤ 0) : ∀ a : Int, 0 ≤ a → a < n → rk D (D a) n ≤ 0 → S a ≤ D a := by
  intro a h1 h2 hr
  by_cases e : a = b
  · subst e; rw [hD.2.1]; exact h0
  · exfalso
    have hp : 0 < D a := by
      have q := (hD.1 a).1
      rcases hD.2.2.2 a e with h | ⟨t, ho, h⟩
      · omega
      · have hw := hW t ho.1 ho.2.1
        have q1 := (hD.1 (z 12 t)).1
        have q2 := (hD.1 (z 11 t)).1
        rcases h with ⟨-, h⟩ | ⟨-, h⟩ <;> omega
    have u := rk_up (D := D) (v := 0) (w := D a) (x := b) (by omega) hb (by rw [hD.2.1]; exact Int.le_refl 0) (by rw [hD.2.1]; exact hp) n hbn
    omega
end DIST
