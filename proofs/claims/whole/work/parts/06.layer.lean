/-! THE LAYER: the state as one function of numbers, the world's cells read off it by a shape, one judgement JW over it -/
section WL
abbrev wZ : Type := Nat → Int → Int
def zp (z : wZ) (k : Nat) (a x : Int) : wZ := fun k' a' => if k' = k ∧ a' = a then x else z k' a'
abbrev vi (a : Int) : Value := .int (Int32.ofInt a)
/-- a field: a reference to a cell, or the number at a place -/
abbrev wF : Type := Nat ⊕ (Nat × Int)
/-- a cell: an object of a class, or an array: its type, its length, its place -/
abbrev wC : Type := (Nat × List wF) ⊕ (Nat × Nat × Nat)
def wfv (ad : Nat → Nat) (z : wZ) (f : wF) : Value := match f with
  | .inl n => .ref (ad n)
  | .inr q => vi (z q.1 q.2)
def wrow (z : wZ) (k : Nat) : Nat → Int32 := fun j => Int32.ofInt (z k (j : Int))
def wce (aC : Nat → ClassId) (ad : Nat → Nat) (z : wZ) (c : wC) : va_E := match c with
  | .inl o => .inr (o.1, o.2.map (wfv ad z))
  | .inr a => .inl (aC a.1, (a.2.1, .inl (wrow z a.2.2)))
abbrev wSh : Type := List (Nat × wC)
def wd (aC : Nat → ClassId) (ad : Nat → Nat) (sh : wSh) (z : wZ) : va_W := sh.map (fun q => (ad q.1, wce aC ad z q.2))
def wty (aC : Nat → ClassId) : List (ClassId × FieldType) := [(aC 0, .int), (aC 1, .boolean), (aC 2, .char), (aC 3, .long), (aC 4, .double)]
def wAd (ad : Nat → Nat) (sh : wSh) (sz : Nat) : Nat → Prop := fun q => (∃ c, c ∈ sh ∧ ad c.1 = q) ∨ sz ≤ q
def wDi (ad : Nat → Nat) (sh : wSh) : Prop := ∀ (i j : Nat) (p q : Nat × wC), sh[i]? = some p → sh[j]? = some q → ad p.1 = ad q.1 → i = j
theorem wd_get {aC : Nat → ClassId} {ad : Nat → Nat} {sh : wSh} {z : wZ} {i : Nat} {q : Nat × wC} (h : sh[i]? = some q) : (wd aC ad sh z)[i]? = some (ad q.1, wce aC ad z q.2) := by
  simp [wd, List.getElem?_map, h]
theorem wd_inv {aC : Nat → ClassId} {ad : Nat → Nat} {sh : wSh} {z : wZ} {i : Nat} {w : Nat × va_E} (h : (wd aC ad sh z)[i]? = some w) : ∃ q, sh[i]? = some q ∧ w = (ad q.1, wce aC ad z q.2) := by
  simp only [wd, List.getElem?_map] at h
  cases hq : sh[i]? with
  | none => rw [hq] at h; cases h
  | some q => rw [hq] at h; cases h; exact ⟨q, rfl, rfl⟩
theorem wd_D {aC : Nat → ClassId} {ad : Nat → Nat} {sh : wSh} {A : Nat → Prop} (h : wDi ad sh) (hA : ∀ c, c ∈ sh → A (ad c.1)) (z : wZ) : va_D A (wd aC ad sh z) := by
  refine ⟨fun i j p q hi hj he => ?_, fun k q hk => ?_⟩
  · obtain ⟨a, h1, rfl⟩ := wd_inv hi
    obtain ⟨b, h2, rfl⟩ := wd_inv hj
    exact h i j a b h1 h2 he
  · obtain ⟨a, h1, rfl⟩ := wd_inv hk
    exact hA a (List.mem_of_getElem? h1)
theorem zp_same (z : wZ) (k : Nat) (a x : Int) : zp z k a x k a = x := by simp [zp]
theorem zp_ne (z : wZ) {k k' : Nat} {a a' x : Int} (h : ¬ (k' = k ∧ a' = a)) : zp z k a x k' a' = z k' a' := by simp [zp, h]
theorem zp_nk (z : wZ) {k k' : Nat} {a x : Int} (h : k' ≠ k) : zp z k a x k' = z k' := by funext a'; simp [zp, h]
/-- the place is nowhere else in the shape, but at the cell n -/
def wOnly (sh : wSh) (n : Nat) (k : Nat) : Bool := sh.zipIdx.all fun q => q.2 == n || (match q.1.2 with
  | .inl o => o.2.all fun f => match f with | .inl _ => true | .inr g => g.1 != k
  | .inr a => a.2.2 != k)
/-- an object's field's place is in no other field of it -/
def wOnlyF (fs : List wF) (i k : Nat) : Bool := fs.zipIdx.all fun q => q.2 == i || (match q.1 with | .inl _ => true | .inr g => g.1 != k)
theorem wce_other {aC : Nat → ClassId} {ad : Nat → Nat} {z : wZ} {k : Nat} {a x : Int} {c : wC} (h : (match c with
  | .inl o => o.2.all fun f => match f with | .inl _ => true | .inr g => g.1 != k
  | .inr a => a.2.2 != k) = true) : wce aC ad (zp z k a x) c = wce aC ad z c := by
  rcases c with ⟨ci, fs⟩ | ⟨ty, len, k2⟩
  · simp only [wce]
    congr 2
    refine List.map_congr_left fun f hf => ?_
    have h2 := List.all_eq_true.mp h f hf
    rcases f with n | ⟨k3, b⟩
    · rfl
    · have h3 : k3 ≠ k := by simpa using h2
      simp only [wfv]
      rw [zp_nk _ h3]
  · have h3 : k2 ≠ k := by simpa using h
    have h4 : wrow (zp z k a x) k2 = wrow z k2 := by unfold wrow; rw [zp_nk _ h3]
    simp only [wce, h4]
theorem wd_set {aC : Nat → ClassId} {ad : Nat → Nat} {sh : wSh} {z : wZ} {n k : Nat} {a x : Int} {c : Nat × wC} {e : va_E} (hn : sh[n]? = some c) (ho : wOnly sh n k = true) (he : e = wce aC ad (zp z k a x) c.2) : (wd aC ad sh z).set n (ad c.1, e) = wd aC ad sh (zp z k a x) := by
  refine List.ext_getElem? fun i => ?_
  have hl : n < (wd aC ad sh z).length := by simp only [wd, List.length_map]; exact (List.getElem?_eq_some_iff.mp hn).1
  by_cases hi : i = n
  · subst hi
    rw [List.getElem?_set_self hl, wd_get hn, he]
  · rw [List.getElem?_set_ne (Ne.symm hi)]
    simp only [wd, List.getElem?_map]
    cases hq : sh[i]? with
    | none => rfl
    | some q =>
      have hm : (q, i) ∈ sh.zipIdx := by
        rw [List.mem_zipIdx_iff_getElem?]; simpa using hq
      have h1 := List.all_eq_true.mp ho _ hm
      have h2 : (match q.2 with
  | .inl o => o.2.all fun f => match f with | .inl _ => true | .inr g => g.1 != k
  | .inr a => a.2.2 != k) = true := by
        have h3 : (i == n) = false := by simpa using hi
        simp only [h3, Bool.false_or] at h1
        exact h1
      simp only [Option.map_some]
      rw [wce_other h2]
theorem wi_cl {a : Int} (h0 : 0 ≤ a) (h1 : a < 2147483648) : (Int32.ofInt a).toNatClampNeg = a.toNat := Int32.toNatClampNeg_ofInt_of_le (by omega) (by omega)
theorem wi_in {a : Int} {n : Nat} (h0 : 0 ≤ a) (h1 : a < (n : Int)) (hn : n < 2147483648) : vp_in (Int32.ofInt a) n := by
  rw [vp_in_iff, Int32.toInt_ofInt_of_le (by omega) (by omega)]
  exact ⟨h0, h1⟩
theorem wi_ti {a : Int} (h : -2147483648 ≤ a ∧ a ≤ 2147483647) : (Int32.ofInt a).toInt = a := Int32.toInt_ofInt_of_le (by omega) (by omega)
theorem wi_lt {a b : Int} (ha : -2147483648 ≤ a ∧ a ≤ 2147483647) (hb : -2147483648 ≤ b ∧ b ≤ 2147483647) : Int32.ofInt a < Int32.ofInt b ↔ a < b := by
  rw [Int32.lt_iff_toInt_lt, wi_ti ha, wi_ti hb]
theorem wi_le {a b : Int} (ha : -2147483648 ≤ a ∧ a ≤ 2147483647) (hb : -2147483648 ≤ b ∧ b ≤ 2147483647) : Int32.ofInt a ≤ Int32.ofInt b ↔ a ≤ b := by
  rw [Int32.le_iff_toInt_le, wi_ti ha, wi_ti hb]
theorem wi_eq {a b : Int} (ha : -2147483648 ≤ a ∧ a ≤ 2147483647) (hb : -2147483648 ≤ b ∧ b ≤ 2147483647) : Int32.ofInt a = Int32.ofInt b ↔ a = b := by
  rw [← Int32.toInt_inj, wi_ti ha, wi_ti hb]
theorem wi_0 : Int32.ofInt 0 = 0 := rfl
theorem wrow_at {z : wZ} {k : Nat} {a : Int} (h0 : 0 ≤ a) (h1 : a < 2147483648) : wrow z k (Int32.ofInt a).toNatClampNeg = Int32.ofInt (z k a) := by
  rw [wi_cl h0 h1, wrow, Int.toNat_of_nonneg h0]
theorem wrow_up {z : wZ} {k : Nat} {a x : Int} (h0 : 0 ≤ a) (h1 : a < 2147483648) : upd (wrow z k) (Int32.ofInt a).toNatClampNeg (Int32.ofInt x) = wrow (zp z k a x) k := by
  funext j
  rw [wi_cl h0 h1]
  by_cases h : j = a.toNat
  · subst h
    simp [upd, wrow, zp, Int.toNat_of_nonneg h0]
  · have h2 : ¬ ((j : Int) = a) := fun q => h (by rw [← q]; simp)
    simp [upd, wrow, zp, h, h2]
/-- the locals -/
def lvh (ls : Array Slot) (nL : Nat) (L : List (Option Value)) : Prop := ls.size = nL ∧ lv_wf ls ∧ L.length = nL ∧ ∀ (i : Nat) (v : Value), L[i]? = some (some v) → ls[i]? = some (.val v) ∧ v.category = 1
def lvl (L : List (Option Value)) : List (Nat × Value) := L.zipIdx.filterMap fun q => q.1.map fun v => (q.2, v)
theorem lvl_mem {L : List (Option Value)} {i : Nat} {v : Value} : (i, v) ∈ lvl L ↔ L[i]? = some (some v) := by
  simp only [lvl, List.mem_filterMap]
  constructor
  · rintro ⟨⟨o, j⟩, h1, h2⟩
    cases o with
    | none => cases h2
    | some w =>
      simp only [Option.map_some, Option.some.injEq, Prod.mk.injEq] at h2
      obtain ⟨rfl, rfl⟩ := h2
      rw [List.mem_zipIdx_iff_getElem?] at h1
      simpa using h1
  · intro h
    exact ⟨(some v, i), by rw [List.mem_zipIdx_iff_getElem?]; simpa using h, rfl⟩
theorem lvh_has {ls : Array Slot} {nL : Nat} {L : List (Option Value)} (h : lvh ls nL L) : lv_has ls nL (lvl L) := ⟨h.1, h.2.1, fun q hq => (h.2.2.2 q.1 q.2 (lvl_mem.mp hq)).1⟩
theorem lvh_set {ls ls' : Array Slot} {nL i : Nat} {L : List (Option Value)} {v : Value} (h : lvh ls nL L) (hc : v.category = 1) (h2 : lv_has ls' nL ((i, v) :: (lvl L).filter (fun q => !(q.1 == i) && !(q.1 + 1 == i && q.2.category == 2)))) : lvh ls' nL (L.set i (some v)) := by
  refine ⟨h2.1, h2.2.1, by rw [List.length_set]; exact h.2.2.1, fun j w hj => ?_⟩
  by_cases e : j = i
  · subst e
    have hl : j < L.length := by
      have := (List.getElem?_eq_some_iff.mp hj).1
      simpa using this
    rw [List.getElem?_set_self hl] at hj
    cases hj
    exact ⟨h2.2.2 (j, v) List.mem_cons_self, hc⟩
  · rw [List.getElem?_set_ne (Ne.symm e)] at hj
    have h3 := (h.2.2.2 j w hj).2
    refine ⟨h2.2.2 (j, w) (List.mem_cons_of_mem _ (List.mem_filter.mpr ⟨lvl_mem.mpr hj, ?_⟩)), h3⟩
    have e2 : (j == i) = false := by simpa using e
    have e3 : (w.category == 2) = false := by rw [h3]; rfl
    simp [e2, e3]
end WL
