/-- fewer locals are known -/
def lSub : List (Option Value) → List (Option Value) → Prop
  | [], [] => True
  | none :: a, _ :: b => lSub a b
  | some v :: a, w :: b => w = some v ∧ lSub a b
  | _, _ => False
theorem lSub_len : ∀ (a b : List (Option Value)), lSub a b → a.length = b.length
  | [], [], _ => rfl
  | none :: a, _ :: b, h => congrArg (· + 1) (lSub_len a b h)
  | some _ :: a, _ :: b, h => congrArg (· + 1) (lSub_len a b h.2)
theorem lSub_at : ∀ (a b : List (Option Value)), lSub a b → ∀ (i : Nat) (v : Value), a[i]? = some (some v) → b[i]? = some (some v)
  | [], [], _, i, v, h => by simp at h
  | none :: a, _ :: b, h, 0, v, h2 => by simp at h2
  | none :: a, _ :: b, h, i + 1, v, h2 => by
    rw [List.getElem?_cons_succ] at h2 ⊢
    exact lSub_at a b h i v h2
  | some w :: a, _ :: b, h, 0, v, h2 => by
    rw [List.getElem?_cons_zero] at h2 ⊢
    rw [h.1]; exact h2
  | some w :: a, _ :: b, h, i + 1, v, h2 => by
    rw [List.getElem?_cons_succ] at h2 ⊢
    exact lSub_at a b h.2 i v h2
theorem lvh_sub {ls : Array Slot} {nL : Nat} {L L' : List (Option Value)} (h : lvh ls nL L) (hs : lSub L' L) : lvh ls nL L' := ⟨h.1, h.2.1, (lSub_len _ _ hs).trans h.2.2.1, fun i v hi => h.2.2.2 i v (lSub_at _ _ hs i v hi)⟩
theorem i_forget {p : Program} {l : Launch} {e : Env} {R : Room} {s : State} {m : MethodId} {args : Array Value} {below : List Frame} {meth : Method} {c : Code} {nL : Nat} {D : va_G} {aC : Nat → ClassId} {ad : Nat → Nat} {A : Nat → Prop} {sh : wSh} {Q : State → Prop} {cells slots : Nat} {z : wZ} {pc : Nat} {L L' : List (Option Value)} {st : List Value} (hs : lSub L' L) (k : JW p l e R s m args below meth c nL D aC ad A sh Q cells slots z pc L' st) : JW p l e R s m args below meth c nL D aC ad A sh Q cells slots z pc L st :=
  fun H locs ls hP hS hl => k H locs ls hP hS (lvh_sub hl hs)
/-- what both sides compute of a trail -/
def oth (z : wZ) (t f : Int) : Int := if z 11 t = f then z 12 t else z 11 t
def ofm (z : wZ) (t f : Int) : Int := if z 11 t = f then z 13 t else z 14 t
abbrev cD (y : wZ) (k : Nat) : Int → Int → Int := fun a b => y k (a * 16 + b)
theorem oth_in {z : wZ} (h : Rng z) (t f : Int) : 0 ≤ oth z t f ∧ oth z t f ≤ 15 := by
  have h1 : 0 ≤ z 11 t ∧ z 11 t ≤ 15 := h 11 t
  have h2 : 0 ≤ z 12 t ∧ z 12 t ≤ 15 := h 12 t
  unfold oth; split <;> omega
theorem ofm_in {z : wZ} (h : Rng z) (t f : Int) : 0 ≤ ofm z t f ∧ ofm z t f ≤ 300 := by
  have h1 : 0 ≤ z 13 t ∧ z 13 t ≤ 300 := h 13 t
  have h2 : 0 ≤ z 14 t ∧ z 14 t ≤ 300 := h 14 t
  unfold ofm; split <;> omega

theorem sum_in {a b : Int} (h1 : 0 ≤ a ∧ a ≤ 300) (h2 : 0 ≤ b ∧ b ≤ 1000000) : 0 ≤ a + b ∧ a + b ≤ 1000300 := by omega
def nxtL (z : wZ) (D : Int → Int → Int) (a b : Int) : Nat → Int → Int
  | 0, _ => -1
  | n + 1, t => if (z 11 t = a ∨ z 12 t = a) ∧ z 16 t = 0 ∧ ofm z t a + D (oth z t a) b = D a b then t else nxtL z D a b n (t + 1)
def nxtF (z : wZ) (D : Int → Int → Int) (a b : Int) : Int := if a = b ∨ 1000000 ≤ D a b then -1 else nxtL z D a b (z 1 0).toNat 0
theorem nxtL_in (z : wZ) (D : Int → Int → Int) (a b : Int) : ∀ (n : Nat) (t : Int), 0 ≤ t → nxtL z D a b n t = -1 ∨ (0 ≤ nxtL z D a b n t ∧ nxtL z D a b n t < t + n)
  | 0, t, _ => Or.inl rfl
  | n + 1, t, h => by
    unfold nxtL
    split
    · right; omega
    · rcases nxtL_in z D a b n (t + 1) (by omega) with h1 | h1
      · exact Or.inl h1
      · right; omega
theorem nxtF_in {z : wZ} (h : Rng z) (D : Int → Int → Int) (a b : Int) : -1 ≤ nxtF z D a b ∧ nxtF z D a b < z 1 0 := by
  have h1 : 0 ≤ z 1 0 ∧ z 1 0 ≤ 24 := h 1 0
  unfold nxtF
  split
  · omega
  · rcases nxtL_in z D a b (z 1 0).toNat 0 (by omega) with h2 | h2 <;> omega

set_option maxHeartbeats 4000000 in
set_option maxRecDepth 100000 in
theorem c_leastMinutes_0 (l : Launch) {D : va_G} {aC : Nat → ClassId} {ad : Nat → Nat} (hd : wDi ad shC) {z y : wZ} (hR : Rng z) (hY : Rng y) (a : Int) (b : Int) (ha : 0 ≤ a ∧ a ≤ 15) (hb : 0 ≤ b ∧ b ≤ 15) : cE l D aC ad shC yX5_leastMinutes cX5_leastMinutes 3 (.int) (rmL 0) [.ref (ad 10), vi a, vi b] z y (y 65 (a * 16 + b)) := by
  refine c_i [some (.ref (ad 10)), some (vi (a)), some (vi (b))] (by decide +kernel) rfl (Nat.le_of_ble_eq_true rfl) rfl hd ?_
  intro p e s m args below meth c A G hr
  refine i_aload_n G dX5_leastMinutes_0 rfl ?_
  refine i_getr G F_X5_15 10 rfl rfl dX5_leastMinutes_1 ?_
  refine i_iload_n G dX5_leastMinutes_4 rfl ?_
  refine i_bipush G dX5_leastMinutes_5 (by decide) ?_
  refine i_imul G dX5_leastMinutes_7 ?_
  refine i_iload_n G dX5_leastMinutes_8 rfl ?_
  refine i_iadd G dX5_leastMinutes_9 ?_
  refine j_iald_y G 12 rfl (by decide) (by decide) (by omega) (by omega) dX5_leastMinutes_10 ?_
  have b10 : 0 ≤ y 65 ((a * 16) + b) ∧ y 65 ((a * 16) + b) ≤ 1000000 := hY 65 _
  refine j_reti G hr dX5_leastMinutes_11 ?_
  exact ⟨rfl, rfl, rfl⟩
set_option maxHeartbeats 4000000 in
set_option maxRecDepth 100000 in
theorem c_forgetWays_0 (l : Launch) {D : va_G} {aC : Nat → ClassId} {ad : Nat → Nat} (hd : wDi ad shC) {z y : wZ} (hR : Rng z) (hY : Rng y)   : cYv l D aC ad shC yX5_forgetWays cX5_forgetWays 3 (rmL 0) [.ref (ad 10)] z y (fun y' => Rng y' ∧ (∀ k', k' ≠ 65 → y' k' = y k') ∧ ∀ a b, 0 ≤ a → a < 16 → 0 ≤ b → b < 16 → y' 65 (a * 16 + b) = if a = b then 0 else 1000000) := by
  refine c_v [some (.ref (ad 10)), none, none] (by decide +kernel) rfl (Nat.le_of_ble_eq_true rfl) rfl hd ?_
  intro p e s m args below meth c A G hr
  refine i_iconst G dX5_forgetWays_0 ?_
  refine i_istore_n (L' := [some (.ref (ad 10)), some (vi (0)), none]) G dX5_forgetWays_1 (by decide) rfl ?_
  refine i_forget (L' := [some (.ref (ad 10)), some (vi (0)), none]) ⟨rfl, ⟨rfl, trivial⟩⟩ ?_
  have lp2 : ∀ (n2 : Nat) (i : Int) (y2_ : wZ), Rng y2_ → (0 ≤ i) → (i + n2 = 16) → (∀ k', k' ≠ 65 → y2_ k' = y k') → (∀ a b, 0 ≤ a → a < i → 0 ≤ b → b < 16 → y2_ 65 (a * 16 + b) = if a = b then 0 else 1000000) → JW p l e (rmL 0) s m args below meth c 3 D aC ad A shC (MQ below (cQv D aC ad shC (fun z_ y_ => z_ = z ∧ (fun y' => Rng y' ∧ (∀ k', k' ≠ 65 → y' k' = y k') ∧ ∀ a b, 0 ≤ a → a < 16 → 0 ≤ b → b < 16 → y' 65 (a * 16 + b) = if a = b then 0 else 1000000) y_) A) args s 0 0 A) 0 0 (zc z y2_) 2 [some (.ref (ad 10)), some (vi (i)), none] [] := by
    intro n2
    induction n2 with
    | zero => 
      intro i y2_ hRy2_ hi hn ho hp
      refine i_iload_n G dX5_forgetWays_2 rfl ?_
      refine i_bipush G dX5_forgetWays_3 (by decide) ?_
      refine i_icmp_ge (tgt := 50) G dX5_forgetWays_5 (by decide) (by omega) (by omega) (fun h5 => ?_) (fun h5 => ?_)
      · skip
        refine j_retv G hr dX5_forgetWays_50 ?_
        exact ⟨rfl, hRy2_, ho, fun a b h1 h2 h3 h4 => hp a b h1 (by omega) h3 h4⟩
      · skip
        exfalso; omega
    | succ n2 ih2 => 
      intro i y2_ hRy2_ hi hn ho hp
      refine i_iload_n G dX5_forgetWays_2 rfl ?_
      refine i_bipush G dX5_forgetWays_3 (by decide) ?_
      refine i_icmp_ge (tgt := 50) G dX5_forgetWays_5 (by decide) (by omega) (by omega) (fun h5 => ?_) (fun h5 => ?_)
      · skip
        exfalso; omega
      · skip
        refine i_iconst G dX5_forgetWays_8 ?_
        refine i_istore_n (L' := [some (.ref (ad 10)), some (vi (i)), some (vi (0))]) G dX5_forgetWays_9 (by decide) rfl ?_
        have lp10 : ∀ (n10 : Nat) (j : Int) (y10_ : wZ), Rng y10_ → (0 ≤ j) → (j + n10 = 16) → (∀ k', k' ≠ 65 → y10_ k' = y k') → (∀ a b, 0 ≤ a → 0 ≤ b → b < 16 → (a < i ∨ (a = i ∧ b < j)) → y10_ 65 (a * 16 + b) = if a = b then 0 else 1000000) → JW p l e (rmL 0) s m args below meth c 3 D aC ad A shC (MQ below (cQv D aC ad shC (fun z_ y_ => z_ = z ∧ (fun y' => Rng y' ∧ (∀ k', k' ≠ 65 → y' k' = y k') ∧ ∀ a b, 0 ≤ a → a < 16 → 0 ≤ b → b < 16 → y' 65 (a * 16 + b) = if a = b then 0 else 1000000) y_) A) args s 0 0 A) 0 0 (zc z y10_) 10 [some (.ref (ad 10)), some (vi (i)), some (vi (j))] [] := by
          intro n10
          induction n10 with
          | zero => 
            intro j y10_ hRy10_ hj hm ho' hp'
            refine i_iload_n G dX5_forgetWays_10 rfl ?_
            refine i_bipush G dX5_forgetWays_11 (by decide) ?_
            refine i_icmp_ge (tgt := 44) G dX5_forgetWays_13 (by decide) (by omega) (by omega) (fun h13 => ?_) (fun h13 => ?_)
            · skip
              refine i_iinc (L' := [some (.ref (ad 10)), some (vi (i + 1)), some (vi (j))]) G dX5_forgetWays_44 (by decide) rfl rfl ?_
              refine i_goto (tgt := 2) G dX5_forgetWays_47 (by decide) ?_
              refine i_forget (L' := [some (.ref (ad 10)), some (vi (i + 1)), none]) ⟨rfl, ⟨rfl, trivial⟩⟩ ?_
              exact ih2 (i + 1) y10_ hRy10_ (by omega) (by omega) ho' (fun a b h1 h2 h3 h4 => hp' a b h1 h3 h4 (by omega))
            · skip
              exfalso; omega
          | succ n10 ih10 => 
            intro j y10_ hRy10_ hj hm ho' hp'
            refine i_iload_n G dX5_forgetWays_10 rfl ?_
            refine i_bipush G dX5_forgetWays_11 (by decide) ?_
            refine i_icmp_ge (tgt := 44) G dX5_forgetWays_13 (by decide) (by omega) (by omega) (fun h13 => ?_) (fun h13 => ?_)
            · skip
              exfalso; omega
            · skip
              refine i_aload_n G dX5_forgetWays_16 rfl ?_
              refine i_getr G F_X5_15 10 rfl rfl dX5_forgetWays_17 ?_
              refine i_iload_n G dX5_forgetWays_20 rfl ?_
              refine i_bipush G dX5_forgetWays_21 (by decide) ?_
              refine i_imul G dX5_forgetWays_23 ?_
              refine i_iload_n G dX5_forgetWays_24 rfl ?_
              refine i_iadd G dX5_forgetWays_25 ?_
              refine i_iload_n G dX5_forgetWays_26 rfl ?_
              refine i_iload_n G dX5_forgetWays_27 rfl ?_
              refine i_icmp_ne (tgt := 35) G dX5_forgetWays_28 (by decide) (by omega) (by omega) (fun h28 => ?_) (fun h28 => ?_)
              · skip
                refine i_ldc G 1000000 kc_X5_22 dX5_forgetWays_35 ?_
                refine j_iast_y G 12 rfl (by decide) (by decide) (by omega) (by omega) (by decide) hRy10_ (by show (0 : Int) ≤ _ ∧ _ ≤ (1000000 : Int); omega) dX5_forgetWays_37 (fun y37 ey37 hRy37 => ?_)
                refine i_iinc (L' := [some (.ref (ad 10)), some (vi (i)), some (vi (j + 1))]) G dX5_forgetWays_38 (by decide) rfl rfl ?_
                refine i_goto (tgt := 10) G dX5_forgetWays_41 (by decide) ?_
                exact ih10 (j + 1) y37 hRy37 (by omega) (by omega) (fun k' hk => by rw [ey37, zp_nk _ hk]; exact ho' k' hk) (fun a b h1 h2 h3 h4 => by
                  rw [ey37]
                  unfold zp
                  by_cases hx : a = i ∧ b = j
                  · rw [if_pos ⟨rfl, by omega⟩]; first | rw [if_pos (by omega)] | rw [if_neg (by omega)]
                  · rw [if_neg (by omega)]; exact hp' a b h1 h2 h3 (by omega))
              · skip
                refine i_iconst G dX5_forgetWays_31 ?_
                refine i_goto (tgt := 37) G dX5_forgetWays_32 (by decide) ?_
                refine j_iast_y G 12 rfl (by decide) (by decide) (by omega) (by omega) (by decide) hRy10_ (by show (0 : Int) ≤ _ ∧ _ ≤ (1000000 : Int); omega) dX5_forgetWays_37 (fun y37 ey37 hRy37 => ?_)
                refine i_iinc (L' := [some (.ref (ad 10)), some (vi (i)), some (vi (j + 1))]) G dX5_forgetWays_38 (by decide) rfl rfl ?_
                refine i_goto (tgt := 10) G dX5_forgetWays_41 (by decide) ?_
                exact ih10 (j + 1) y37 hRy37 (by omega) (by omega) (fun k' hk => by rw [ey37, zp_nk _ hk]; exact ho' k' hk) (fun a b h1 h2 h3 h4 => by
                  rw [ey37]
                  unfold zp
                  by_cases hx : a = i ∧ b = j
                  · rw [if_pos ⟨rfl, by omega⟩]; first | rw [if_pos (by omega)] | rw [if_neg (by omega)]
                  · rw [if_neg (by omega)]; exact hp' a b h1 h2 h3 (by omega))
        exact lp10 16 0 y2_ hRy2_ (by omega) (by omega) ho (fun a b h1 h2 h3 h4 => hp a b h1 (by omega) h2 h3)
  exact lp2 16 0 y hY (by omega) (by omega) (fun _ _ => rfl) (fun a b h1 h2 => by omega)
set_option maxHeartbeats 4000000 in
set_option maxRecDepth 100000 in
theorem c_view_0 (l : Launch) {D : va_G} {aC : Nat → ClassId} {ad : Nat → Nat} (hd : wDi ad shC) {z y : wZ} (hR : Rng z) (hY : Rng y)   : cR l D aC ad shC yX2_view cX2_view 2 (.object "WayMarker$View") (rmL 0) [.ref (ad 1), vi 0] z y 10 := by
  refine c_r [some (.ref (ad 1)), some (vi (0))] (by decide +kernel) rfl (Nat.le_of_ble_eq_true rfl) rfl hd ?_
  intro p e s m args below meth c A G hr
  refine i_iload_n G dX2_view_0 rfl ?_
  refine i_if_eq (tgt := 11) G dX2_view_1 (by decide) (by omega) (fun h1 => ?_) (fun h1 => ?_)
  · skip
    refine i_aload_n G dX2_view_11 rfl ?_
    refine i_getr G F_X2_35 1 rfl rfl dX2_view_12 ?_
    exact j_retr G hr dX2_view_15
  · skip
    exfalso; omega
set_option maxHeartbeats 4000000 in
set_option maxRecDepth 100000 in
theorem c_leastMinutes_1 (l : Launch) {D : va_G} {aC : Nat → ClassId} {ad : Nat → Nat} (hd : wDi ad shC) {z y : wZ} (hR : Rng z) (hY : Rng y) (a : Int) (b : Int) (ha : 0 ≤ a ∧ a ≤ 15) (hb : 0 ≤ b ∧ b ≤ 15) : cE l D aC ad shC yX5_leastMinutes cX5_leastMinutes 3 (.int) (rmL 0) [.ref (ad 7), vi a, vi b] z y (y 64 (a * 16 + b)) := by
  refine c_i [some (.ref (ad 7)), some (vi (a)), some (vi (b))] (by decide +kernel) rfl (Nat.le_of_ble_eq_true rfl) rfl hd ?_
  intro p e s m args below meth c A G hr
  refine i_aload_n G dX5_leastMinutes_0 rfl ?_
  refine i_getr G F_X5_15 7 rfl rfl dX5_leastMinutes_1 ?_
  refine i_iload_n G dX5_leastMinutes_4 rfl ?_
  refine i_bipush G dX5_leastMinutes_5 (by decide) ?_
  refine i_imul G dX5_leastMinutes_7 ?_
  refine i_iload_n G dX5_leastMinutes_8 rfl ?_
  refine i_iadd G dX5_leastMinutes_9 ?_
  refine j_iald_y G 9 rfl (by decide) (by decide) (by omega) (by omega) dX5_leastMinutes_10 ?_
  have b10 : 0 ≤ y 64 ((a * 16) + b) ∧ y 64 ((a * 16) + b) ≤ 1000000 := hY 64 _
  refine j_reti G hr dX5_leastMinutes_11 ?_
  exact ⟨rfl, rfl, rfl⟩
set_option maxHeartbeats 4000000 in
set_option maxRecDepth 100000 in
theorem c_forgetWays_1 (l : Launch) {D : va_G} {aC : Nat → ClassId} {ad : Nat → Nat} (hd : wDi ad shC) {z y : wZ} (hR : Rng z) (hY : Rng y)   : cYv l D aC ad shC yX5_forgetWays cX5_forgetWays 3 (rmL 0) [.ref (ad 7)] z y (fun y' => Rng y' ∧ (∀ k', k' ≠ 64 → y' k' = y k') ∧ ∀ a b, 0 ≤ a → a < 16 → 0 ≤ b → b < 16 → y' 64 (a * 16 + b) = if a = b then 0 else 1000000) := by
  refine c_v [some (.ref (ad 7)), none, none] (by decide +kernel) rfl (Nat.le_of_ble_eq_true rfl) rfl hd ?_
  intro p e s m args below meth c A G hr
  refine i_iconst G dX5_forgetWays_0 ?_
  refine i_istore_n (L' := [some (.ref (ad 7)), some (vi (0)), none]) G dX5_forgetWays_1 (by decide) rfl ?_
  refine i_forget (L' := [some (.ref (ad 7)), some (vi (0)), none]) ⟨rfl, ⟨rfl, trivial⟩⟩ ?_
  have lp2 : ∀ (n2 : Nat) (i : Int) (y2_ : wZ), Rng y2_ → (0 ≤ i) → (i + n2 = 16) → (∀ k', k' ≠ 64 → y2_ k' = y k') → (∀ a b, 0 ≤ a → a < i → 0 ≤ b → b < 16 → y2_ 64 (a * 16 + b) = if a = b then 0 else 1000000) → JW p l e (rmL 0) s m args below meth c 3 D aC ad A shC (MQ below (cQv D aC ad shC (fun z_ y_ => z_ = z ∧ (fun y' => Rng y' ∧ (∀ k', k' ≠ 64 → y' k' = y k') ∧ ∀ a b, 0 ≤ a → a < 16 → 0 ≤ b → b < 16 → y' 64 (a * 16 + b) = if a = b then 0 else 1000000) y_) A) args s 0 0 A) 0 0 (zc z y2_) 2 [some (.ref (ad 7)), some (vi (i)), none] [] := by
    intro n2
    induction n2 with
    | zero => 
      intro i y2_ hRy2_ hi hn ho hp
      refine i_iload_n G dX5_forgetWays_2 rfl ?_
      refine i_bipush G dX5_forgetWays_3 (by decide) ?_
      refine i_icmp_ge (tgt := 50) G dX5_forgetWays_5 (by decide) (by omega) (by omega) (fun h5 => ?_) (fun h5 => ?_)
      · skip
        refine j_retv G hr dX5_forgetWays_50 ?_
        exact ⟨rfl, hRy2_, ho, fun a b h1 h2 h3 h4 => hp a b h1 (by omega) h3 h4⟩
      · skip
        exfalso; omega
    | succ n2 ih2 => 
      intro i y2_ hRy2_ hi hn ho hp
      refine i_iload_n G dX5_forgetWays_2 rfl ?_
      refine i_bipush G dX5_forgetWays_3 (by decide) ?_
      refine i_icmp_ge (tgt := 50) G dX5_forgetWays_5 (by decide) (by omega) (by omega) (fun h5 => ?_) (fun h5 => ?_)
      · skip
        exfalso; omega
      · skip
        refine i_iconst G dX5_forgetWays_8 ?_
        refine i_istore_n (L' := [some (.ref (ad 7)), some (vi (i)), some (vi (0))]) G dX5_forgetWays_9 (by decide) rfl ?_
        have lp10 : ∀ (n10 : Nat) (j : Int) (y10_ : wZ), Rng y10_ → (0 ≤ j) → (j + n10 = 16) → (∀ k', k' ≠ 64 → y10_ k' = y k') → (∀ a b, 0 ≤ a → 0 ≤ b → b < 16 → (a < i ∨ (a = i ∧ b < j)) → y10_ 64 (a * 16 + b) = if a = b then 0 else 1000000) → JW p l e (rmL 0) s m args below meth c 3 D aC ad A shC (MQ below (cQv D aC ad shC (fun z_ y_ => z_ = z ∧ (fun y' => Rng y' ∧ (∀ k', k' ≠ 64 → y' k' = y k') ∧ ∀ a b, 0 ≤ a → a < 16 → 0 ≤ b → b < 16 → y' 64 (a * 16 + b) = if a = b then 0 else 1000000) y_) A) args s 0 0 A) 0 0 (zc z y10_) 10 [some (.ref (ad 7)), some (vi (i)), some (vi (j))] [] := by
          intro n10
          induction n10 with
          | zero => 
            intro j y10_ hRy10_ hj hm ho' hp'
            refine i_iload_n G dX5_forgetWays_10 rfl ?_
            refine i_bipush G dX5_forgetWays_11 (by decide) ?_
            refine i_icmp_ge (tgt := 44) G dX5_forgetWays_13 (by decide) (by omega) (by omega) (fun h13 => ?_) (fun h13 => ?_)
            · skip
              refine i_iinc (L' := [some (.ref (ad 7)), some (vi (i + 1)), some (vi (j))]) G dX5_forgetWays_44 (by decide) rfl rfl ?_
              refine i_goto (tgt := 2) G dX5_forgetWays_47 (by decide) ?_
              refine i_forget (L' := [some (.ref (ad 7)), some (vi (i + 1)), none]) ⟨rfl, ⟨rfl, trivial⟩⟩ ?_
              exact ih2 (i + 1) y10_ hRy10_ (by omega) (by omega) ho' (fun a b h1 h2 h3 h4 => hp' a b h1 h3 h4 (by omega))
            · skip
              exfalso; omega
          | succ n10 ih10 => 
            intro j y10_ hRy10_ hj hm ho' hp'
            refine i_iload_n G dX5_forgetWays_10 rfl ?_
            refine i_bipush G dX5_forgetWays_11 (by decide) ?_
            refine i_icmp_ge (tgt := 44) G dX5_forgetWays_13 (by decide) (by omega) (by omega) (fun h13 => ?_) (fun h13 => ?_)
            · skip
              exfalso; omega
            · skip
              refine i_aload_n G dX5_forgetWays_16 rfl ?_
              refine i_getr G F_X5_15 7 rfl rfl dX5_forgetWays_17 ?_
              refine i_iload_n G dX5_forgetWays_20 rfl ?_
              refine i_bipush G dX5_forgetWays_21 (by decide) ?_
              refine i_imul G dX5_forgetWays_23 ?_
              refine i_iload_n G dX5_forgetWays_24 rfl ?_
              refine i_iadd G dX5_forgetWays_25 ?_
              refine i_iload_n G dX5_forgetWays_26 rfl ?_
              refine i_iload_n G dX5_forgetWays_27 rfl ?_
              refine i_icmp_ne (tgt := 35) G dX5_forgetWays_28 (by decide) (by omega) (by omega) (fun h28 => ?_) (fun h28 => ?_)
              · skip
                refine i_ldc G 1000000 kc_X5_22 dX5_forgetWays_35 ?_
                refine j_iast_y G 9 rfl (by decide) (by decide) (by omega) (by omega) (by decide) hRy10_ (by show (0 : Int) ≤ _ ∧ _ ≤ (1000000 : Int); omega) dX5_forgetWays_37 (fun y37 ey37 hRy37 => ?_)
                refine i_iinc (L' := [some (.ref (ad 7)), some (vi (i)), some (vi (j + 1))]) G dX5_forgetWays_38 (by decide) rfl rfl ?_
                refine i_goto (tgt := 10) G dX5_forgetWays_41 (by decide) ?_
                exact ih10 (j + 1) y37 hRy37 (by omega) (by omega) (fun k' hk => by rw [ey37, zp_nk _ hk]; exact ho' k' hk) (fun a b h1 h2 h3 h4 => by
                  rw [ey37]
                  unfold zp
                  by_cases hx : a = i ∧ b = j
                  · rw [if_pos ⟨rfl, by omega⟩]; first | rw [if_pos (by omega)] | rw [if_neg (by omega)]
                  · rw [if_neg (by omega)]; exact hp' a b h1 h2 h3 (by omega))
              · skip
                refine i_iconst G dX5_forgetWays_31 ?_
                refine i_goto (tgt := 37) G dX5_forgetWays_32 (by decide) ?_
                refine j_iast_y G 9 rfl (by decide) (by decide) (by omega) (by omega) (by decide) hRy10_ (by show (0 : Int) ≤ _ ∧ _ ≤ (1000000 : Int); omega) dX5_forgetWays_37 (fun y37 ey37 hRy37 => ?_)
                refine i_iinc (L' := [some (.ref (ad 7)), some (vi (i)), some (vi (j + 1))]) G dX5_forgetWays_38 (by decide) rfl rfl ?_
                refine i_goto (tgt := 10) G dX5_forgetWays_41 (by decide) ?_
                exact ih10 (j + 1) y37 hRy37 (by omega) (by omega) (fun k' hk => by rw [ey37, zp_nk _ hk]; exact ho' k' hk) (fun a b h1 h2 h3 h4 => by
                  rw [ey37]
                  unfold zp
                  by_cases hx : a = i ∧ b = j
                  · rw [if_pos ⟨rfl, by omega⟩]; first | rw [if_pos (by omega)] | rw [if_neg (by omega)]
                  · rw [if_neg (by omega)]; exact hp' a b h1 h2 h3 (by omega))
        exact lp10 16 0 y2_ hRy2_ (by omega) (by omega) ho (fun a b h1 h2 h3 h4 => hp a b h1 (by omega) h2 h3)
  exact lp2 16 0 y hY (by omega) (by omega) (fun _ _ => rfl) (fun a b h1 h2 => by omega)
set_option maxHeartbeats 4000000 in
set_option maxRecDepth 100000 in
theorem c_view_1 (l : Launch) {D : va_G} {aC : Nat → ClassId} {ad : Nat → Nat} (hd : wDi ad shC) {z y : wZ} (hR : Rng z) (hY : Rng y)   : cR l D aC ad shC yX2_view cX2_view 2 (.object "WayMarker$View") (rmL 0) [.ref (ad 1), vi 1] z y 7 := by
  refine c_r [some (.ref (ad 1)), some (vi (1))] (by decide +kernel) rfl (Nat.le_of_ble_eq_true rfl) rfl hd ?_
  intro p e s m args below meth c A G hr
  refine i_iload_n G dX2_view_0 rfl ?_
  refine i_if_eq (tgt := 11) G dX2_view_1 (by decide) (by omega) (fun h1 => ?_) (fun h1 => ?_)
  · skip
    exfalso; omega
  · skip
    refine i_aload_n G dX2_view_4 rfl ?_
    refine i_getr G F_X2_31 1 rfl rfl dX2_view_5 ?_
    refine i_goto (tgt := 15) G dX2_view_8 (by decide) ?_
    exact j_retr G hr dX2_view_15
set_option maxHeartbeats 4000000 in
set_option maxRecDepth 100000 in
theorem c_otherEnd (l : Launch) {D : va_G} {aC : Nat → ClassId} {ad : Nat → Nat} (hd : wDi ad shC) {z y : wZ} (hR : Rng z) (hY : Rng y) (t : Int) (f : Int) (ht : 0 ≤ t ∧ t < 24) (hf : -2147483648 ≤ f ∧ f ≤ 2147483647) : cE l D aC ad shC yX2_otherEnd cX2_otherEnd 3 (.int) (rmL 0) [.ref (ad 1), vi t, vi f] z y (oth z t f) := by
  refine c_i [some (.ref (ad 1)), some (vi (t)), some (vi (f))] (by decide +kernel) rfl (Nat.le_of_ble_eq_true rfl) rfl hd ?_
  intro p e s m args below meth c A G hr
  refine i_aload_n G dX2_otherEnd_0 rfl ?_
  refine i_getr G F_X2_15 1 rfl rfl dX2_otherEnd_1 ?_
  refine i_iload_n G dX2_otherEnd_4 rfl ?_
  refine j_iald_z G 3 rfl (by decide) (by decide) (by omega) (by omega) dX2_otherEnd_5 ?_
  have b5 : 0 ≤ z 11 t ∧ z 11 t ≤ 15 := hR 11 _
  refine i_iload_n G dX2_otherEnd_6 rfl ?_
  refine i_icmp_ne (tgt := 19) G dX2_otherEnd_7 (by decide) (by omega) (by omega) (fun h7 => ?_) (fun h7 => ?_)
  · skip
    refine i_aload_n G dX2_otherEnd_19 rfl ?_
    refine i_getr G F_X2_15 1 rfl rfl dX2_otherEnd_20 ?_
    refine i_iload_n G dX2_otherEnd_23 rfl ?_
    refine j_iald_z G 3 rfl (by decide) (by decide) (by omega) (by omega) dX2_otherEnd_24 ?_
    have b24 : 0 ≤ z 11 t ∧ z 11 t ≤ 15 := hR 11 _
    refine j_reti G hr dX2_otherEnd_25 ?_
    refine ⟨?_, rfl, rfl⟩
    unfold oth
    (repeat' split) <;> first | rfl | omega
  · skip
    refine i_aload_n G dX2_otherEnd_10 rfl ?_
    refine i_getr G F_X2_19 1 rfl rfl dX2_otherEnd_11 ?_
    refine i_iload_n G dX2_otherEnd_14 rfl ?_
    refine j_iald_z G 4 rfl (by decide) (by decide) (by omega) (by omega) dX2_otherEnd_15 ?_
    have b15 : 0 ≤ z 12 t ∧ z 12 t ≤ 15 := hR 12 _
    refine i_goto (tgt := 25) G dX2_otherEnd_16 (by decide) ?_
    refine j_reti G hr dX2_otherEnd_25 ?_
    refine ⟨?_, rfl, rfl⟩
    unfold oth
    (repeat' split) <;> first | rfl | omega
set_option maxHeartbeats 4000000 in
set_option maxRecDepth 100000 in
theorem c_minutesFrom (l : Launch) {D : va_G} {aC : Nat → ClassId} {ad : Nat → Nat} (hd : wDi ad shC) {z y : wZ} (hR : Rng z) (hY : Rng y) (t : Int) (f : Int) (ht : 0 ≤ t ∧ t < 24) (hf : -2147483648 ≤ f ∧ f ≤ 2147483647) : cE l D aC ad shC yX2_minutesFrom cX2_minutesFrom 3 (.int) (rmL 0) [.ref (ad 1), vi t, vi f] z y (ofm z t f) := by
  refine c_i [some (.ref (ad 1)), some (vi (t)), some (vi (f))] (by decide +kernel) rfl (Nat.le_of_ble_eq_true rfl) rfl hd ?_
  intro p e s m args below meth c A G hr
  refine i_aload_n G dX2_minutesFrom_0 rfl ?_
  refine i_getr G F_X2_15 1 rfl rfl dX2_minutesFrom_1 ?_
  refine i_iload_n G dX2_minutesFrom_4 rfl ?_
  refine j_iald_z G 3 rfl (by decide) (by decide) (by omega) (by omega) dX2_minutesFrom_5 ?_
  have b5 : 0 ≤ z 11 t ∧ z 11 t ≤ 15 := hR 11 _
  refine i_iload_n G dX2_minutesFrom_6 rfl ?_
  refine i_icmp_ne (tgt := 19) G dX2_minutesFrom_7 (by decide) (by omega) (by omega) (fun h7 => ?_) (fun h7 => ?_)
  · skip
    refine i_aload_n G dX2_minutesFrom_19 rfl ?_
    refine i_getr G F_X2_25 1 rfl rfl dX2_minutesFrom_20 ?_
    refine i_iload_n G dX2_minutesFrom_23 rfl ?_
    refine j_iald_z G 6 rfl (by decide) (by decide) (by omega) (by omega) dX2_minutesFrom_24 ?_
    have b24 : 0 ≤ z 14 t ∧ z 14 t ≤ 300 := hR 14 _
    refine j_reti G hr dX2_minutesFrom_25 ?_
    refine ⟨?_, rfl, rfl⟩
    unfold ofm
    (repeat' split) <;> first | rfl | omega
  · skip
    refine i_aload_n G dX2_minutesFrom_10 rfl ?_
    refine i_getr G F_X2_22 1 rfl rfl dX2_minutesFrom_11 ?_
    refine i_iload_n G dX2_minutesFrom_14 rfl ?_
    refine j_iald_z G 5 rfl (by decide) (by decide) (by omega) (by omega) dX2_minutesFrom_15 ?_
    have b15 : 0 ≤ z 13 t ∧ z 13 t ≤ 300 := hR 13 _
    refine i_goto (tgt := 25) G dX2_minutesFrom_16 (by decide) ?_
    refine j_reti G hr dX2_minutesFrom_25 ?_
    refine ⟨?_, rfl, rfl⟩
    unfold ofm
    (repeat' split) <;> first | rfl | omega
set_option maxHeartbeats 4000000 in
set_option maxRecDepth 100000 in
theorem c_minutesBy_0 (l : Launch) {D : va_G} {aC : Nat → ClassId} {ad : Nat → Nat} (hd : wDi ad shC) {z y : wZ} (hR : Rng z) (hY : Rng y) (t : Int) (a : Int) (b : Int) (ht : 0 ≤ t ∧ t < 24) (ha : 0 ≤ a ∧ a ≤ 15) (hb : 0 ≤ b ∧ b ≤ 15) : cE l D aC ad shC yX2_minutesBy cX2_minutesBy 5 (.int) (rmL 1) [.ref (ad 1), vi t, vi a, vi b, .ref (ad 10)] z y (ofm z t a + y 65 (oth z t a * 16 + b)) := by
  refine c_i [some (.ref (ad 1)), some (vi (t)), some (vi (a)), some (vi (b)), some (.ref (ad 10))] (by decide +kernel) rfl (Nat.le_of_ble_eq_true rfl) rfl hd ?_
  intro p e s m args below meth c A G hr
  refine i_aload_n G dX2_minutesBy_0 rfl ?_
  refine i_iload_n G dX2_minutesBy_1 rfl ?_
  refine i_iload_n G dX2_minutesBy_2 rfl ?_
  refine j_callE (q0 := 1) (As := [vi (t), vi (a)]) (st := []) G K_X2_64 (c_minutesFrom l hd hR hY t a (by omega) (by omega)) rfl rfl rfl (rm_ok (by decide) (by decide)) ⟨Nat.le_refl _, Nat.le_refl _⟩ (Nat.le_of_ble_eq_true rfl) dX2_minutesBy_3 ?_
  have b3 : 0 ≤ (ofm z t a) ∧ (ofm z t a) ≤ 300 := ofm_in hR _ _
  refine i_aload G dX2_minutesBy_6 rfl ?_
  refine i_aload_n G dX2_minutesBy_8 rfl ?_
  refine i_iload_n G dX2_minutesBy_9 rfl ?_
  refine i_iload_n G dX2_minutesBy_10 rfl ?_
  refine j_callE (q0 := 1) (As := [vi (t), vi (a)]) (st := [.ref (ad 10), vi ((ofm z t a))]) G K_X2_67 (c_otherEnd l hd hR hY t a (by omega) (by omega)) rfl rfl rfl (rm_ok (by decide) (by decide)) ⟨Nat.le_refl _, Nat.le_refl _⟩ (Nat.le_of_ble_eq_true rfl) dX2_minutesBy_11 ?_
  have b11 : 0 ≤ (oth z t a) ∧ (oth z t a) ≤ 15 := oth_in hR _ _
  refine i_iload_n G dX2_minutesBy_14 rfl ?_
  refine j_callE (q0 := 10) (As := [vi ((oth z t a)), vi (b)]) (st := [vi ((ofm z t a))]) G K_X2_55 (c_leastMinutes_0 l hd hR hY (oth z t a) b (by omega) (by omega)) rfl rfl rfl (rm_ok (by decide) (by decide)) ⟨Nat.le_refl _, Nat.le_refl _⟩ (Nat.le_of_ble_eq_true rfl) dX2_minutesBy_15 ?_
  have b15 : 0 ≤ (y 65 ((oth z t a) * 16 + b)) ∧ (y 65 ((oth z t a) * 16 + b)) ≤ 1000000 := hY 65 _
  refine i_iadd G dX2_minutesBy_18 ?_
  refine j_reti G hr dX2_minutesBy_19 ?_
  exact ⟨rfl, rfl, rfl⟩
set_option maxHeartbeats 4000000 in
set_option maxRecDepth 100000 in
theorem c_minutesBy_1 (l : Launch) {D : va_G} {aC : Nat → ClassId} {ad : Nat → Nat} (hd : wDi ad shC) {z y : wZ} (hR : Rng z) (hY : Rng y) (t : Int) (a : Int) (b : Int) (ht : 0 ≤ t ∧ t < 24) (ha : 0 ≤ a ∧ a ≤ 15) (hb : 0 ≤ b ∧ b ≤ 15) : cE l D aC ad shC yX2_minutesBy cX2_minutesBy 5 (.int) (rmL 1) [.ref (ad 1), vi t, vi a, vi b, .ref (ad 7)] z y (ofm z t a + y 64 (oth z t a * 16 + b)) := by
  refine c_i [some (.ref (ad 1)), some (vi (t)), some (vi (a)), some (vi (b)), some (.ref (ad 7))] (by decide +kernel) rfl (Nat.le_of_ble_eq_true rfl) rfl hd ?_
  intro p e s m args below meth c A G hr
  refine i_aload_n G dX2_minutesBy_0 rfl ?_
  refine i_iload_n G dX2_minutesBy_1 rfl ?_
  refine i_iload_n G dX2_minutesBy_2 rfl ?_
  refine j_callE (q0 := 1) (As := [vi (t), vi (a)]) (st := []) G K_X2_64 (c_minutesFrom l hd hR hY t a (by omega) (by omega)) rfl rfl rfl (rm_ok (by decide) (by decide)) ⟨Nat.le_refl _, Nat.le_refl _⟩ (Nat.le_of_ble_eq_true rfl) dX2_minutesBy_3 ?_
  have b3 : 0 ≤ (ofm z t a) ∧ (ofm z t a) ≤ 300 := ofm_in hR _ _
  refine i_aload G dX2_minutesBy_6 rfl ?_
  refine i_aload_n G dX2_minutesBy_8 rfl ?_
  refine i_iload_n G dX2_minutesBy_9 rfl ?_
  refine i_iload_n G dX2_minutesBy_10 rfl ?_
  refine j_callE (q0 := 1) (As := [vi (t), vi (a)]) (st := [.ref (ad 7), vi ((ofm z t a))]) G K_X2_67 (c_otherEnd l hd hR hY t a (by omega) (by omega)) rfl rfl rfl (rm_ok (by decide) (by decide)) ⟨Nat.le_refl _, Nat.le_refl _⟩ (Nat.le_of_ble_eq_true rfl) dX2_minutesBy_11 ?_
  have b11 : 0 ≤ (oth z t a) ∧ (oth z t a) ≤ 15 := oth_in hR _ _
  refine i_iload_n G dX2_minutesBy_14 rfl ?_
  refine j_callE (q0 := 7) (As := [vi ((oth z t a)), vi (b)]) (st := [vi ((ofm z t a))]) G K_X2_55 (c_leastMinutes_1 l hd hR hY (oth z t a) b (by omega) (by omega)) rfl rfl rfl (rm_ok (by decide) (by decide)) ⟨Nat.le_refl _, Nat.le_refl _⟩ (Nat.le_of_ble_eq_true rfl) dX2_minutesBy_15 ?_
  have b15 : 0 ≤ (y 64 ((oth z t a) * 16 + b)) ∧ (y 64 ((oth z t a) * 16 + b)) ≤ 1000000 := hY 64 _
  refine i_iadd G dX2_minutesBy_18 ?_
  refine j_reti G hr dX2_minutesBy_19 ?_
  exact ⟨rfl, rfl, rfl⟩
set_option maxHeartbeats 4000000 in
set_option maxRecDepth 100000 in
theorem c_trailTowards (l : Launch) {D : va_G} {aC : Nat → ClassId} {ad : Nat → Nat} (hd : wDi ad shC) {z y : wZ} (hR : Rng z) (hY : Rng y) (a : Int) (b : Int) (ha : 0 ≤ a ∧ a ≤ 15) (hb : 0 ≤ b ∧ b ≤ 15) : cE l D aC ad shC yX2_trailTowards cX2_trailTowards 6 (.int) (rmL 2) [.ref (ad 1), vi a, vi b] z y (nxtF z (cD y 65) a b) := by
  refine c_i [some (.ref (ad 1)), some (vi (a)), some (vi (b)), none, none, none] (by decide +kernel) rfl (Nat.le_of_ble_eq_true rfl) rfl hd ?_
  intro p e s m args below meth c A G hr
  refine i_aload_n G dX2_trailTowards_0 rfl ?_
  refine i_getr G F_X2_35 1 rfl rfl dX2_trailTowards_1 ?_
  refine i_iload_n G dX2_trailTowards_4 rfl ?_
  refine i_iload_n G dX2_trailTowards_5 rfl ?_
  refine j_callE (q0 := 10) (As := [vi (a), vi (b)]) (st := []) G K_X2_55 (c_leastMinutes_0 l hd hR hY a b (by omega) (by omega)) rfl rfl rfl (rm_ok (by decide) (by decide)) ⟨Nat.le_refl _, Nat.le_refl _⟩ (Nat.le_of_ble_eq_true rfl) dX2_trailTowards_6 ?_
  have b6 : 0 ≤ (y 65 (a * 16 + b)) ∧ (y 65 (a * 16 + b)) ≤ 1000000 := hY 65 _
  refine i_istore_n (L' := [some (.ref (ad 1)), some (vi (a)), some (vi (b)), some (vi ((y 65 (a * 16 + b)))), none, none]) G dX2_trailTowards_9 (by decide) rfl ?_
  refine i_iload_n G dX2_trailTowards_10 rfl ?_
  refine i_iload_n G dX2_trailTowards_11 rfl ?_
  refine i_icmp_eq (tgt := 21) G dX2_trailTowards_12 (by decide) (by omega) (by omega) (fun h12 => ?_) (fun h12 => ?_)
  · skip
    refine i_iconst G dX2_trailTowards_21 ?_
    refine j_reti G hr dX2_trailTowards_22 ?_
    refine ⟨?_, rfl, rfl⟩
    rw [nxtF, if_pos (by simp only [cD]; omega)]
  · skip
    refine i_iload_n G dX2_trailTowards_15 rfl ?_
    refine i_ldc G 1000000 kc_X2_59 dX2_trailTowards_16 ?_
    refine i_icmp_lt (tgt := 23) G dX2_trailTowards_18 (by decide) (by omega) (by omega) (fun h18 => ?_) (fun h18 => ?_)
    · skip
      refine i_iconst G dX2_trailTowards_23 ?_
      refine i_istore (L' := [some (.ref (ad 1)), some (vi (a)), some (vi (b)), some (vi ((y 65 (a * 16 + b)))), some (vi (0)), none]) G dX2_trailTowards_24 (by decide) rfl ?_
      refine i_forget (L' := [some (.ref (ad 1)), some (vi (a)), some (vi (b)), some (vi ((y 65 (a * 16 + b)))), some (vi (0)), none]) ⟨rfl, ⟨rfl, ⟨rfl, ⟨rfl, ⟨rfl, trivial⟩⟩⟩⟩⟩ ?_
      have lp26 : ∀ (n26 : Nat) (t : Int), (0 ≤ t) → (t + n26 = z 1 0) → (nxtL z (cD y 65) a b n26 t = nxtL z (cD y 65) a b (z 1 0).toNat 0) → JW p l e (rmL 2) s m args below meth c 6 D aC ad A shC (MQ below (cQi D aC ad shC (fun r_ z_ y_ => r_ = (nxtF z (cD y 65) a b) ∧ z_ = z ∧ y_ = y) A) args s 0 0 A) 0 0 (zc z y) 26 [some (.ref (ad 1)), some (vi (a)), some (vi (b)), some (vi ((y 65 (a * 16 + b)))), some (vi (t)), none] [] := by
        intro n26
        induction n26 with
        | zero => 
          intro t ht hn hF
          refine i_iload G dX2_trailTowards_26 rfl ?_
          refine i_aload_n G dX2_trailTowards_28 rfl ?_
          refine j_getz G F_X2_45 1 rfl rfl (by decide) dX2_trailTowards_29 ?_
          have b29 : 0 ≤ z 1 0 ∧ z 1 0 ≤ 24 := hR 1 _
          refine i_icmp_ge (tgt := 107) G dX2_trailTowards_32 (by decide) (by omega) (by omega) (fun h32 => ?_) (fun h32 => ?_)
          · skip
            refine i_iconst G dX2_trailTowards_107 ?_
            refine j_reti G hr dX2_trailTowards_108 ?_
            refine ⟨?_, rfl, rfl⟩
            rw [nxtF, if_neg (by simp only [cD]; omega), ← hF]
            rfl
          · skip
            exfalso; omega
        | succ n26 ih26 => 
          intro t ht hn hF
          refine i_iload G dX2_trailTowards_26 rfl ?_
          refine i_aload_n G dX2_trailTowards_28 rfl ?_
          refine j_getz G F_X2_45 1 rfl rfl (by decide) dX2_trailTowards_29 ?_
          have b29 : 0 ≤ z 1 0 ∧ z 1 0 ≤ 24 := hR 1 _
          refine i_icmp_ge (tgt := 107) G dX2_trailTowards_32 (by decide) (by omega) (by omega) (fun h32 => ?_) (fun h32 => ?_)
          · skip
            exfalso; omega
          · skip
            refine i_aload_n G dX2_trailTowards_35 rfl ?_
            refine i_getr G F_X2_15 1 rfl rfl dX2_trailTowards_36 ?_
            refine i_iload G dX2_trailTowards_39 rfl ?_
            refine j_iald_z G 3 rfl (by decide) (by decide) (by omega) (by omega) dX2_trailTowards_41 ?_
            have b41 : 0 ≤ z 11 t ∧ z 11 t ≤ 15 := hR 11 _
            refine i_iload_n G dX2_trailTowards_42 rfl ?_
            refine i_icmp_eq (tgt := 57) G dX2_trailTowards_43 (by decide) (by omega) (by omega) (fun h43 => ?_) (fun h43 => ?_)
            · skip
              refine i_iconst G dX2_trailTowards_57 ?_
              refine i_goto (tgt := 62) G dX2_trailTowards_58 (by decide) ?_
              refine i_istore (L' := [some (.ref (ad 1)), some (vi (a)), some (vi (b)), some (vi ((y 65 (a * 16 + b)))), some (vi (t)), some (vi (1))]) G dX2_trailTowards_62 (by decide) rfl ?_
              refine i_iload G dX2_trailTowards_64 rfl ?_
              refine i_if_eq (tgt := 101) G dX2_trailTowards_66 (by decide) (by omega) (fun h66 => ?_) (fun h66 => ?_)
              · skip
                exfalso; omega
              · skip
                refine i_aload_n G dX2_trailTowards_69 rfl ?_
                refine i_getr G F_X2_35 1 rfl rfl dX2_trailTowards_70 ?_
                refine i_getr G F_X2_52 10 rfl rfl dX2_trailTowards_73 ?_
                refine i_iload G dX2_trailTowards_76 rfl ?_
                refine j_zald_z G 11 rfl (by decide) (by decide) (by omega) (by omega) dX2_trailTowards_78 ?_
                have b78 : 0 ≤ z 16 t ∧ z 16 t ≤ 1 := hR 16 _
                refine i_if_ne (tgt := 101) G dX2_trailTowards_79 (by decide) (by omega) (fun h79 => ?_) (fun h79 => ?_)
                · skip
                  refine i_iinc (L' := [some (.ref (ad 1)), some (vi (a)), some (vi (b)), some (vi ((y 65 (a * 16 + b)))), some (vi (t + 1)), some (vi (1))]) G dX2_trailTowards_101 (by decide) rfl rfl ?_
                  refine i_goto (tgt := 26) G dX2_trailTowards_104 (by decide) ?_
                  refine i_forget (L' := [some (.ref (ad 1)), some (vi (a)), some (vi (b)), some (vi ((y 65 (a * 16 + b)))), some (vi (t + 1)), none]) ⟨rfl, ⟨rfl, ⟨rfl, ⟨rfl, ⟨rfl, trivial⟩⟩⟩⟩⟩ ?_
                  exact ih26 (t + 1) (by omega) (by omega) (by rw [← hF, nxtL, if_neg (by simp only [cD]; omega)])
                · skip
                  refine i_aload_n G dX2_trailTowards_82 rfl ?_
                  refine i_iload G dX2_trailTowards_83 rfl ?_
                  refine i_iload_n G dX2_trailTowards_85 rfl ?_
                  refine i_iload_n G dX2_trailTowards_86 rfl ?_
                  refine i_aload_n G dX2_trailTowards_87 rfl ?_
                  refine i_getr G F_X2_35 1 rfl rfl dX2_trailTowards_88 ?_
                  refine j_callE (q0 := 1) (As := [vi (t), vi (a), vi (b), .ref (ad 10)]) (st := []) G K_X2_60 (c_minutesBy_0 l hd hR hY t a b (by omega) (by omega) (by omega)) rfl rfl rfl (rm_ok (by decide) (by decide)) ⟨Nat.le_refl _, Nat.le_refl _⟩ (Nat.le_of_ble_eq_true rfl) dX2_trailTowards_91 ?_
                  have b91 : 0 ≤ (ofm z t a + y 65 (oth z t a * 16 + b)) ∧ (ofm z t a + y 65 (oth z t a * 16 + b)) ≤ 1000300 := sum_in (ofm_in hR _ _) (hY 65 _)
                  refine i_iload_n G dX2_trailTowards_94 rfl ?_
                  refine i_icmp_ne (tgt := 101) G dX2_trailTowards_95 (by decide) (by omega) (by omega) (fun h95 => ?_) (fun h95 => ?_)
                  · skip
                    refine i_iinc (L' := [some (.ref (ad 1)), some (vi (a)), some (vi (b)), some (vi ((y 65 (a * 16 + b)))), some (vi (t + 1)), some (vi (1))]) G dX2_trailTowards_101 (by decide) rfl rfl ?_
                    refine i_goto (tgt := 26) G dX2_trailTowards_104 (by decide) ?_
                    refine i_forget (L' := [some (.ref (ad 1)), some (vi (a)), some (vi (b)), some (vi ((y 65 (a * 16 + b)))), some (vi (t + 1)), none]) ⟨rfl, ⟨rfl, ⟨rfl, ⟨rfl, ⟨rfl, trivial⟩⟩⟩⟩⟩ ?_
                    exact ih26 (t + 1) (by omega) (by omega) (by rw [← hF, nxtL, if_neg (by simp only [cD]; omega)])
                  · skip
                    refine i_iload G dX2_trailTowards_98 rfl ?_
                    refine j_reti G hr dX2_trailTowards_100 ?_
                    refine ⟨?_, rfl, rfl⟩
                    rw [nxtF, if_neg (by simp only [cD]; omega), ← hF, nxtL, if_pos (by simp only [cD]; omega)]
            · skip
              refine i_aload_n G dX2_trailTowards_46 rfl ?_
              refine i_getr G F_X2_19 1 rfl rfl dX2_trailTowards_47 ?_
              refine i_iload G dX2_trailTowards_50 rfl ?_
              refine j_iald_z G 4 rfl (by decide) (by decide) (by omega) (by omega) dX2_trailTowards_52 ?_
              have b52 : 0 ≤ z 12 t ∧ z 12 t ≤ 15 := hR 12 _
              refine i_iload_n G dX2_trailTowards_53 rfl ?_
              refine i_icmp_ne (tgt := 61) G dX2_trailTowards_54 (by decide) (by omega) (by omega) (fun h54 => ?_) (fun h54 => ?_)
              · skip
                refine i_iconst G dX2_trailTowards_61 ?_
                refine i_istore (L' := [some (.ref (ad 1)), some (vi (a)), some (vi (b)), some (vi ((y 65 (a * 16 + b)))), some (vi (t)), some (vi (0))]) G dX2_trailTowards_62 (by decide) rfl ?_
                refine i_iload G dX2_trailTowards_64 rfl ?_
                refine i_if_eq (tgt := 101) G dX2_trailTowards_66 (by decide) (by omega) (fun h66 => ?_) (fun h66 => ?_)
                · skip
                  refine i_iinc (L' := [some (.ref (ad 1)), some (vi (a)), some (vi (b)), some (vi ((y 65 (a * 16 + b)))), some (vi (t + 1)), some (vi (0))]) G dX2_trailTowards_101 (by decide) rfl rfl ?_
                  refine i_goto (tgt := 26) G dX2_trailTowards_104 (by decide) ?_
                  refine i_forget (L' := [some (.ref (ad 1)), some (vi (a)), some (vi (b)), some (vi ((y 65 (a * 16 + b)))), some (vi (t + 1)), none]) ⟨rfl, ⟨rfl, ⟨rfl, ⟨rfl, ⟨rfl, trivial⟩⟩⟩⟩⟩ ?_
                  exact ih26 (t + 1) (by omega) (by omega) (by rw [← hF, nxtL, if_neg (by simp only [cD]; omega)])
                · skip
                  exfalso; omega
              · skip
                refine i_iconst G dX2_trailTowards_57 ?_
                refine i_goto (tgt := 62) G dX2_trailTowards_58 (by decide) ?_
                refine i_istore (L' := [some (.ref (ad 1)), some (vi (a)), some (vi (b)), some (vi ((y 65 (a * 16 + b)))), some (vi (t)), some (vi (1))]) G dX2_trailTowards_62 (by decide) rfl ?_
                refine i_iload G dX2_trailTowards_64 rfl ?_
                refine i_if_eq (tgt := 101) G dX2_trailTowards_66 (by decide) (by omega) (fun h66 => ?_) (fun h66 => ?_)
                · skip
                  exfalso; omega
                · skip
                  refine i_aload_n G dX2_trailTowards_69 rfl ?_
                  refine i_getr G F_X2_35 1 rfl rfl dX2_trailTowards_70 ?_
                  refine i_getr G F_X2_52 10 rfl rfl dX2_trailTowards_73 ?_
                  refine i_iload G dX2_trailTowards_76 rfl ?_
                  refine j_zald_z G 11 rfl (by decide) (by decide) (by omega) (by omega) dX2_trailTowards_78 ?_
                  have b78 : 0 ≤ z 16 t ∧ z 16 t ≤ 1 := hR 16 _
                  refine i_if_ne (tgt := 101) G dX2_trailTowards_79 (by decide) (by omega) (fun h79 => ?_) (fun h79 => ?_)
                  · skip
                    refine i_iinc (L' := [some (.ref (ad 1)), some (vi (a)), some (vi (b)), some (vi ((y 65 (a * 16 + b)))), some (vi (t + 1)), some (vi (1))]) G dX2_trailTowards_101 (by decide) rfl rfl ?_
                    refine i_goto (tgt := 26) G dX2_trailTowards_104 (by decide) ?_
                    refine i_forget (L' := [some (.ref (ad 1)), some (vi (a)), some (vi (b)), some (vi ((y 65 (a * 16 + b)))), some (vi (t + 1)), none]) ⟨rfl, ⟨rfl, ⟨rfl, ⟨rfl, ⟨rfl, trivial⟩⟩⟩⟩⟩ ?_
                    exact ih26 (t + 1) (by omega) (by omega) (by rw [← hF, nxtL, if_neg (by simp only [cD]; omega)])
                  · skip
                    refine i_aload_n G dX2_trailTowards_82 rfl ?_
                    refine i_iload G dX2_trailTowards_83 rfl ?_
                    refine i_iload_n G dX2_trailTowards_85 rfl ?_
                    refine i_iload_n G dX2_trailTowards_86 rfl ?_
                    refine i_aload_n G dX2_trailTowards_87 rfl ?_
                    refine i_getr G F_X2_35 1 rfl rfl dX2_trailTowards_88 ?_
                    refine j_callE (q0 := 1) (As := [vi (t), vi (a), vi (b), .ref (ad 10)]) (st := []) G K_X2_60 (c_minutesBy_0 l hd hR hY t a b (by omega) (by omega) (by omega)) rfl rfl rfl (rm_ok (by decide) (by decide)) ⟨Nat.le_refl _, Nat.le_refl _⟩ (Nat.le_of_ble_eq_true rfl) dX2_trailTowards_91 ?_
                    have b91 : 0 ≤ (ofm z t a + y 65 (oth z t a * 16 + b)) ∧ (ofm z t a + y 65 (oth z t a * 16 + b)) ≤ 1000300 := sum_in (ofm_in hR _ _) (hY 65 _)
                    refine i_iload_n G dX2_trailTowards_94 rfl ?_
                    refine i_icmp_ne (tgt := 101) G dX2_trailTowards_95 (by decide) (by omega) (by omega) (fun h95 => ?_) (fun h95 => ?_)
                    · skip
                      refine i_iinc (L' := [some (.ref (ad 1)), some (vi (a)), some (vi (b)), some (vi ((y 65 (a * 16 + b)))), some (vi (t + 1)), some (vi (1))]) G dX2_trailTowards_101 (by decide) rfl rfl ?_
                      refine i_goto (tgt := 26) G dX2_trailTowards_104 (by decide) ?_
                      refine i_forget (L' := [some (.ref (ad 1)), some (vi (a)), some (vi (b)), some (vi ((y 65 (a * 16 + b)))), some (vi (t + 1)), none]) ⟨rfl, ⟨rfl, ⟨rfl, ⟨rfl, ⟨rfl, trivial⟩⟩⟩⟩⟩ ?_
                      exact ih26 (t + 1) (by omega) (by omega) (by rw [← hF, nxtL, if_neg (by simp only [cD]; omega)])
                    · skip
                      refine i_iload G dX2_trailTowards_98 rfl ?_
                      refine j_reti G hr dX2_trailTowards_100 ?_
                      refine ⟨?_, rfl, rfl⟩
                      rw [nxtF, if_neg (by simp only [cD]; omega), ← hF, nxtL, if_pos (by simp only [cD]; omega)]
      have b26 : 0 ≤ z 1 0 ∧ z 1 0 ≤ 24 := hR 1 0
      exact lp26 (z 1 0).toNat 0 (by omega) (by omega) rfl
    · skip
      refine i_iconst G dX2_trailTowards_21 ?_
      refine j_reti G hr dX2_trailTowards_22 ?_
      refine ⟨?_, rfl, rfl⟩
      rw [nxtF, if_pos (by simp only [cD]; omega)]
