section OPENW
variable {p : Program} {l : Launch} {e : Env} {R : Room} {s : State} {m : MethodId} {args : Array Value} {below : List Frame} {meth : Method} {c : Code} {cc : ByteArray} {own : String} {nL : Nat} {D : va_G} {aC : Nat → ClassId} {ad : Nat → Nat} {A : Nat → Prop} {sh : wSh} {Q : State → Prop} {cells slots : Nat} {z y : wZ} {pc : Nat} {L : List (Option Value)} {st : List Value} {mc ms : Nat}
/-- a call that checks, and changes nothing -/
theorem x_callq {Qc : Array Value → State → Outcome → State → Prop} {thr thr1 : String → Prop} {P : Prop} (G : wG p s m args meth c cc own nL D aC ad A sh) (hT : wTh A s s.heap) {y0 : MethodName} {b : ByteArray} {n m1 s1 : Nat} {rm : Room} {idx nb ci N q0 : Nat} {C : String} {T : u_T} {fs : List wF} {As : List Value} {st0 : List Value} (K : wCV own idx C y0 b n none As.length) (hM : xMv l D aC ad sh y0 b n rm (.ref (ad nb) :: As) z y (fun z' y' => (z' = z ∧ y' = y) ∧ P) thr1 m1 s1) (hst : st0 = As.reverse ++ .ref (ad nb) :: st) (he : sh[q0]? = some (nb, .inl (ci, fs))) (hc : vwCl[ci]? = some (C, T, N)) (hr : xRm rm R n m1 s1) (hcs : cells + m1 ≤ R.cells ∧ slots + s1 ≤ R.slots) (hcm : cells + m1 ≤ mc ∧ slots + s1 ≤ ms) (hcat : (st.map fun v => v.category).sum ≤ 8) (hdg : decode cc pc = .ok (.invokevirtual idx, 3)) (hthr : ∀ E, thr1 E → thr E)
    (kk : P → JW p l e R s m args below meth c nL D aC ad A sh (vx_MQ below Qc (xX D aC ad sh (zc z y) thr A) args s mc ms A) (cells + m1) (slots + s1) (zc z y) (pc + 3) L st) : JW p l e R s m args below meth c nL D aC ad A sh (vx_MQ below Qc (xX D aC ad sh (zc z y) thr A) args s mc ms A) cells slots (zc z y) pc L st0 :=
  x_callv G hT K hM hst he hc hr hcs hcm hcat hdg hthr (fun z' y' q => by rw [q.1.1, q.1.2]; exact kk q.2)
end OPENW
section OPENF
/-! what each call answers: 0, or the place of its exception -/
def kcAF (z : wZ) : Int := if z 0 0 < 16 then 0 else 1
def afF (z : wZ) (v : Int) : wZ := zp (zp z 10 (z 0 0) v) 0 0 (z 0 0 + 1)
def kcAT (z : wZ) (a b t g : Int) : Int := if (0 ≤ a ∧ a < z 0 0) ∧ (0 ≤ b ∧ b < z 0 0) then (if a = b ∨ ¬ (1 ≤ t ∧ t ≤ 300) ∨ ¬ (1 ≤ g ∧ g ≤ 300) then 2 else if z 1 0 < 24 then 0 else 3) else 1
def kcT (z : wZ) (t : Int) : Int := if 0 ≤ t ∧ t < z 1 0 then 0 else 1
noncomputable def kcMn (z : wZ) (g : Nat) (a b : Int) : Int := if (0 ≤ a ∧ a < z 0 0) ∧ (0 ≤ b ∧ b < z 0 0) then (if ds z g a b < 1000000 then 0 else 2) else 1
noncomputable def kcFT (z : wZ) (a b : Int) : Int := if (0 ≤ a ∧ a < z 0 0) ∧ (0 ≤ b ∧ b < z 0 0) then (if nxt z a b = -1 then 2 else 0) else 1
def kcAW (v : Int) : Int := if 1 ≤ v ∧ v ≤ 99 then 0 else 1
noncomputable def kcCu (z : wZ) (f q : Int) : Int := if (0 ≤ f ∧ f < z 0 0) ∧ (0 ≤ q ∧ q < z 0 0) then (if z 10 q = 0 ∨ f = q then 2 else if ds z 16 f q ≤ 300 then (if 1 ≤ z 6 0 then (if z 2 0 < 30 then 0 else 5) else 4) else 3) else 1
def kcB (z : wZ) (b : Int) : Int := if 0 ≤ b ∧ b < z 2 0 then 0 else 1
def kcRp (z : wZ) (w t : Int) : Int := if 0 ≤ w ∧ w < 10 then (if 0 ≤ t ∧ t < z 1 0 then 0 else 2) else 1
def ntF' (z : wZ) (w t g : Int) : wZ := zp z 32 (t * 10 + w) (if g = 0 then 1 else 2)
def rpF (z : wZ) (w t g : Int) : wZ := zp (ntF' z w t g) 16 t (blvF (ntF' z w t g) t (z 16 t))
def kcW (w : Int) : Int := if 0 ≤ w ∧ w < 10 then 0 else 1
def kcAK (z : wZ) (k n d : Int) : Int := if (k = 109 ∨ k = 114) ∧ (0 ≤ d ∧ d ≤ 999) then (if k = 109 then (if 0 ≤ n ∧ n < z 1 0 then (if z 3 0 < 40 then 0 else 3) else 2) else (if 0 ≤ n ∧ n < z 2 0 then (if z 3 0 < 40 then 0 else 3) else 2)) else 1
def kcK (z : wZ) (t : Int) : Int := if 0 ≤ t ∧ t < z 3 0 then 0 else 1
def kcDB (z : wZ) (t : Int) : Int := if 0 ≤ t ∧ t < z 3 0 then (if z 26 t = -1 then 2 else 0) else 1
def kcAR (z : wZ) (f a : Int) : Int := if 0 ≤ f ∧ f < z 0 0 then (if 0 ≤ a ∧ a ≤ 3 then (if z 4 0 < 4 then 0 else 3) else 2) else 1
def kcR (z : wZ) (r : Int) : Int := if 0 ≤ r ∧ r < z 4 0 then 0 else 1
def kcDy (z : wZ) : Int := if z 7 0 < 50 then 0 else 1
def kcPr (z : wZ) : Int := if z 5 0 < 10 then 0 else 1
def kcSh (z : wZ) (m t : Int) : Int := if (0 ≤ m ∧ m < z 5 0) ∧ (0 ≤ t ∧ t < z 1 0) then 0 else 1
def kcM (z : wZ) (m : Int) : Int := if 0 ≤ m ∧ m < z 5 0 then 0 else 1
def kcKS (z : wZ) : Int := if 1 ≤ z 1 0 then 0 else 1
def kcMD (z : wZ) : Int := if 1 ≤ z 2 0 then 0 else 1
theorem WF_af {z : wZ} (h : WF z) (v : Int) : WF (afF z v) := by
  have e : ∀ k, k ≠ 10 → k ≠ 0 → afF z v k = z k := fun k a b => by unfold afF; rw [zp_nk _ b, zp_nk _ a]
  have e0 : afF z v 0 0 = z 0 0 + 1 := by unfold afF; rw [zp_same]
  refine ⟨fun t h0 h1 => ?_, fun b h0 h1 => ?_, WK_congr h.2.2.1 (fun k hk => e k (by omega) (by omega)), fun r h0 h1 => ?_⟩
  · rw [e 1 (by decide) (by decide)] at h1
    have := h.1 t h0 h1
    rw [e 11 (by decide) (by decide), e 12 (by decide) (by decide), e 13 (by decide) (by decide), e 14 (by decide) (by decide), e0]
    omega
  · rw [e 2 (by decide) (by decide)] at h1
    have := h.2.1 b h0 h1
    rw [e 1 (by decide) (by decide), e 11 (by decide) (by decide), e 12 (by decide) (by decide), e 17 (by decide) (by decide), e 18 (by decide) (by decide), e 19 (by decide) (by decide), e0]
    refine ⟨by omega, by omega, this.2.2⟩
  · rw [e 4 (by decide) (by decide)] at h1
    have := h.2.2.2 r h0 h1
    rw [e 27 (by decide) (by decide), e0]; omega
theorem WF_jn {z : wZ} (h : WF z) (hR : Rng z) {a b f r : Int} (ha : 0 ≤ a ∧ a < z 0 0) (hb : 0 ≤ b ∧ b < z 0 0) (hne : a ≠ b) (hf : 1 ≤ f ∧ f ≤ 300) (hr : 1 ≤ r ∧ r ≤ 300) : WF (jnF z a b f r) := by
  have e : ∀ k, k ≠ 1 → k ≠ 11 → k ≠ 12 → k ≠ 13 → k ≠ 14 → jnF z a b f r k = z k := fun k h1 h2 h3 h4 h5 => by unfold jnF; rw [zp_nk _ h5, zp_nk _ h4, zp_nk _ h3, zp_nk _ h2, zp_nk _ h1]
  have e1 : jnF z a b f r 1 0 = z 1 0 + 1 := by unfold jnF; rw [zp_nk _ (by decide), zp_nk _ (by decide), zp_nk _ (by decide), zp_nk _ (by decide), zp_same]
  have n11 : ∀ t, t ≠ z 1 0 → jnF z a b f r 11 t = z 11 t := fun t ht => by unfold jnF; rw [zp_nk _ (by decide), zp_nk _ (by decide), zp_nk _ (by decide), zp_ne _ (by omega), zp_nk _ (by decide)]
  have n12 : ∀ t, t ≠ z 1 0 → jnF z a b f r 12 t = z 12 t := fun t ht => by unfold jnF; rw [zp_nk _ (by decide), zp_nk _ (by decide), zp_ne _ (by omega), zp_nk _ (by decide), zp_nk _ (by decide)]
  have n13 : ∀ t, t ≠ z 1 0 → jnF z a b f r 13 t = z 13 t := fun t ht => by unfold jnF; rw [zp_nk _ (by decide), zp_ne _ (by omega), zp_nk _ (by decide), zp_nk _ (by decide), zp_nk _ (by decide)]
  have n14 : ∀ t, t ≠ z 1 0 → jnF z a b f r 14 t = z 14 t := fun t ht => by unfold jnF; rw [zp_ne _ (by omega), zp_nk _ (by decide), zp_nk _ (by decide), zp_nk _ (by decide), zp_nk _ (by decide)]
  have s11 : jnF z a b f r 11 (z 1 0) = a := by unfold jnF; rw [zp_nk _ (by decide), zp_nk _ (by decide), zp_nk _ (by decide), zp_same]
  have s12 : jnF z a b f r 12 (z 1 0) = b := by unfold jnF; rw [zp_nk _ (by decide), zp_nk _ (by decide), zp_same]
  have s13 : jnF z a b f r 13 (z 1 0) = f := by unfold jnF; rw [zp_nk _ (by decide), zp_same]
  have s14 : jnF z a b f r 14 (z 1 0) = r := by unfold jnF; rw [zp_same]
  have e0 : jnF z a b f r 0 = z 0 := e 0 (by decide) (by decide) (by decide) (by decide) (by decide)
  refine ⟨fun t h0 h1 => ?_, fun c h0 h1 => ?_, fun t h0 h1 => ?_, fun q h0 h1 => ?_⟩
  · rw [e1] at h1
    by_cases c : t = z 1 0
    · subst c
      rw [s11, s12, s13, s14, e0]; omega
    · have := h.1 t h0 (by omega)
      rw [n11 t c, n12 t c, n13 t c, n14 t c, e0]; exact this
  · rw [e 2 (by decide) (by decide) (by decide) (by decide) (by decide)] at h1
    have hb := h.2.1 c h0 h1
    rw [e0, e1, e 17 (by decide) (by decide) (by decide) (by decide) (by decide), e 18 (by decide) (by decide) (by decide) (by decide) (by decide), e 19 (by decide) (by decide) (by decide) (by decide) (by decide), n11 _ (by omega), n12 _ (by omega)]
    exact ⟨hb.1, hb.2.1, hb.2.2.1, by omega, hb.2.2.2.2⟩
  · rw [e 3 (by decide) (by decide) (by decide) (by decide) (by decide)] at h1
    have hk := h.2.2.1 t h0 h1
    rw [e1, e 2 (by decide) (by decide) (by decide) (by decide) (by decide), e 4 (by decide) (by decide) (by decide) (by decide) (by decide), e 23 (by decide) (by decide) (by decide) (by decide) (by decide), e 24 (by decide) (by decide) (by decide) (by decide) (by decide), e 26 (by decide) (by decide) (by decide) (by decide) (by decide)]
    exact ⟨hk.1, fun h9 => by have := hk.2.1 h9; omega, hk.2.2.1, hk.2.2.2⟩
  · rw [e 4 (by decide) (by decide) (by decide) (by decide) (by decide)] at h1
    rw [e0, e 27 (by decide) (by decide) (by decide) (by decide) (by decide)]
    exact h.2.2.2 q h0 h1
theorem WF_enl {z : wZ} (h : WF z) {f tl : Int} (hf : f < z 0 0) : WF (enlF z f tl) := by
  have e : ∀ k, k ≠ 4 → k ≠ 27 → k ≠ 28 → enlF z f tl k = z k := fun k h1 h2 h3 => by unfold enlF; simp [zp_nk, h1, h2, h3]
  have e4 : enlF z f tl 4 0 = z 4 0 + 1 := by unfold enlF; simp [zp]
  refine ⟨WT_cg h.1 (fun k hk => e k (by omega) (by omega) (by omega)), WB_congr h.2.1 (fun k hk => e k (by omega) (by omega) (by omega)), fun t h0 h1 => ?_, fun q h0 h1 => ?_⟩
  · rw [e 3 (by decide) (by decide) (by decide)] at h1
    have hk := h.2.2.1 t h0 h1
    rw [e4, e 1 (by decide) (by decide) (by decide), e 2 (by decide) (by decide) (by decide), e 23 (by decide) (by decide) (by decide), e 24 (by decide) (by decide) (by decide), e 26 (by decide) (by decide) (by decide)]
    exact ⟨hk.1, hk.2.1, hk.2.2.1, by omega⟩
  · rw [e4] at h1
    rw [e 0 (by decide) (by decide) (by decide)]
    by_cases c : q = z 4 0
    · subst c
      have : enlF z f tl 27 (z 4 0) = f := by unfold enlF; simp [zp]
      rw [this]; exact hf
    · have : enlF z f tl 27 q = z 27 q := by unfold enlF; simp [zp, c]
      rw [this]; exact h.2.2.2 q h0 (by omega)
theorem drwF_k (z : wZ) (td : Int) {k : Nat} (h : k ≠ 5 ∧ k ≠ 30 ∧ k ≠ 31) : drwF z td k = z k := by
  unfold drwF
  rw [drwL_1 _ _ _ _ _ h.2.1, zp_nk _ h.2.2, zp_nk _ h.1]
theorem enlF_k (z : wZ) (f tl : Int) {k : Nat} (h : k ≠ 4 ∧ k ≠ 27 ∧ k ≠ 28) : enlF z f tl k = z k := by
  unfold enlF
  rw [zp_nk _ h.2.2, zp_nk _ h.2.1, zp_nk _ h.1]
def cwF (z : wZ) (f q : Int) : wZ := zp (zp (zp z 2 0 (z 2 0 + 1)) 17 (z 2 0) f) 18 (z 2 0) q
noncomputable def cuF (z : wZ) (f q : Int) : wZ := puF (cwF z f q) (z 2 0)
theorem cwF_k (z : wZ) (f q : Int) {k : Nat} (h : k ≠ 2 ∧ k ≠ 17 ∧ k ≠ 18) : cwF z f q k = z k := by
  unfold cwF
  rw [zp_nk _ h.2.2, zp_nk _ h.2.1, zp_nk _ h.1]
theorem cwF_2 (z : wZ) (f q : Int) : cwF z f q 2 0 = z 2 0 + 1 := by unfold cwF; rw [zp_nk _ (by decide), zp_nk _ (by decide), zp_same]
theorem cwF_17 (z : wZ) (f q : Int) : cwF z f q 17 (z 2 0) = f := by unfold cwF; rw [zp_nk _ (by decide), zp_same]
theorem cwF_18 (z : wZ) (f q : Int) : cwF z f q 18 (z 2 0) = q := by unfold cwF; rw [zp_same]
theorem cwF_n17 (z : wZ) (f q : Int) {c : Int} (h : c ≠ z 2 0) : cwF z f q 17 c = z 17 c := by unfold cwF; rw [zp_nk _ (by decide), zp_ne _ (by omega), zp_nk _ (by decide)]
theorem cwF_n18 (z : wZ) (f q : Int) {c : Int} (h : c ≠ z 2 0) : cwF z f q 18 c = z 18 c := by unfold cwF; rw [zp_ne _ (by omega), zp_nk _ (by decide), zp_nk _ (by decide)]
theorem cwF_ds (z : wZ) (f q : Int) (g : Nat) (hg : g = 15 ∨ g = 16) : ds (cwF z f q) g = ds z g :=
  ds_congr (cwF_k z f q (by decide)) (cwF_k z f q (by decide)) (cwF_k z f q (by decide)) (cwF_k z f q (by decide)) (cwF_k z f q (by decide)) (cwF_k z f q (by omega))
theorem cwF_WT {z : wZ} (h : WT z) (f q : Int) : WT (cwF z f q) := WT_cg h (fun k hk => cwF_k z f q (by omega))
theorem cwF_CI {z y : wZ} {g k : Nat} (h : CIv z y g k) (hg : g = 15 ∨ g = 16) (f q : Int) : CIv (cwF z f q) y g k := CIv_congr h (fun i hi => cwF_k z f q (by omega))
theorem cuF_k (z : wZ) (f q : Int) {k : Nat} (h : k ≠ 2 ∧ k ≠ 17 ∧ k ≠ 18 ∧ k ≠ 19 ∧ k ≠ 20 ∧ k ≠ 21 ∧ k ≠ 6) : cuF z f q k = z k := by
  unfold cuF
  rw [puF_k _ _ (by omega) (by omega) (by omega) (by omega), cwF_k z f q (by omega)]
theorem WF_cu {z : wZ} (h : WF z) {f q : Int} (hR : Rng (cwF z f q)) (hf : 0 ≤ f ∧ f < z 0 0) (hq : 0 ≤ q ∧ q < z 0 0) (hne : f ≠ q) (hd : ds z 16 f q ≤ 300) : WF (cuF z f q) := by
  have e : ∀ k, k ≠ 2 ∧ k ≠ 17 ∧ k ≠ 18 ∧ k ≠ 19 ∧ k ≠ 20 ∧ k ≠ 21 ∧ k ≠ 6 → cuF z f q k = z k := fun k a => cuF_k z f q a
  have e0 : cuF z f q 0 = z 0 := e 0 (by decide)
  have e1 : cuF z f q 1 = z 1 := e 1 (by decide)
  have e11 : cuF z f q 11 = z 11 := e 11 (by decide)
  have e12 : cuF z f q 12 = z 12 := e 12 (by decide)
  have e2 : cuF z f q 2 0 = z 2 0 + 1 := by unfold cuF; rw [puF_k _ _ (by decide) (by decide) (by decide) (by decide), cwF_2]
  have e17 : cuF z f q 17 = cwF z f q 17 := by unfold cuF; rw [puF_k _ _ (by decide) (by decide) (by decide) (by decide)]
  have e18 : cuF z f q 18 = cwF z f q 18 := by unfold cuF; rw [puF_k _ _ (by decide) (by decide) (by decide) (by decide)]
  have p := nxt_P hR (nxt_ex (cwF_WT h.1 f q) hR hne (by rw [cwF_ds z f q 16 (by decide)]; omega))
  have s19 : cuF z f q 19 (z 2 0) = nxt (cwF z f q) f q := by
    unfold cuF puF
    rw [zp_nk _ (by decide), zp_nk _ (by decide), zp_nk _ (by decide), zp_same, cwF_17, cwF_18]
  have n19 : ∀ c, c ≠ z 2 0 → cuF z f q 19 c = z 19 c := fun c hc => by
    unfold cuF puF
    rw [zp_nk _ (by decide), zp_nk _ (by decide), zp_nk _ (by decide), zp_ne _ (by omega), cwF_k z f q (by decide)]
  refine ⟨WT_cg h.1 (fun k hk => e k (by omega)), fun c h0 h1 => ?_, fun t h0 h1 => ?_, WRg_congr h.2.2.2 (fun k hk => e k (by omega))⟩
  · rw [e2] at h1
    rw [e0, e1, e11, e12, e17, e18]
    by_cases cc : c = z 2 0
    · subst cc
      rw [s19, cwF_17, cwF_18]
      have p5 := p.2.2.2.2.1
      rw [cwF_k z f q (by decide), cwF_k z f q (by decide)] at p5
      have p2 := p.2.1
      rw [cwF_k z f q (by decide)] at p2
      exact ⟨hf.2, hq.2, hne, p2, p5⟩
    · rw [n19 c cc, cwF_n17 z f q cc, cwF_n18 z f q cc]
      exact h.2.1 c h0 (by omega)
  · rw [e 3 (by decide)] at h1
    have hk := h.2.2.1 t h0 h1
    rw [e2, e1, e 4 (by decide), e 23 (by decide), e 24 (by decide), e 26 (by decide)]
    exact ⟨hk.1, hk.2.1, fun h9 => by have := hk.2.2.1 h9; omega, hk.2.2.2⟩
theorem WF_drw {z : wZ} (h : WF z) (td : Int) : WF (drwF z td) :=
  ⟨WT_cg h.1 (fun k hk => drwF_k z td (by omega)), WB_congr h.2.1 (fun k hk => drwF_k z td (by omega)), WK_congr h.2.2.1 (fun k hk => drwF_k z td (by omega)), WRg_congr h.2.2.2 (fun k hk => drwF_k z td (by omega))⟩
end OPENF
set_option maxHeartbeats 4000000 in
set_option maxRecDepth 100000 in
theorem c_requireFork (l : Launch) (hst : l.stackTraces = false) {D : va_G} {aC : Nat → ClassId} {ad : Nat → Nat} (hd : wDi ad shC) {z y : wZ} (hR : Rng z) (hY : Rng y) (a : Int) (ha : -2147483648 ≤ a ∧ a ≤ 2147483647) : xMv l D aC ad shC yX7_requireFork cX7_requireFork 2 (rmX 6 1 6) [.ref (ad 0), vi a] z y (fun z' y' => (z' = z ∧ y' = y) ∧ (0 ≤ a ∧ a < z 0 0)) (fun E => E = eIOB ∧ ¬ (0 ≤ a ∧ a < z 0 0)) 1 6 := by
  refine x_v [some (.ref (ad 0)), some (vi (a))] (by decide +kernel) rfl (Nat.le_of_ble_eq_true rfl) rfl hd ?_
  intro p e s m args below meth c A G hr hT
  refine i_iload_n G dX7_requireFork_0 rfl ?_
  refine i_if_lt (tgt := 15) G dX7_requireFork_1 (by decide) (by omega) (fun h1 => ?_) (fun h1 => ?_)
  · skip
    refine x_throwW (text := "no such fork") G hT hst XF_IOB (by decide +kernel) dX7_requireFork_15 dX7_requireFork_18 dX7_requireFork_19 dX7_requireFork_22 dX7_requireFork_25 ⟨Nat.le_of_ble_eq_true rfl, Nat.le_of_ble_eq_true rfl, Nat.le_of_ble_eq_true rfl, Nat.le_of_ble_eq_true rfl⟩ ⟨Nat.le_of_ble_eq_true rfl, Nat.le_of_ble_eq_true rfl⟩ rfl ?_
    exact ⟨rfl, by omega⟩
  · skip
    refine i_iload_n G dX7_requireFork_4 rfl ?_
    refine i_aload_n G dX7_requireFork_5 rfl ?_
    refine i_getr G F_X7_10 0 rfl rfl dX7_requireFork_6 ?_
    refine j_getz G F_X7_55 1 rfl rfl (by decide) dX7_requireFork_9 ?_
    have b9 : 0 ≤ z 0 0 ∧ z 0 0 ≤ 16 := hR 0 _
    refine i_icmp_lt (tgt := 26) G dX7_requireFork_12 (by decide) (by omega) (by omega) (fun h12 => ?_) (fun h12 => ?_)
    · skip
      refine x_retv G hr ⟨Nat.le_of_ble_eq_true rfl, Nat.le_of_ble_eq_true rfl⟩ dX7_requireFork_26 ?_
      exact ⟨⟨rfl, rfl⟩, by omega⟩
    · skip
      refine x_throwW (text := "no such fork") G hT hst XF_IOB (by decide +kernel) dX7_requireFork_15 dX7_requireFork_18 dX7_requireFork_19 dX7_requireFork_22 dX7_requireFork_25 ⟨Nat.le_of_ble_eq_true rfl, Nat.le_of_ble_eq_true rfl, Nat.le_of_ble_eq_true rfl, Nat.le_of_ble_eq_true rfl⟩ ⟨Nat.le_of_ble_eq_true rfl, Nat.le_of_ble_eq_true rfl⟩ rfl ?_
      exact ⟨rfl, by omega⟩
set_option maxHeartbeats 4000000 in
set_option maxRecDepth 100000 in
theorem c_requireTrail (l : Launch) (hst : l.stackTraces = false) {D : va_G} {aC : Nat → ClassId} {ad : Nat → Nat} (hd : wDi ad shC) {z y : wZ} (hR : Rng z) (hY : Rng y) (a : Int) (ha : -2147483648 ≤ a ∧ a ≤ 2147483647) : xMv l D aC ad shC yX7_requireTrail cX7_requireTrail 2 (rmX 6 1 6) [.ref (ad 0), vi a] z y (fun z' y' => (z' = z ∧ y' = y) ∧ (0 ≤ a ∧ a < z 1 0)) (fun E => E = eIOB ∧ ¬ (0 ≤ a ∧ a < z 1 0)) 1 6 := by
  refine x_v [some (.ref (ad 0)), some (vi (a))] (by decide +kernel) rfl (Nat.le_of_ble_eq_true rfl) rfl hd ?_
  intro p e s m args below meth c A G hr hT
  refine i_iload_n G dX7_requireTrail_0 rfl ?_
  refine i_if_lt (tgt := 15) G dX7_requireTrail_1 (by decide) (by omega) (fun h1 => ?_) (fun h1 => ?_)
  · skip
    refine x_throwW (text := "no such trail") G hT hst XF_IOB (by decide +kernel) dX7_requireTrail_15 dX7_requireTrail_18 dX7_requireTrail_19 dX7_requireTrail_22 dX7_requireTrail_25 ⟨Nat.le_of_ble_eq_true rfl, Nat.le_of_ble_eq_true rfl, Nat.le_of_ble_eq_true rfl, Nat.le_of_ble_eq_true rfl⟩ ⟨Nat.le_of_ble_eq_true rfl, Nat.le_of_ble_eq_true rfl⟩ rfl ?_
    exact ⟨rfl, by omega⟩
  · skip
    refine i_iload_n G dX7_requireTrail_4 rfl ?_
    refine i_aload_n G dX7_requireTrail_5 rfl ?_
    refine i_getr G F_X7_10 0 rfl rfl dX7_requireTrail_6 ?_
    refine j_getz G F_X7_81 1 rfl rfl (by decide) dX7_requireTrail_9 ?_
    have b9 : 0 ≤ z 1 0 ∧ z 1 0 ≤ 24 := hR 1 _
    refine i_icmp_lt (tgt := 26) G dX7_requireTrail_12 (by decide) (by omega) (by omega) (fun h12 => ?_) (fun h12 => ?_)
    · skip
      refine x_retv G hr ⟨Nat.le_of_ble_eq_true rfl, Nat.le_of_ble_eq_true rfl⟩ dX7_requireTrail_26 ?_
      exact ⟨⟨rfl, rfl⟩, by omega⟩
    · skip
      refine x_throwW (text := "no such trail") G hT hst XF_IOB (by decide +kernel) dX7_requireTrail_15 dX7_requireTrail_18 dX7_requireTrail_19 dX7_requireTrail_22 dX7_requireTrail_25 ⟨Nat.le_of_ble_eq_true rfl, Nat.le_of_ble_eq_true rfl, Nat.le_of_ble_eq_true rfl, Nat.le_of_ble_eq_true rfl⟩ ⟨Nat.le_of_ble_eq_true rfl, Nat.le_of_ble_eq_true rfl⟩ rfl ?_
      exact ⟨rfl, by omega⟩
set_option maxHeartbeats 4000000 in
set_option maxRecDepth 100000 in
theorem c_requireBoard (l : Launch) (hst : l.stackTraces = false) {D : va_G} {aC : Nat → ClassId} {ad : Nat → Nat} (hd : wDi ad shC) {z y : wZ} (hR : Rng z) (hY : Rng y) (a : Int) (ha : -2147483648 ≤ a ∧ a ≤ 2147483647) : xMv l D aC ad shC yX7_requireBoard cX7_requireBoard 2 (rmX 6 1 6) [.ref (ad 0), vi a] z y (fun z' y' => (z' = z ∧ y' = y) ∧ (0 ≤ a ∧ a < z 2 0)) (fun E => E = eIOB ∧ ¬ (0 ≤ a ∧ a < z 2 0)) 1 6 := by
  refine x_v [some (.ref (ad 0)), some (vi (a))] (by decide +kernel) rfl (Nat.le_of_ble_eq_true rfl) rfl hd ?_
  intro p e s m args below meth c A G hr hT
  refine i_iload_n G dX7_requireBoard_0 rfl ?_
  refine i_if_lt (tgt := 15) G dX7_requireBoard_1 (by decide) (by omega) (fun h1 => ?_) (fun h1 => ?_)
  · skip
    refine x_throwW (text := "no such board") G hT hst XF_IOB (by decide +kernel) dX7_requireBoard_15 dX7_requireBoard_18 dX7_requireBoard_19 dX7_requireBoard_22 dX7_requireBoard_25 ⟨Nat.le_of_ble_eq_true rfl, Nat.le_of_ble_eq_true rfl, Nat.le_of_ble_eq_true rfl, Nat.le_of_ble_eq_true rfl⟩ ⟨Nat.le_of_ble_eq_true rfl, Nat.le_of_ble_eq_true rfl⟩ rfl ?_
    exact ⟨rfl, by omega⟩
  · skip
    refine i_iload_n G dX7_requireBoard_4 rfl ?_
    refine i_aload_n G dX7_requireBoard_5 rfl ?_
    refine i_getr G F_X7_19 0 rfl rfl dX7_requireBoard_6 ?_
    refine j_getz G F_X7_143 14 rfl rfl (by decide) dX7_requireBoard_9 ?_
    have b9 : 0 ≤ z 2 0 ∧ z 2 0 ≤ 30 := hR 2 _
    refine i_icmp_lt (tgt := 26) G dX7_requireBoard_12 (by decide) (by omega) (by omega) (fun h12 => ?_) (fun h12 => ?_)
    · skip
      refine x_retv G hr ⟨Nat.le_of_ble_eq_true rfl, Nat.le_of_ble_eq_true rfl⟩ dX7_requireBoard_26 ?_
      exact ⟨⟨rfl, rfl⟩, by omega⟩
    · skip
      refine x_throwW (text := "no such board") G hT hst XF_IOB (by decide +kernel) dX7_requireBoard_15 dX7_requireBoard_18 dX7_requireBoard_19 dX7_requireBoard_22 dX7_requireBoard_25 ⟨Nat.le_of_ble_eq_true rfl, Nat.le_of_ble_eq_true rfl, Nat.le_of_ble_eq_true rfl, Nat.le_of_ble_eq_true rfl⟩ ⟨Nat.le_of_ble_eq_true rfl, Nat.le_of_ble_eq_true rfl⟩ rfl ?_
      exact ⟨rfl, by omega⟩
set_option maxHeartbeats 4000000 in
set_option maxRecDepth 100000 in
theorem c_requireTask (l : Launch) (hst : l.stackTraces = false) {D : va_G} {aC : Nat → ClassId} {ad : Nat → Nat} (hd : wDi ad shC) {z y : wZ} (hR : Rng z) (hY : Rng y) (a : Int) (ha : -2147483648 ≤ a ∧ a ≤ 2147483647) : xMv l D aC ad shC yX7_requireTask cX7_requireTask 2 (rmX 6 1 6) [.ref (ad 0), vi a] z y (fun z' y' => (z' = z ∧ y' = y) ∧ (0 ≤ a ∧ a < z 3 0)) (fun E => E = eIOB ∧ ¬ (0 ≤ a ∧ a < z 3 0)) 1 6 := by
  refine x_v [some (.ref (ad 0)), some (vi (a))] (by decide +kernel) rfl (Nat.le_of_ble_eq_true rfl) rfl hd ?_
  intro p e s m args below meth c A G hr hT
  refine i_iload_n G dX7_requireTask_0 rfl ?_
  refine i_if_lt (tgt := 15) G dX7_requireTask_1 (by decide) (by omega) (fun h1 => ?_) (fun h1 => ?_)
  · skip
    refine x_throwW (text := "no such task") G hT hst XF_IOB (by decide +kernel) dX7_requireTask_15 dX7_requireTask_18 dX7_requireTask_19 dX7_requireTask_22 dX7_requireTask_25 ⟨Nat.le_of_ble_eq_true rfl, Nat.le_of_ble_eq_true rfl, Nat.le_of_ble_eq_true rfl, Nat.le_of_ble_eq_true rfl⟩ ⟨Nat.le_of_ble_eq_true rfl, Nat.le_of_ble_eq_true rfl⟩ rfl ?_
    exact ⟨rfl, by omega⟩
  · skip
    refine i_iload_n G dX7_requireTask_4 rfl ?_
    refine i_aload_n G dX7_requireTask_5 rfl ?_
    refine i_getr G F_X7_33 0 rfl rfl dX7_requireTask_6 ?_
    refine j_getz G F_X7_236 23 rfl rfl (by decide) dX7_requireTask_9 ?_
    have b9 : 0 ≤ z 3 0 ∧ z 3 0 ≤ 40 := hR 3 _
    refine i_icmp_lt (tgt := 26) G dX7_requireTask_12 (by decide) (by omega) (by omega) (fun h12 => ?_) (fun h12 => ?_)
    · skip
      refine x_retv G hr ⟨Nat.le_of_ble_eq_true rfl, Nat.le_of_ble_eq_true rfl⟩ dX7_requireTask_26 ?_
      exact ⟨⟨rfl, rfl⟩, by omega⟩
    · skip
      refine x_throwW (text := "no such task") G hT hst XF_IOB (by decide +kernel) dX7_requireTask_15 dX7_requireTask_18 dX7_requireTask_19 dX7_requireTask_22 dX7_requireTask_25 ⟨Nat.le_of_ble_eq_true rfl, Nat.le_of_ble_eq_true rfl, Nat.le_of_ble_eq_true rfl, Nat.le_of_ble_eq_true rfl⟩ ⟨Nat.le_of_ble_eq_true rfl, Nat.le_of_ble_eq_true rfl⟩ rfl ?_
      exact ⟨rfl, by omega⟩
set_option maxHeartbeats 4000000 in
set_option maxRecDepth 100000 in
theorem c_requireRanger (l : Launch) (hst : l.stackTraces = false) {D : va_G} {aC : Nat → ClassId} {ad : Nat → Nat} (hd : wDi ad shC) {z y : wZ} (hR : Rng z) (hY : Rng y) (a : Int) (ha : -2147483648 ≤ a ∧ a ≤ 2147483647) : xMv l D aC ad shC yX7_requireRanger cX7_requireRanger 2 (rmX 6 1 6) [.ref (ad 0), vi a] z y (fun z' y' => (z' = z ∧ y' = y) ∧ (0 ≤ a ∧ a < z 4 0)) (fun E => E = eIOB ∧ ¬ (0 ≤ a ∧ a < z 4 0)) 1 6 := by
  refine x_v [some (.ref (ad 0)), some (vi (a))] (by decide +kernel) rfl (Nat.le_of_ble_eq_true rfl) rfl hd ?_
  intro p e s m args below meth c A G hr hT
  refine i_iload_n G dX7_requireRanger_0 rfl ?_
  refine i_if_lt (tgt := 15) G dX7_requireRanger_1 (by decide) (by omega) (fun h1 => ?_) (fun h1 => ?_)
  · skip
    refine x_throwW (text := "no such ranger") G hT hst XF_IOB (by decide +kernel) dX7_requireRanger_15 dX7_requireRanger_18 dX7_requireRanger_19 dX7_requireRanger_22 dX7_requireRanger_25 ⟨Nat.le_of_ble_eq_true rfl, Nat.le_of_ble_eq_true rfl, Nat.le_of_ble_eq_true rfl, Nat.le_of_ble_eq_true rfl⟩ ⟨Nat.le_of_ble_eq_true rfl, Nat.le_of_ble_eq_true rfl⟩ rfl ?_
    exact ⟨rfl, by omega⟩
  · skip
    refine i_iload_n G dX7_requireRanger_4 rfl ?_
    refine i_aload_n G dX7_requireRanger_5 rfl ?_
    refine i_getr G F_X7_40 0 rfl rfl dX7_requireRanger_6 ?_
    refine j_getz G F_X7_239 28 rfl rfl (by decide) dX7_requireRanger_9 ?_
    have b9 : 0 ≤ z 4 0 ∧ z 4 0 ≤ 4 := hR 4 _
    refine i_icmp_lt (tgt := 26) G dX7_requireRanger_12 (by decide) (by omega) (by omega) (fun h12 => ?_) (fun h12 => ?_)
    · skip
      refine x_retv G hr ⟨Nat.le_of_ble_eq_true rfl, Nat.le_of_ble_eq_true rfl⟩ dX7_requireRanger_26 ?_
      exact ⟨⟨rfl, rfl⟩, by omega⟩
    · skip
      refine x_throwW (text := "no such ranger") G hT hst XF_IOB (by decide +kernel) dX7_requireRanger_15 dX7_requireRanger_18 dX7_requireRanger_19 dX7_requireRanger_22 dX7_requireRanger_25 ⟨Nat.le_of_ble_eq_true rfl, Nat.le_of_ble_eq_true rfl, Nat.le_of_ble_eq_true rfl, Nat.le_of_ble_eq_true rfl⟩ ⟨Nat.le_of_ble_eq_true rfl, Nat.le_of_ble_eq_true rfl⟩ rfl ?_
      exact ⟨rfl, by omega⟩
set_option maxHeartbeats 4000000 in
set_option maxRecDepth 100000 in
theorem c_requireMap (l : Launch) (hst : l.stackTraces = false) {D : va_G} {aC : Nat → ClassId} {ad : Nat → Nat} (hd : wDi ad shC) {z y : wZ} (hR : Rng z) (hY : Rng y) (a : Int) (ha : -2147483648 ≤ a ∧ a ≤ 2147483647) : xMv l D aC ad shC yX7_requireMap cX7_requireMap 2 (rmX 6 1 6) [.ref (ad 0), vi a] z y (fun z' y' => (z' = z ∧ y' = y) ∧ (0 ≤ a ∧ a < z 5 0)) (fun E => E = eIOB ∧ ¬ (0 ≤ a ∧ a < z 5 0)) 1 6 := by
  refine x_v [some (.ref (ad 0)), some (vi (a))] (by decide +kernel) rfl (Nat.le_of_ble_eq_true rfl) rfl hd ?_
  intro p e s m args below meth c A G hr hT
  refine i_iload_n G dX7_requireMap_0 rfl ?_
  refine i_if_lt (tgt := 15) G dX7_requireMap_1 (by decide) (by omega) (fun h1 => ?_) (fun h1 => ?_)
  · skip
    refine x_throwW (text := "no such map") G hT hst XF_IOB (by decide +kernel) dX7_requireMap_15 dX7_requireMap_18 dX7_requireMap_19 dX7_requireMap_22 dX7_requireMap_25 ⟨Nat.le_of_ble_eq_true rfl, Nat.le_of_ble_eq_true rfl, Nat.le_of_ble_eq_true rfl, Nat.le_of_ble_eq_true rfl⟩ ⟨Nat.le_of_ble_eq_true rfl, Nat.le_of_ble_eq_true rfl⟩ rfl ?_
    exact ⟨rfl, by omega⟩
  · skip
    refine i_iload_n G dX7_requireMap_4 rfl ?_
    refine i_aload_n G dX7_requireMap_5 rfl ?_
    refine i_getr G F_X7_47 0 rfl rfl dX7_requireMap_6 ?_
    refine j_getz G F_X7_257 32 rfl rfl (by decide) dX7_requireMap_9 ?_
    have b9 : 0 ≤ z 5 0 ∧ z 5 0 ≤ 10 := hR 5 _
    refine i_icmp_lt (tgt := 26) G dX7_requireMap_12 (by decide) (by omega) (by omega) (fun h12 => ?_) (fun h12 => ?_)
    · skip
      refine x_retv G hr ⟨Nat.le_of_ble_eq_true rfl, Nat.le_of_ble_eq_true rfl⟩ dX7_requireMap_26 ?_
      exact ⟨⟨rfl, rfl⟩, by omega⟩
    · skip
      refine x_throwW (text := "no such map") G hT hst XF_IOB (by decide +kernel) dX7_requireMap_15 dX7_requireMap_18 dX7_requireMap_19 dX7_requireMap_22 dX7_requireMap_25 ⟨Nat.le_of_ble_eq_true rfl, Nat.le_of_ble_eq_true rfl, Nat.le_of_ble_eq_true rfl, Nat.le_of_ble_eq_true rfl⟩ ⟨Nat.le_of_ble_eq_true rfl, Nat.le_of_ble_eq_true rfl⟩ rfl ?_
      exact ⟨rfl, by omega⟩
set_option maxHeartbeats 4000000 in
set_option maxRecDepth 100000 in
theorem c_requireWalker (l : Launch) (hst : l.stackTraces = false) {D : va_G} {aC : Nat → ClassId} {ad : Nat → Nat} (hd : wDi ad shC) {z y : wZ} (hR : Rng z) (hY : Rng y) (a : Int) (ha : -2147483648 ≤ a ∧ a ≤ 2147483647) : xMv l D aC ad shC yX7_requireWalker cX7_requireWalker 2 (rmX 6 1 6) [.ref (ad 0), vi a] z y (fun z' y' => (z' = z ∧ y' = y) ∧ (0 ≤ a ∧ a < 10)) (fun E => E = eIAE ∧ ¬ (0 ≤ a ∧ a < 10)) 1 6 := by
  refine x_v [some (.ref (ad 0)), some (vi (a))] (by decide +kernel) rfl (Nat.le_of_ble_eq_true rfl) rfl hd ?_
  intro p e s m args below meth c A G hr hT
  refine i_iload_n G dX7_requireWalker_0 rfl ?_
  refine i_if_lt (tgt := 10) G dX7_requireWalker_1 (by decide) (by omega) (fun h1 => ?_) (fun h1 => ?_)
  · skip
    refine x_throwW (text := "no such walker") G hT hst XF_IAE (by decide +kernel) dX7_requireWalker_10 dX7_requireWalker_13 dX7_requireWalker_14 dX7_requireWalker_17 dX7_requireWalker_20 ⟨Nat.le_of_ble_eq_true rfl, Nat.le_of_ble_eq_true rfl, Nat.le_of_ble_eq_true rfl, Nat.le_of_ble_eq_true rfl⟩ ⟨Nat.le_of_ble_eq_true rfl, Nat.le_of_ble_eq_true rfl⟩ rfl ?_
    exact ⟨rfl, by omega⟩
  · skip
    refine i_iload_n G dX7_requireWalker_4 rfl ?_
    refine i_bipush G dX7_requireWalker_5 (by decide) ?_
    refine i_icmp_lt (tgt := 21) G dX7_requireWalker_7 (by decide) (by omega) (by omega) (fun h7 => ?_) (fun h7 => ?_)
    · skip
      refine x_retv G hr ⟨Nat.le_of_ble_eq_true rfl, Nat.le_of_ble_eq_true rfl⟩ dX7_requireWalker_21 ?_
      exact ⟨⟨rfl, rfl⟩, by omega⟩
    · skip
      refine x_throwW (text := "no such walker") G hT hst XF_IAE (by decide +kernel) dX7_requireWalker_10 dX7_requireWalker_13 dX7_requireWalker_14 dX7_requireWalker_17 dX7_requireWalker_20 ⟨Nat.le_of_ble_eq_true rfl, Nat.le_of_ble_eq_true rfl, Nat.le_of_ble_eq_true rfl, Nat.le_of_ble_eq_true rfl⟩ ⟨Nat.le_of_ble_eq_true rfl, Nat.le_of_ble_eq_true rfl⟩ rfl ?_
      exact ⟨rfl, by omega⟩
set_option maxHeartbeats 4000000 in
set_option maxRecDepth 100000 in
theorem c_requireTrailMinutes (l : Launch) (hst : l.stackTraces = false) {D : va_G} {aC : Nat → ClassId} {ad : Nat → Nat} (hd : wDi ad shC) {z y : wZ} (hR : Rng z) (hY : Rng y) (a : Int) (ha : -2147483648 ≤ a ∧ a ≤ 2147483647) : xMv l D aC ad shC yX7_requireTrailMinutes cX7_requireTrailMinutes 2 (rmX 6 1 6) [.ref (ad 0), vi a] z y (fun z' y' => (z' = z ∧ y' = y) ∧ (1 ≤ a ∧ a ≤ 300)) (fun E => E = eIAE ∧ ¬ (1 ≤ a ∧ a ≤ 300)) 1 6 := by
  refine x_v [some (.ref (ad 0)), some (vi (a))] (by decide +kernel) rfl (Nat.le_of_ble_eq_true rfl) rfl hd ?_
  intro p e s m args below meth c A G hr hT
  refine i_iload_n G dX7_requireTrailMinutes_0 rfl ?_
  refine i_iconst G dX7_requireTrailMinutes_1 ?_
  refine i_icmp_lt (tgt := 12) G dX7_requireTrailMinutes_2 (by decide) (by omega) (by omega) (fun h2 => ?_) (fun h2 => ?_)
  · skip
    refine x_throwW (text := "minutes out of range") G hT hst XF_IAE (by decide +kernel) dX7_requireTrailMinutes_12 dX7_requireTrailMinutes_15 dX7_requireTrailMinutes_16 dX7_requireTrailMinutes_19 dX7_requireTrailMinutes_22 ⟨Nat.le_of_ble_eq_true rfl, Nat.le_of_ble_eq_true rfl, Nat.le_of_ble_eq_true rfl, Nat.le_of_ble_eq_true rfl⟩ ⟨Nat.le_of_ble_eq_true rfl, Nat.le_of_ble_eq_true rfl⟩ rfl ?_
    exact ⟨rfl, by omega⟩
  · skip
    refine i_iload_n G dX7_requireTrailMinutes_5 rfl ?_
    refine i_sipush G dX7_requireTrailMinutes_6 (by decide) ?_
    refine i_icmp_le (tgt := 23) G dX7_requireTrailMinutes_9 (by decide) (by omega) (by omega) (fun h9 => ?_) (fun h9 => ?_)
    · skip
      refine x_retv G hr ⟨Nat.le_of_ble_eq_true rfl, Nat.le_of_ble_eq_true rfl⟩ dX7_requireTrailMinutes_23 ?_
      exact ⟨⟨rfl, rfl⟩, by omega⟩
    · skip
      refine x_throwW (text := "minutes out of range") G hT hst XF_IAE (by decide +kernel) dX7_requireTrailMinutes_12 dX7_requireTrailMinutes_15 dX7_requireTrailMinutes_16 dX7_requireTrailMinutes_19 dX7_requireTrailMinutes_22 ⟨Nat.le_of_ble_eq_true rfl, Nat.le_of_ble_eq_true rfl, Nat.le_of_ble_eq_true rfl, Nat.le_of_ble_eq_true rfl⟩ ⟨Nat.le_of_ble_eq_true rfl, Nat.le_of_ble_eq_true rfl⟩ rfl ?_
      exact ⟨rfl, by omega⟩
set_option maxHeartbeats 4000000 in
set_option maxRecDepth 100000 in
theorem c_addFork (l : Launch) (hst : l.stackTraces = false) {D : va_G} {aC : Nat → ClassId} {ad : Nat → Nat} (hd : wDi ad shC) {z y : wZ} (hR : Rng z) (hY : Rng y) (hI_z_y : CW z y) (v : Int) (hv : -2147483648 ≤ v ∧ v ≤ 2147483647) (hv2 : v = 0 ∨ v = 1) : xMi l D aC ad shC yX7_addFork cX7_addFork 2 (.int) (rmX 6 1 6) [.ref (ad 0), vi v] z y (fun r_ z2 y2 => kcAF z = 0 ∧ r_ = z 0 0 ∧ z2 = afF z v ∧ Rng z2 ∧ Rng y2 ∧ CW z2 y2) (fun E => (E = eISE ∧ kcAF z = 1)) 1 6 := by
  refine x_i [some (.ref (ad 0)), some (vi (v))] (by decide +kernel) rfl (Nat.le_of_ble_eq_true rfl) rfl hd ?_
  intro p e s m args below meth c A G hr hT
  have q0 : 0 ≤ z 0 0 ∧ z 0 0 ≤ 16 := hR 0 0
  refine i_aload_n G dX7_addFork_0 rfl ?_
  refine i_getr G F_X7_10 0 rfl rfl dX7_addFork_1 ?_
  refine j_getz G F_X7_55 1 rfl rfl (by decide) dX7_addFork_4 ?_
  have b4 : 0 ≤ z 0 0 ∧ z 0 0 ≤ 16 := hR 0 _
  refine i_bipush G dX7_addFork_7 (by decide) ?_
  refine i_icmp_lt (tgt := 22) G dX7_addFork_9 (by decide) (by omega) (by omega) (fun h9 => ?_) (fun h9 => ?_)
  · skip
    refine i_aload_n G dX7_addFork_22 rfl ?_
    refine i_getr G F_X7_10 0 rfl rfl dX7_addFork_23 ?_
    refine i_getr G F_X7_65 1 rfl rfl dX7_addFork_26 ?_
    refine i_aload_n G dX7_addFork_29 rfl ?_
    refine i_getr G F_X7_10 0 rfl rfl dX7_addFork_30 ?_
    refine j_getz G F_X7_55 1 rfl rfl (by decide) dX7_addFork_33 ?_
    have b33 : 0 ≤ z 0 0 ∧ z 0 0 ≤ 16 := hR 0 _
    refine i_iload_n G dX7_addFork_36 rfl ?_
    refine j_zast_z G 2 rfl (by decide) (by decide) (by omega) (by omega) (by omega) (by decide) hR (by show (0 : Int) ≤ _ ∧ _ ≤ (1 : Int); omega) dX7_addFork_37 (fun z37 ez37 hRz37 => ?_)
    refine i_aload_n G dX7_addFork_38 rfl ?_
    refine i_getr G F_X7_10 0 rfl rfl dX7_addFork_39 ?_
    refine i_dup G rfl dX7_addFork_42 ?_
    refine j_getz G F_X7_55 1 rfl rfl (by decide) dX7_addFork_43 ?_
    have b43 : 0 ≤ z37 0 0 ∧ z37 0 0 ≤ 16 := hRz37 0 _
    refine i_iconst G dX7_addFork_46 ?_
    refine i_iadd G dX7_addFork_47 ?_
    refine j_putz G P_X7_55 1 rfl rfl (by decide) (by decide) (by decide) hRz37 (by show (0 : Int) ≤ _ ∧ _ ≤ (16 : Int); have e8 : z37 0 0 = z 0 0 := (by rw [ez37, zp_nk _ (by decide)]); omega) dX7_addFork_48 (fun z48 ez48 hRz48 => ?_)
    have e9 : z48 0 0 = z 0 0 + 1 := by rw [ez48, zp_same, ez37, zp_nk _ (by decide)]
    refine i_aload_n G dX7_addFork_51 rfl ?_
    refine i_getr G F_X7_10 0 rfl rfl dX7_addFork_52 ?_
    refine j_getz G F_X7_55 1 rfl rfl (by decide) dX7_addFork_55 ?_
    have b55 : 0 ≤ z48 0 0 ∧ z48 0 0 ≤ 16 := hRz48 0 _
    refine i_iconst G dX7_addFork_58 ?_
    refine i_isub G dX7_addFork_59 ?_
    refine x_reti G hr ⟨Nat.le_of_ble_eq_true rfl, Nat.le_of_ble_eq_true rfl⟩ dX7_addFork_60 ?_
    have ez : z48 = afF z v := by rw [ez48, ez37]; rfl
    refine ⟨by unfold kcAF; (repeat' split) <;> omega, by omega, ez, hRz48, hY, ?_⟩
    rw [ez]
    exact ⟨WF_af hI_z_y.1 v, CIv_congr hI_z_y.2.1 (fun i hi => by unfold afF; rw [zp_nk _ (by omega), zp_nk _ (by omega)]), CIv_congr hI_z_y.2.2 (fun i hi => by unfold afF; rw [zp_nk _ (by omega), zp_nk _ (by omega)])⟩
  · skip
    refine x_throw (text := "no room for a fork") G hT hst XF_ISE (by decide +kernel) dX7_addFork_12 dX7_addFork_15 dX7_addFork_16 dX7_addFork_18 dX7_addFork_21 ⟨Nat.le_of_ble_eq_true rfl, Nat.le_of_ble_eq_true rfl, Nat.le_of_ble_eq_true rfl, Nat.le_of_ble_eq_true rfl⟩ ⟨Nat.le_of_ble_eq_true rfl, Nat.le_of_ble_eq_true rfl⟩ rfl ?_
    exact ⟨rfl, by unfold kcAF; (repeat' split) <;> omega⟩
set_option maxHeartbeats 4000000 in
set_option maxRecDepth 100000 in
theorem c_trailOf (l : Launch) (hst : l.stackTraces = false) {D : va_G} {aC : Nat → ClassId} {ad : Nat → Nat} (hd : wDi ad shC) {z y : wZ} (hR : Rng z) (hY : Rng y) (hI_z_y : CW z y) (b : Int) (hb : -2147483648 ≤ b ∧ b ≤ 2147483647) : xMi l D aC ad shC yX7_trailOf cX7_trailOf 2 (.int) (rmX 7 1 6) [.ref (ad 0), vi b] z y (fun r_ z2 y2 => kcB z b = 0 ∧ r_ = z 19 b ∧ z2 = z ∧ y2 = y) (fun E => (E = eIOB ∧ kcB z b = 1)) 1 6 := by
  refine x_i [some (.ref (ad 0)), some (vi (b))] (by decide +kernel) rfl (Nat.le_of_ble_eq_true rfl) rfl hd ?_
  intro p e s m args below meth c A G hr hT
  have q2 : 0 ≤ z 2 0 ∧ z 2 0 ≤ 30 := hR 2 0
  refine i_aload_n G dX7_trailOf_0 rfl ?_
  refine i_iload_n G dX7_trailOf_1 rfl ?_
  refine x_callq (q0 := 0) (As := [vi (b)]) (st := []) G hT K_X7_158 (c_requireBoard l hst hd hR hY b (by first | assumption | omega)) rfl rfl rfl (xrm_ok (by decide) (by decide)) ⟨Nat.le_of_ble_eq_true rfl, Nat.le_of_ble_eq_true rfl⟩ ⟨Nat.le_of_ble_eq_true rfl, Nat.le_of_ble_eq_true rfl⟩ (Nat.le_of_ble_eq_true rfl) dX7_trailOf_2 (fun E hE => ?_) (fun q2 => ?_)
  · obtain ⟨rfl, hn⟩ := hE
    exact ⟨rfl, by unfold kcB; (repeat' split) <;> omega⟩
  refine i_aload_n G dX7_trailOf_5 rfl ?_
  refine i_getr G F_X7_19 0 rfl rfl dX7_trailOf_6 ?_
  refine i_getr G F_X7_161 14 rfl rfl dX7_trailOf_9 ?_
  refine i_iload_n G dX7_trailOf_12 rfl ?_
  refine j_iald_z G 17 rfl (by decide) (by decide) (by omega) (by omega) dX7_trailOf_13 ?_
  have b13 : 0 ≤ z 19 b ∧ z 19 b ≤ 23 := hR 19 _
  refine x_reti G hr ⟨Nat.le_of_ble_eq_true rfl, Nat.le_of_ble_eq_true rfl⟩ dX7_trailOf_14 ?_
  exact ⟨by unfold kcB; (repeat' split) <;> omega, rfl, rfl, rfl⟩
set_option maxHeartbeats 4000000 in
set_option maxRecDepth 100000 in
theorem c_told (l : Launch) (hst : l.stackTraces = false) {D : va_G} {aC : Nat → ClassId} {ad : Nat → Nat} (hd : wDi ad shC) {z y : wZ} (hR : Rng z) (hY : Rng y) (hI_z_y : CW z y) (b : Int) (hb : -2147483648 ≤ b ∧ b ≤ 2147483647) : xMi l D aC ad shC yX7_told cX7_told 2 (.int) (rmX 7 1 6) [.ref (ad 0), vi b] z y (fun r_ z2 y2 => kcB z b = 0 ∧ r_ = z 20 b ∧ z2 = z ∧ y2 = y) (fun E => (E = eIOB ∧ kcB z b = 1)) 1 6 := by
  refine x_i [some (.ref (ad 0)), some (vi (b))] (by decide +kernel) rfl (Nat.le_of_ble_eq_true rfl) rfl hd ?_
  intro p e s m args below meth c A G hr hT
  have q2 : 0 ≤ z 2 0 ∧ z 2 0 ≤ 30 := hR 2 0
  refine i_aload_n G dX7_told_0 rfl ?_
  refine i_iload_n G dX7_told_1 rfl ?_
  refine x_callq (q0 := 0) (As := [vi (b)]) (st := []) G hT K_X7_158 (c_requireBoard l hst hd hR hY b (by first | assumption | omega)) rfl rfl rfl (xrm_ok (by decide) (by decide)) ⟨Nat.le_of_ble_eq_true rfl, Nat.le_of_ble_eq_true rfl⟩ ⟨Nat.le_of_ble_eq_true rfl, Nat.le_of_ble_eq_true rfl⟩ (Nat.le_of_ble_eq_true rfl) dX7_told_2 (fun E hE => ?_) (fun q2 => ?_)
  · obtain ⟨rfl, hn⟩ := hE
    exact ⟨rfl, by unfold kcB; (repeat' split) <;> omega⟩
  refine i_aload_n G dX7_told_5 rfl ?_
  refine i_getr G F_X7_19 0 rfl rfl dX7_told_6 ?_
  refine i_getr G F_X7_164 14 rfl rfl dX7_told_9 ?_
  refine i_iload_n G dX7_told_12 rfl ?_
  refine j_iald_z G 18 rfl (by decide) (by decide) (by omega) (by omega) dX7_told_13 ?_
  have b13 : 0 ≤ z 20 b ∧ z 20 b ≤ 300 := hR 20 _
  refine x_reti G hr ⟨Nat.le_of_ble_eq_true rfl, Nat.le_of_ble_eq_true rfl⟩ dX7_told_14 ?_
  exact ⟨by unfold kcB; (repeat' split) <;> omega, rfl, rfl, rfl⟩
set_option maxHeartbeats 4000000 in
set_option maxRecDepth 100000 in
theorem c_isCovered (l : Launch) (hst : l.stackTraces = false) {D : va_G} {aC : Nat → ClassId} {ad : Nat → Nat} (hd : wDi ad shC) {z y : wZ} (hR : Rng z) (hY : Rng y) (hI_z_y : CW z y) (b : Int) (hb : -2147483648 ≤ b ∧ b ≤ 2147483647) : xMi l D aC ad shC yX7_isCovered cX7_isCovered 2 (.boolean) (rmX 7 1 6) [.ref (ad 0), vi b] z y (fun r_ z2 y2 => kcB z b = 0 ∧ r_ = z 21 b ∧ z2 = z ∧ y2 = y) (fun E => (E = eIOB ∧ kcB z b = 1)) 1 6 := by
  refine x_i [some (.ref (ad 0)), some (vi (b))] (by decide +kernel) rfl (Nat.le_of_ble_eq_true rfl) rfl hd ?_
  intro p e s m args below meth c A G hr hT
  have q2 : 0 ≤ z 2 0 ∧ z 2 0 ≤ 30 := hR 2 0
  refine i_aload_n G dX7_isCovered_0 rfl ?_
  refine i_iload_n G dX7_isCovered_1 rfl ?_
  refine x_callq (q0 := 0) (As := [vi (b)]) (st := []) G hT K_X7_158 (c_requireBoard l hst hd hR hY b (by first | assumption | omega)) rfl rfl rfl (xrm_ok (by decide) (by decide)) ⟨Nat.le_of_ble_eq_true rfl, Nat.le_of_ble_eq_true rfl⟩ ⟨Nat.le_of_ble_eq_true rfl, Nat.le_of_ble_eq_true rfl⟩ (Nat.le_of_ble_eq_true rfl) dX7_isCovered_2 (fun E hE => ?_) (fun q2 => ?_)
  · obtain ⟨rfl, hn⟩ := hE
    exact ⟨rfl, by unfold kcB; (repeat' split) <;> omega⟩
  refine i_aload_n G dX7_isCovered_5 rfl ?_
  refine i_getr G F_X7_19 0 rfl rfl dX7_isCovered_6 ?_
  refine i_getr G F_X7_167 14 rfl rfl dX7_isCovered_9 ?_
  refine i_iload_n G dX7_isCovered_12 rfl ?_
  refine j_zald_z G 19 rfl (by decide) (by decide) (by omega) (by omega) dX7_isCovered_13 ?_
  have b13 : 0 ≤ z 21 b ∧ z 21 b ≤ 1 := hR 21 _
  refine x_retz G hr (by omega) ⟨Nat.le_of_ble_eq_true rfl, Nat.le_of_ble_eq_true rfl⟩ dX7_isCovered_14 ?_
  exact ⟨by unfold kcB; (repeat' split) <;> omega, rfl, rfl, rfl⟩
set_option maxHeartbeats 4000000 in
set_option maxRecDepth 100000 in
theorem c_trust (l : Launch) (hst : l.stackTraces = false) {D : va_G} {aC : Nat → ClassId} {ad : Nat → Nat} (hd : wDi ad shC) {z y : wZ} (hR : Rng z) (hY : Rng y) (hI_z_y : CW z y) (w : Int) (hw : -2147483648 ≤ w ∧ w ≤ 2147483647) : xMi l D aC ad shC yX7_trust cX7_trust 2 (.int) (rmX 7 1 6) [.ref (ad 0), vi w] z y (fun r_ z2 y2 => kcW w = 0 ∧ r_ = z 22 w ∧ z2 = z ∧ y2 = y) (fun E => (E = eIAE ∧ kcW w = 1)) 1 6 := by
  refine x_i [some (.ref (ad 0)), some (vi (w))] (by decide +kernel) rfl (Nat.le_of_ble_eq_true rfl) rfl hd ?_
  intro p e s m args below meth c A G hr hT
  refine i_aload_n G dX7_trust_0 rfl ?_
  refine i_iload_n G dX7_trust_1 rfl ?_
  refine x_callq (q0 := 0) (As := [vi (w)]) (st := []) G hT K_X7_174 (c_requireWalker l hst hd hR hY w (by first | assumption | omega)) rfl rfl rfl (xrm_ok (by decide) (by decide)) ⟨Nat.le_of_ble_eq_true rfl, Nat.le_of_ble_eq_true rfl⟩ ⟨Nat.le_of_ble_eq_true rfl, Nat.le_of_ble_eq_true rfl⟩ (Nat.le_of_ble_eq_true rfl) dX7_trust_2 (fun E hE => ?_) (fun q2 => ?_)
  · obtain ⟨rfl, hn⟩ := hE
    exact ⟨rfl, by unfold kcW; (repeat' split) <;> omega⟩
  refine i_aload_n G dX7_trust_5 rfl ?_
  refine i_getr G F_X7_26 0 rfl rfl dX7_trust_6 ?_
  refine i_getr G F_X7_188 20 rfl rfl dX7_trust_9 ?_
  refine i_iload_n G dX7_trust_12 rfl ?_
  refine j_iald_z G 21 rfl (by decide) (by decide) (by omega) (by omega) dX7_trust_13 ?_
  have b13 : 0 ≤ z 22 w ∧ z 22 w ≤ 100 := hR 22 _
  refine x_reti G hr ⟨Nat.le_of_ble_eq_true rfl, Nat.le_of_ble_eq_true rfl⟩ dX7_trust_14 ?_
  exact ⟨by unfold kcW; (repeat' split) <;> omega, rfl, rfl, rfl⟩
set_option maxHeartbeats 4000000 in
set_option maxRecDepth 100000 in
theorem c_reports (l : Launch) (hst : l.stackTraces = false) {D : va_G} {aC : Nat → ClassId} {ad : Nat → Nat} (hd : wDi ad shC) {z y : wZ} (hR : Rng z) (hY : Rng y) (hI_z_y : CW z y) (t : Int) (ht : -2147483648 ≤ t ∧ t ≤ 2147483647) : xMi l D aC ad shC yX7_reports cX7_reports 2 (.int) (rmX 7 1 6) [.ref (ad 0), vi t] z y (fun r_ z2 y2 => kcT z t = 0 ∧ r_ = cntL z t 10 0 0 ∧ z2 = z ∧ y2 = y) (fun E => (E = eIOB ∧ kcT z t = 1)) 1 6 := by
  refine x_i [some (.ref (ad 0)), some (vi (t))] (by decide +kernel) rfl (Nat.le_of_ble_eq_true rfl) rfl hd ?_
  intro p e s m args below meth c A G hr hT
  have q1 : 0 ≤ z 1 0 ∧ z 1 0 ≤ 24 := hR 1 0
  refine i_aload_n G dX7_reports_0 rfl ?_
  refine i_iload_n G dX7_reports_1 rfl ?_
  refine x_callq (q0 := 0) (As := [vi (t)]) (st := []) G hT K_X7_90 (c_requireTrail l hst hd hR hY t (by first | assumption | omega)) rfl rfl rfl (xrm_ok (by decide) (by decide)) ⟨Nat.le_of_ble_eq_true rfl, Nat.le_of_ble_eq_true rfl⟩ ⟨Nat.le_of_ble_eq_true rfl, Nat.le_of_ble_eq_true rfl⟩ (Nat.le_of_ble_eq_true rfl) dX7_reports_2 (fun E hE => ?_) (fun q2 => ?_)
  · obtain ⟨rfl, hn⟩ := hE
    exact ⟨rfl, by unfold kcT; (repeat' split) <;> omega⟩
  refine i_aload_n G dX7_reports_5 rfl ?_
  refine i_getr G F_X7_26 0 rfl rfl dX7_reports_6 ?_
  refine i_iload_n G dX7_reports_9 rfl ?_
  refine j_callE (q0 := 20) (As := [vi (t)]) (st := []) G K_X7_191 (c_countNotes l hd hR hY t (by omega)) rfl rfl rfl (rm_okX (by decide) (by decide)) ⟨Nat.le_of_ble_eq_true rfl, Nat.le_of_ble_eq_true rfl⟩ (Nat.le_of_ble_eq_true rfl) dX7_reports_10 ?_
  refine x_reti G hr ⟨Nat.le_of_ble_eq_true rfl, Nat.le_of_ble_eq_true rfl⟩ dX7_reports_13 ?_
  exact ⟨by unfold kcT; (repeat' split) <;> omega, rfl, rfl, rfl⟩
set_option maxHeartbeats 4000000 in
set_option maxRecDepth 100000 in
theorem c_kindOf (l : Launch) (hst : l.stackTraces = false) {D : va_G} {aC : Nat → ClassId} {ad : Nat → Nat} (hd : wDi ad shC) {z y : wZ} (hR : Rng z) (hY : Rng y) (hI_z_y : CW z y) (t : Int) (ht : -2147483648 ≤ t ∧ t ≤ 2147483647) : xMi l D aC ad shC yX7_kindOf cX7_kindOf 2 (.char) (rmX 7 1 6) [.ref (ad 0), vi t] z y (fun r_ z2 y2 => kcK z t = 0 ∧ r_ = z 23 t ∧ z2 = z ∧ y2 = y) (fun E => (E = eIOB ∧ kcK z t = 1)) 1 6 := by
  refine x_i [some (.ref (ad 0)), some (vi (t))] (by decide +kernel) rfl (Nat.le_of_ble_eq_true rfl) rfl hd ?_
  intro p e s m args below meth c A G hr hT
  have q3 : 0 ≤ z 3 0 ∧ z 3 0 ≤ 40 := hR 3 0
  refine i_aload_n G dX7_kindOf_0 rfl ?_
  refine i_iload_n G dX7_kindOf_1 rfl ?_
  refine x_callq (q0 := 0) (As := [vi (t)]) (st := []) G hT K_X7_217 (c_requireTask l hst hd hR hY t (by first | assumption | omega)) rfl rfl rfl (xrm_ok (by decide) (by decide)) ⟨Nat.le_of_ble_eq_true rfl, Nat.le_of_ble_eq_true rfl⟩ ⟨Nat.le_of_ble_eq_true rfl, Nat.le_of_ble_eq_true rfl⟩ (Nat.le_of_ble_eq_true rfl) dX7_kindOf_2 (fun E hE => ?_) (fun q2 => ?_)
  · obtain ⟨rfl, hn⟩ := hE
    exact ⟨rfl, by unfold kcK; (repeat' split) <;> omega⟩
  refine i_aload_n G dX7_kindOf_5 rfl ?_
  refine i_getr G F_X7_33 0 rfl rfl dX7_kindOf_6 ?_
  refine i_getr G F_X7_220 23 rfl rfl dX7_kindOf_9 ?_
  refine i_iload_n G dX7_kindOf_12 rfl ?_
  refine j_cald_z G 24 rfl (by decide) (by decide) (by omega) (by omega) dX7_kindOf_13 ?_
  have b13 : 0 ≤ z 23 t ∧ z 23 t ≤ 65535 := hR 23 _
  refine x_retc G hr (by omega) ⟨Nat.le_of_ble_eq_true rfl, Nat.le_of_ble_eq_true rfl⟩ dX7_kindOf_14 ?_
  exact ⟨by unfold kcK; (repeat' split) <;> omega, rfl, rfl, rfl⟩
set_option maxHeartbeats 4000000 in
set_option maxRecDepth 100000 in
theorem c_numberOf (l : Launch) (hst : l.stackTraces = false) {D : va_G} {aC : Nat → ClassId} {ad : Nat → Nat} (hd : wDi ad shC) {z y : wZ} (hR : Rng z) (hY : Rng y) (hI_z_y : CW z y) (t : Int) (ht : -2147483648 ≤ t ∧ t ≤ 2147483647) : xMi l D aC ad shC yX7_numberOf cX7_numberOf 2 (.int) (rmX 7 1 6) [.ref (ad 0), vi t] z y (fun r_ z2 y2 => kcK z t = 0 ∧ r_ = z 24 t ∧ z2 = z ∧ y2 = y) (fun E => (E = eIOB ∧ kcK z t = 1)) 1 6 := by
  refine x_i [some (.ref (ad 0)), some (vi (t))] (by decide +kernel) rfl (Nat.le_of_ble_eq_true rfl) rfl hd ?_
  intro p e s m args below meth c A G hr hT
  have q3 : 0 ≤ z 3 0 ∧ z 3 0 ≤ 40 := hR 3 0
  refine i_aload_n G dX7_numberOf_0 rfl ?_
  refine i_iload_n G dX7_numberOf_1 rfl ?_
  refine x_callq (q0 := 0) (As := [vi (t)]) (st := []) G hT K_X7_217 (c_requireTask l hst hd hR hY t (by first | assumption | omega)) rfl rfl rfl (xrm_ok (by decide) (by decide)) ⟨Nat.le_of_ble_eq_true rfl, Nat.le_of_ble_eq_true rfl⟩ ⟨Nat.le_of_ble_eq_true rfl, Nat.le_of_ble_eq_true rfl⟩ (Nat.le_of_ble_eq_true rfl) dX7_numberOf_2 (fun E hE => ?_) (fun q2 => ?_)
  · obtain ⟨rfl, hn⟩ := hE
    exact ⟨rfl, by unfold kcK; (repeat' split) <;> omega⟩
  refine i_aload_n G dX7_numberOf_5 rfl ?_
  refine i_getr G F_X7_33 0 rfl rfl dX7_numberOf_6 ?_
  refine i_getr G F_X7_224 23 rfl rfl dX7_numberOf_9 ?_
  refine i_iload_n G dX7_numberOf_12 rfl ?_
  refine j_iald_z G 25 rfl (by decide) (by decide) (by omega) (by omega) dX7_numberOf_13 ?_
  have b13 : 0 ≤ z 24 t ∧ z 24 t ≤ 29 := hR 24 _
  refine x_reti G hr ⟨Nat.le_of_ble_eq_true rfl, Nat.le_of_ble_eq_true rfl⟩ dX7_numberOf_14 ?_
  exact ⟨by unfold kcK; (repeat' split) <;> omega, rfl, rfl, rfl⟩
set_option maxHeartbeats 4000000 in
set_option maxRecDepth 100000 in
theorem c_doneBy (l : Launch) (hst : l.stackTraces = false) {D : va_G} {aC : Nat → ClassId} {ad : Nat → Nat} (hd : wDi ad shC) {z y : wZ} (hR : Rng z) (hY : Rng y) (hI_z_y : CW z y) (t : Int) (ht : -2147483648 ≤ t ∧ t ≤ 2147483647) : xMi l D aC ad shC yX7_doneBy cX7_doneBy 2 (.int) (rmX 7 2 12) [.ref (ad 0), vi t] z y (fun r_ z2 y2 => kcDB z t = 0 ∧ r_ = z 26 t ∧ z2 = z ∧ y2 = y) (fun E => (E = eIOB ∧ kcDB z t = 1) ∨ (E = eNSE ∧ kcDB z t = 2)) 2 12 := by
  refine x_i [some (.ref (ad 0)), some (vi (t))] (by decide +kernel) rfl (Nat.le_of_ble_eq_true rfl) rfl hd ?_
  intro p e s m args below meth c A G hr hT
  have q3 : 0 ≤ z 3 0 ∧ z 3 0 ≤ 40 := hR 3 0
  refine i_aload_n G dX7_doneBy_0 rfl ?_
  refine i_iload_n G dX7_doneBy_1 rfl ?_
  refine x_callq (q0 := 0) (As := [vi (t)]) (st := []) G hT K_X7_217 (c_requireTask l hst hd hR hY t (by first | assumption | omega)) rfl rfl rfl (xrm_ok (by decide) (by decide)) ⟨Nat.le_of_ble_eq_true rfl, Nat.le_of_ble_eq_true rfl⟩ ⟨Nat.le_of_ble_eq_true rfl, Nat.le_of_ble_eq_true rfl⟩ (Nat.le_of_ble_eq_true rfl) dX7_doneBy_2 (fun E hE => ?_) (fun q2 => ?_)
  · obtain ⟨rfl, hn⟩ := hE
    exact Or.inl ⟨rfl, by unfold kcDB; (repeat' split) <;> omega⟩
  refine i_aload_n G dX7_doneBy_5 rfl ?_
  refine i_getr G F_X7_33 0 rfl rfl dX7_doneBy_6 ?_
  refine i_iload_n G dX7_doneBy_9 rfl ?_
  refine j_callE (q0 := 23) (As := [vi (t)]) (st := []) G K_X7_227 (c_isOpen l hd hR hY t (by omega)) rfl rfl rfl (rm_okX (by decide) (by decide)) ⟨Nat.le_of_ble_eq_true rfl, Nat.le_of_ble_eq_true rfl⟩ (Nat.le_of_ble_eq_true rfl) dX7_doneBy_10 ?_
  obtain ⟨r10, er10⟩ : ∃ x_ : Int, x_ = (if z 26 t = -1 then 1 else 0) := ⟨_, rfl⟩
  rw [← er10]
  have b10 : (r10 = 1 ∧ z 26 t = -1) ∨ (r10 = 0 ∧ ¬ z 26 t = -1) := by rw [er10]; split <;> omega
  refine i_if_eq (tgt := 26) G dX7_doneBy_13 (by decide) (by omega) (fun h13 => ?_) (fun h13 => ?_)
  · skip
    refine i_aload_n G dX7_doneBy_26 rfl ?_
    refine i_getr G F_X7_33 0 rfl rfl dX7_doneBy_27 ?_
    refine i_getr G F_X7_233 23 rfl rfl dX7_doneBy_30 ?_
    refine i_iload_n G dX7_doneBy_33 rfl ?_
    refine j_iald_z G 27 rfl (by decide) (by decide) (by omega) (by omega) dX7_doneBy_34 ?_
    have b34 : -1 ≤ z 26 t ∧ z 26 t ≤ 3 := hR 26 _
    refine x_reti G hr ⟨Nat.le_of_ble_eq_true rfl, Nat.le_of_ble_eq_true rfl⟩ dX7_doneBy_35 ?_
    exact ⟨by unfold kcDB; (repeat' split) <;> omega, rfl, rfl, rfl⟩
  · skip
    refine x_throwN (text := "the task is open") G hT hst (by decide +kernel) dX7_doneBy_16 dX7_doneBy_19 dX7_doneBy_20 dX7_doneBy_22 dX7_doneBy_25 ⟨Nat.le_of_ble_eq_true rfl, Nat.le_of_ble_eq_true rfl, Nat.le_of_ble_eq_true rfl, Nat.le_of_ble_eq_true rfl⟩ ⟨Nat.le_of_ble_eq_true rfl, Nat.le_of_ble_eq_true rfl⟩ rfl ?_
    exact Or.inr (⟨rfl, by unfold kcDB; (repeat' split) <;> omega⟩)
set_option maxHeartbeats 4000000 in
set_option maxRecDepth 100000 in
theorem c_forkOf (l : Launch) (hst : l.stackTraces = false) {D : va_G} {aC : Nat → ClassId} {ad : Nat → Nat} (hd : wDi ad shC) {z y : wZ} (hR : Rng z) (hY : Rng y) (hI_z_y : CW z y) (r : Int) (hr : -2147483648 ≤ r ∧ r ≤ 2147483647) : xMi l D aC ad shC yX7_forkOf cX7_forkOf 2 (.int) (rmX 7 1 6) [.ref (ad 0), vi r] z y (fun r_ z2 y2 => kcR z r = 0 ∧ r_ = z 27 r ∧ z2 = z ∧ y2 = y) (fun E => (E = eIOB ∧ kcR z r = 1)) 1 6 := by
  refine x_i [some (.ref (ad 0)), some (vi (r))] (by decide +kernel) rfl (Nat.le_of_ble_eq_true rfl) rfl hd ?_
  intro p e s m args below meth c A G hr hT
  have q4 : 0 ≤ z 4 0 ∧ z 4 0 ≤ 4 := hR 4 0
  refine i_aload_n G dX7_forkOf_0 rfl ?_
  refine i_iload_n G dX7_forkOf_1 rfl ?_
  refine x_callq (q0 := 0) (As := [vi (r)]) (st := []) G hT K_X7_245 (c_requireRanger l hst hd hR hY r (by first | assumption | omega)) rfl rfl rfl (xrm_ok (by decide) (by decide)) ⟨Nat.le_of_ble_eq_true rfl, Nat.le_of_ble_eq_true rfl⟩ ⟨Nat.le_of_ble_eq_true rfl, Nat.le_of_ble_eq_true rfl⟩ (Nat.le_of_ble_eq_true rfl) dX7_forkOf_2 (fun E hE => ?_) (fun q2 => ?_)
  · obtain ⟨rfl, hn⟩ := hE
    exact ⟨rfl, by unfold kcR; (repeat' split) <;> omega⟩
  refine i_aload_n G dX7_forkOf_5 rfl ?_
  refine i_getr G F_X7_40 0 rfl rfl dX7_forkOf_6 ?_
  refine i_getr G F_X7_248 28 rfl rfl dX7_forkOf_9 ?_
  refine i_iload_n G dX7_forkOf_12 rfl ?_
  refine j_iald_z G 29 rfl (by decide) (by decide) (by omega) (by omega) dX7_forkOf_13 ?_
  have b13 : 0 ≤ z 27 r ∧ z 27 r ≤ 15 := hR 27 _
  refine x_reti G hr ⟨Nat.le_of_ble_eq_true rfl, Nat.le_of_ble_eq_true rfl⟩ dX7_forkOf_14 ?_
  exact ⟨by unfold kcR; (repeat' split) <;> omega, rfl, rfl, rfl⟩
set_option maxHeartbeats 4000000 in
set_option maxRecDepth 100000 in
theorem c_worked (l : Launch) (hst : l.stackTraces = false) {D : va_G} {aC : Nat → ClassId} {ad : Nat → Nat} (hd : wDi ad shC) {z y : wZ} (hR : Rng z) (hY : Rng y) (hI_z_y : CW z y) (r : Int) (hr : -2147483648 ≤ r ∧ r ≤ 2147483647) : xMi l D aC ad shC yX7_worked cX7_worked 2 (.int) (rmX 7 1 6) [.ref (ad 0), vi r] z y (fun r_ z2 y2 => kcR z r = 0 ∧ r_ = z 29 r ∧ z2 = z ∧ y2 = y) (fun E => (E = eIOB ∧ kcR z r = 1)) 1 6 := by
  refine x_i [some (.ref (ad 0)), some (vi (r))] (by decide +kernel) rfl (Nat.le_of_ble_eq_true rfl) rfl hd ?_
  intro p e s m args below meth c A G hr hT
  have q4 : 0 ≤ z 4 0 ∧ z 4 0 ≤ 4 := hR 4 0
  refine i_aload_n G dX7_worked_0 rfl ?_
  refine i_iload_n G dX7_worked_1 rfl ?_
  refine x_callq (q0 := 0) (As := [vi (r)]) (st := []) G hT K_X7_245 (c_requireRanger l hst hd hR hY r (by first | assumption | omega)) rfl rfl rfl (xrm_ok (by decide) (by decide)) ⟨Nat.le_of_ble_eq_true rfl, Nat.le_of_ble_eq_true rfl⟩ ⟨Nat.le_of_ble_eq_true rfl, Nat.le_of_ble_eq_true rfl⟩ (Nat.le_of_ble_eq_true rfl) dX7_worked_2 (fun E hE => ?_) (fun q2 => ?_)
  · obtain ⟨rfl, hn⟩ := hE
    exact ⟨rfl, by unfold kcR; (repeat' split) <;> omega⟩
  refine i_aload_n G dX7_worked_5 rfl ?_
  refine i_getr G F_X7_40 0 rfl rfl dX7_worked_6 ?_
  refine i_getr G F_X7_249 28 rfl rfl dX7_worked_9 ?_
  refine i_iload_n G dX7_worked_12 rfl ?_
  refine j_iald_z G 31 rfl (by decide) (by decide) (by omega) (by omega) dX7_worked_13 ?_
  have b13 : 0 ≤ z 29 r ∧ z 29 r ≤ 60000 := hR 29 _
  refine x_reti G hr ⟨Nat.le_of_ble_eq_true rfl, Nat.le_of_ble_eq_true rfl⟩ dX7_worked_14 ?_
  exact ⟨by unfold kcR; (repeat' split) <;> omega, rfl, rfl, rfl⟩
set_option maxHeartbeats 4000000 in
set_option maxRecDepth 100000 in
theorem c_shows (l : Launch) (hst : l.stackTraces = false) {D : va_G} {aC : Nat → ClassId} {ad : Nat → Nat} (hd : wDi ad shC) {z y : wZ} (hR : Rng z) (hY : Rng y) (hI_z_y : CW z y) (mp : Int) (t : Int) (hmp : -2147483648 ≤ mp ∧ mp ≤ 2147483647) (ht : -2147483648 ≤ t ∧ t ≤ 2147483647) : xMi l D aC ad shC yX7_shows cX7_shows 3 (.boolean) (rmX 7 2 12) [.ref (ad 0), vi mp, vi t] z y (fun r_ z2 y2 => kcSh z mp t = 0 ∧ r_ = z 30 (mp * 24 + t) ∧ z2 = z ∧ y2 = y) (fun E => (E = eIOB ∧ kcSh z mp t = 1)) 2 12 := by
  refine x_i [some (.ref (ad 0)), some (vi (mp)), some (vi (t))] (by decide +kernel) rfl (Nat.le_of_ble_eq_true rfl) rfl hd ?_
  intro p e s m args below meth c A G hr hT
  have q5 : 0 ≤ z 5 0 ∧ z 5 0 ≤ 10 := hR 5 0
  have q1 : 0 ≤ z 1 0 ∧ z 1 0 ≤ 24 := hR 1 0
  refine i_aload_n G dX7_shows_0 rfl ?_
  refine i_iload_n G dX7_shows_1 rfl ?_
  refine x_callq (q0 := 0) (As := [vi (mp)]) (st := []) G hT K_X7_264 (c_requireMap l hst hd hR hY mp (by first | assumption | omega)) rfl rfl rfl (xrm_ok (by decide) (by decide)) ⟨Nat.le_of_ble_eq_true rfl, Nat.le_of_ble_eq_true rfl⟩ ⟨Nat.le_of_ble_eq_true rfl, Nat.le_of_ble_eq_true rfl⟩ (Nat.le_of_ble_eq_true rfl) dX7_shows_2 (fun E hE => ?_) (fun q2 => ?_)
  · obtain ⟨rfl, hn⟩ := hE
    exact ⟨rfl, by unfold kcSh; (repeat' split) <;> omega⟩
  refine i_aload_n G dX7_shows_5 rfl ?_
  refine i_iload_n G dX7_shows_6 rfl ?_
  refine x_callq (q0 := 0) (As := [vi (t)]) (st := []) G hT K_X7_90 (c_requireTrail l hst hd hR hY t (by first | assumption | omega)) rfl rfl rfl (xrm_ok (by decide) (by decide)) ⟨Nat.le_of_ble_eq_true rfl, Nat.le_of_ble_eq_true rfl⟩ ⟨Nat.le_of_ble_eq_true rfl, Nat.le_of_ble_eq_true rfl⟩ (Nat.le_of_ble_eq_true rfl) dX7_shows_7 (fun E hE => ?_) (fun q7 => ?_)
  · obtain ⟨rfl, hn⟩ := hE
    exact ⟨rfl, by unfold kcSh; (repeat' split) <;> omega⟩
  refine i_aload_n G dX7_shows_10 rfl ?_
  refine i_getr G F_X7_47 0 rfl rfl dX7_shows_11 ?_
  refine i_iload_n G dX7_shows_14 rfl ?_
  refine i_iload_n G dX7_shows_15 rfl ?_
  refine j_callE (q0 := 32) (As := [vi (mp), vi (t)]) (st := []) G K_X7_267 (c_isDrawn l hd hR hY mp t (by omega) (by omega)) rfl rfl rfl (rm_okX (by decide) (by decide)) ⟨Nat.le_of_ble_eq_true rfl, Nat.le_of_ble_eq_true rfl⟩ (Nat.le_of_ble_eq_true rfl) dX7_shows_16 ?_
  have b16 : 0 ≤ (z 30 (mp * 24 + t)) ∧ (z 30 (mp * 24 + t)) ≤ 1 := hR 30 _
  refine x_retz G hr (by omega) ⟨Nat.le_of_ble_eq_true rfl, Nat.le_of_ble_eq_true rfl⟩ dX7_shows_19 ?_
  exact ⟨by unfold kcSh; (repeat' split) <;> omega, rfl, rfl, rfl⟩
set_option maxHeartbeats 4000000 in
set_option maxRecDepth 100000 in
theorem c_age (l : Launch) (hst : l.stackTraces = false) {D : va_G} {aC : Nat → ClassId} {ad : Nat → Nat} (hd : wDi ad shC) {z y : wZ} (hR : Rng z) (hY : Rng y) (hI_z_y : CW z y) (mp : Int) (hmp : -2147483648 ≤ mp ∧ mp ≤ 2147483647) : xMi l D aC ad shC yX7_age cX7_age 2 (.int) (rmX 7 1 6) [.ref (ad 0), vi mp] z y (fun r_ z2 y2 => kcM z mp = 0 ∧ r_ = z 7 0 - z 31 mp ∧ z2 = z ∧ y2 = y) (fun E => (E = eIOB ∧ kcM z mp = 1)) 1 6 := by
  refine x_i [some (.ref (ad 0)), some (vi (mp))] (by decide +kernel) rfl (Nat.le_of_ble_eq_true rfl) rfl hd ?_
  intro p e s m args below meth c A G hr hT
  have q5 : 0 ≤ z 5 0 ∧ z 5 0 ≤ 10 := hR 5 0
  refine i_aload_n G dX7_age_0 rfl ?_
  refine i_iload_n G dX7_age_1 rfl ?_
  refine x_callq (q0 := 0) (As := [vi (mp)]) (st := []) G hT K_X7_264 (c_requireMap l hst hd hR hY mp (by first | assumption | omega)) rfl rfl rfl (xrm_ok (by decide) (by decide)) ⟨Nat.le_of_ble_eq_true rfl, Nat.le_of_ble_eq_true rfl⟩ ⟨Nat.le_of_ble_eq_true rfl, Nat.le_of_ble_eq_true rfl⟩ (Nat.le_of_ble_eq_true rfl) dX7_age_2 (fun E hE => ?_) (fun q2 => ?_)
  · obtain ⟨rfl, hn⟩ := hE
    exact ⟨rfl, by unfold kcM; (repeat' split) <;> omega⟩
  refine i_aload_n G dX7_age_5 rfl ?_
  refine j_getz G F_X7_51 0 rfl rfl (by decide) dX7_age_6 ?_
  have b6 : 0 ≤ z 7 0 ∧ z 7 0 ≤ 50 := hR 7 _
  refine i_aload_n G dX7_age_9 rfl ?_
  refine i_getr G F_X7_47 0 rfl rfl dX7_age_10 ?_
  refine i_getr G F_X7_270 32 rfl rfl dX7_age_13 ?_
  refine i_iload_n G dX7_age_16 rfl ?_
  refine j_iald_z G 34 rfl (by decide) (by decide) (by omega) (by omega) dX7_age_17 ?_
  have b17 : 0 ≤ z 31 mp ∧ z 31 mp ≤ 50 := hR 31 _
  refine i_isub G dX7_age_18 ?_
  refine x_reti G hr ⟨Nat.le_of_ble_eq_true rfl, Nat.le_of_ble_eq_true rfl⟩ dX7_age_19 ?_
  exact ⟨by unfold kcM; (repeat' split) <;> omega, rfl, rfl, rfl⟩
set_option maxHeartbeats 4000000 in
set_option maxRecDepth 100000 in
theorem c_firstTrail (l : Launch) (hst : l.stackTraces = false) {D : va_G} {aC : Nat → ClassId} {ad : Nat → Nat} (hd : wDi ad shC) {z y : wZ} (hR : Rng z) (hY : Rng y) (hI_z_y : CW z y) (a : Int) (b : Int) (ha : -2147483648 ≤ a ∧ a ≤ 2147483647) (hb : -2147483648 ≤ b ∧ b ≤ 2147483647) : xMi l D aC ad shC yX7_firstTrail cX7_firstTrail 4 (.int) (rmX 7 3 18) [.ref (ad 0), vi a, vi b] z y (fun r_ z2 y2 => kcFT z a b = 0 ∧ r_ = nxt z a b ∧ z2 = z ∧ y2 = y) (fun E => (E = eIOB ∧ kcFT z a b = 1) ∨ (E = eNSE ∧ kcFT z a b = 2)) 3 18 := by
  refine x_i [some (.ref (ad 0)), some (vi (a)), some (vi (b)), none] (by decide +kernel) rfl (Nat.le_of_ble_eq_true rfl) rfl hd ?_
  intro p e s m args below meth c A G hr hT
  have q0 : 0 ≤ z 0 0 ∧ z 0 0 ≤ 16 := hR 0 0
  have q1 : 0 ≤ z 1 0 ∧ z 1 0 ≤ 24 := hR 1 0
  refine i_aload_n G dX7_firstTrail_0 rfl ?_
  refine i_iload_n G dX7_firstTrail_1 rfl ?_
  refine x_callq (q0 := 0) (As := [vi (a)]) (st := []) G hT K_X7_69 (c_requireFork l hst hd hR hY a (by first | assumption | omega)) rfl rfl rfl (xrm_ok (by decide) (by decide)) ⟨Nat.le_of_ble_eq_true rfl, Nat.le_of_ble_eq_true rfl⟩ ⟨Nat.le_of_ble_eq_true rfl, Nat.le_of_ble_eq_true rfl⟩ (Nat.le_of_ble_eq_true rfl) dX7_firstTrail_2 (fun E hE => ?_) (fun q2 => ?_)
  · obtain ⟨rfl, hn⟩ := hE
    exact Or.inl ⟨rfl, by unfold kcFT; (repeat' split) <;> omega⟩
  refine i_aload_n G dX7_firstTrail_5 rfl ?_
  refine i_iload_n G dX7_firstTrail_6 rfl ?_
  refine x_callq (q0 := 0) (As := [vi (b)]) (st := []) G hT K_X7_69 (c_requireFork l hst hd hR hY b (by first | assumption | omega)) rfl rfl rfl (xrm_ok (by decide) (by decide)) ⟨Nat.le_of_ble_eq_true rfl, Nat.le_of_ble_eq_true rfl⟩ ⟨Nat.le_of_ble_eq_true rfl, Nat.le_of_ble_eq_true rfl⟩ (Nat.le_of_ble_eq_true rfl) dX7_firstTrail_7 (fun E hE => ?_) (fun q7 => ?_)
  · obtain ⟨rfl, hn⟩ := hE
    exact Or.inl ⟨rfl, by unfold kcFT; (repeat' split) <;> omega⟩
  refine i_aload_n G dX7_firstTrail_10 rfl ?_
  refine i_getr G F_X7_10 0 rfl rfl dX7_firstTrail_11 ?_
  refine i_iload_n G dX7_firstTrail_14 rfl ?_
  refine i_iload_n G dX7_firstTrail_15 rfl ?_
  refine j_callE (q0 := 1) (As := [vi (a), vi (b)]) (st := []) G K_X7_120 (d_trail l hd hR hY hI_z_y a b (by first | assumption | omega) (by first | assumption | omega)) rfl rfl rfl (rm_okX (by decide) (by decide)) ⟨Nat.le_of_ble_eq_true rfl, Nat.le_of_ble_eq_true rfl⟩ (Nat.le_of_ble_eq_true rfl) dX7_firstTrail_16 ?_
  have b16 : -1 ≤ (nxt z a b) ∧ (nxt z a b) < z 1 0 := nxtF_in hR _ _ _
  refine i_istore_n (L' := [some (.ref (ad 0)), some (vi (a)), some (vi (b)), some (vi ((nxt z a b)))]) G dX7_firstTrail_19 (by decide) rfl ?_
  refine i_iload_n G dX7_firstTrail_20 rfl ?_
  refine i_iconst G dX7_firstTrail_21 ?_
  refine i_icmp_ne (tgt := 35) G dX7_firstTrail_22 (by decide) (by omega) (by omega) (fun h22 => ?_) (fun h22 => ?_)
  · skip
    refine i_iload_n G dX7_firstTrail_35 rfl ?_
    refine x_reti G hr ⟨Nat.le_of_ble_eq_true rfl, Nat.le_of_ble_eq_true rfl⟩ dX7_firstTrail_36 ?_
    exact ⟨by unfold kcFT; (repeat' split) <;> omega, rfl, rfl, rfl⟩
  · skip
    refine x_throwN (text := "no first trail") G hT hst (by decide +kernel) dX7_firstTrail_25 dX7_firstTrail_28 dX7_firstTrail_29 dX7_firstTrail_31 dX7_firstTrail_34 ⟨Nat.le_of_ble_eq_true rfl, Nat.le_of_ble_eq_true rfl, Nat.le_of_ble_eq_true rfl, Nat.le_of_ble_eq_true rfl⟩ ⟨Nat.le_of_ble_eq_true rfl, Nat.le_of_ble_eq_true rfl⟩ rfl ?_
    exact Or.inr (⟨rfl, by unfold kcFT; (repeat' split) <;> omega⟩)
set_option maxHeartbeats 4000000 in
set_option maxRecDepth 100000 in
theorem c_isGone_0 (l : Launch) (hst : l.stackTraces = false) {D : va_G} {aC : Nat → ClassId} {ad : Nat → Nat} (hd : wDi ad shC) {z y : wZ} (hR : Rng z) (hY : Rng y) (hI_z_y : CW z y) (t : Int) (ht : -2147483648 ≤ t ∧ t ≤ 2147483647) : xMi l D aC ad shC yX7_isGone cX7_isGone 3 (.boolean) (rmX 7 1 6) [.ref (ad 0), vi t, vi 0] z y (fun r_ z2 y2 => kcT z t = 0 ∧ r_ = z 16 t ∧ z2 = z ∧ y2 = y) (fun E => (E = eIOB ∧ kcT z t = 1)) 1 6 := by
  refine x_i [some (.ref (ad 0)), some (vi (t)), some (vi (0))] (by decide +kernel) rfl (Nat.le_of_ble_eq_true rfl) rfl hd ?_
  intro p e s m args below meth c A G hr hT
  have q1 : 0 ≤ z 1 0 ∧ z 1 0 ≤ 24 := hR 1 0
  refine i_aload_n G dX7_isGone_0 rfl ?_
  refine i_iload_n G dX7_isGone_1 rfl ?_
  refine x_callq (q0 := 0) (As := [vi (t)]) (st := []) G hT K_X7_90 (c_requireTrail l hst hd hR hY t (by first | assumption | omega)) rfl rfl rfl (xrm_ok (by decide) (by decide)) ⟨Nat.le_of_ble_eq_true rfl, Nat.le_of_ble_eq_true rfl⟩ ⟨Nat.le_of_ble_eq_true rfl, Nat.le_of_ble_eq_true rfl⟩ (Nat.le_of_ble_eq_true rfl) dX7_isGone_2 (fun E hE => ?_) (fun q2 => ?_)
  · obtain ⟨rfl, hn⟩ := hE
    exact ⟨rfl, by unfold kcT; (repeat' split) <;> omega⟩
  refine i_aload_n G dX7_isGone_5 rfl ?_
  refine i_getr G F_X7_10 0 rfl rfl dX7_isGone_6 ?_
  refine i_iload_n G dX7_isGone_9 rfl ?_
  refine j_callr (q0 := 1) (As := [vi (0)]) (st := []) G K_X7_106 (c_view_0 l hd hR hY  ) rfl rfl rfl (rm_okX (by decide) (by decide)) ⟨Nat.le_of_ble_eq_true rfl, Nat.le_of_ble_eq_true rfl⟩ (Nat.le_of_ble_eq_true rfl) dX7_isGone_10 ?_
  refine i_getr G F_X7_97 10 rfl rfl dX7_isGone_13 ?_
  refine i_iload_n G dX7_isGone_16 rfl ?_
  refine j_zald_z G 11 rfl (by decide) (by decide) (by omega) (by omega) dX7_isGone_17 ?_
  have b17 : 0 ≤ z 16 t ∧ z 16 t ≤ 1 := hR 16 _
  refine x_retz G hr (by omega) ⟨Nat.le_of_ble_eq_true rfl, Nat.le_of_ble_eq_true rfl⟩ dX7_isGone_18 ?_
  exact ⟨by unfold kcT; (repeat' split) <;> omega, rfl, rfl, rfl⟩
set_option maxHeartbeats 4000000 in
set_option maxRecDepth 100000 in
theorem c_minutes_0 (l : Launch) (hst : l.stackTraces = false) {D : va_G} {aC : Nat → ClassId} {ad : Nat → Nat} (hd : wDi ad shC) {z y : wZ} (hR : Rng z) (hY : Rng y) (hI_z_y : CW z y) (a : Int) (b : Int) (ha : -2147483648 ≤ a ∧ a ≤ 2147483647) (hb : -2147483648 ≤ b ∧ b ≤ 2147483647) : xMi l D aC ad shC yX7_minutes cX7_minutes 5 (.int) (rmX 7 3 18) [.ref (ad 0), vi a, vi b, vi 0] z y (fun r_ z2 y2 => kcMn z 16 a b = 0 ∧ r_ = ds z 16 a b ∧ z2 = z ∧ y2 = y) (fun E => (E = eIOB ∧ kcMn z 16 a b = 1) ∨ (E = eNSE ∧ kcMn z 16 a b = 2)) 3 18 := by
  refine x_i [some (.ref (ad 0)), some (vi (a)), some (vi (b)), some (vi (0)), none] (by decide +kernel) rfl (Nat.le_of_ble_eq_true rfl) rfl hd ?_
  intro p e s m args below meth c A G hr hT
  have q0 : 0 ≤ z 0 0 ∧ z 0 0 ≤ 16 := hR 0 0
  refine i_aload_n G dX7_minutes_0 rfl ?_
  refine i_iload_n G dX7_minutes_1 rfl ?_
  refine x_callq (q0 := 0) (As := [vi (a)]) (st := []) G hT K_X7_69 (c_requireFork l hst hd hR hY a (by first | assumption | omega)) rfl rfl rfl (xrm_ok (by decide) (by decide)) ⟨Nat.le_of_ble_eq_true rfl, Nat.le_of_ble_eq_true rfl⟩ ⟨Nat.le_of_ble_eq_true rfl, Nat.le_of_ble_eq_true rfl⟩ (Nat.le_of_ble_eq_true rfl) dX7_minutes_2 (fun E hE => ?_) (fun q2 => ?_)
  · obtain ⟨rfl, hn⟩ := hE
    exact Or.inl ⟨rfl, by unfold kcMn; (repeat' split) <;> omega⟩
  refine i_aload_n G dX7_minutes_5 rfl ?_
  refine i_iload_n G dX7_minutes_6 rfl ?_
  refine x_callq (q0 := 0) (As := [vi (b)]) (st := []) G hT K_X7_69 (c_requireFork l hst hd hR hY b (by first | assumption | omega)) rfl rfl rfl (xrm_ok (by decide) (by decide)) ⟨Nat.le_of_ble_eq_true rfl, Nat.le_of_ble_eq_true rfl⟩ ⟨Nat.le_of_ble_eq_true rfl, Nat.le_of_ble_eq_true rfl⟩ (Nat.le_of_ble_eq_true rfl) dX7_minutes_7 (fun E hE => ?_) (fun q7 => ?_)
  · obtain ⟨rfl, hn⟩ := hE
    exact Or.inl ⟨rfl, by unfold kcMn; (repeat' split) <;> omega⟩
  refine i_aload_n G dX7_minutes_10 rfl ?_
  refine i_getr G F_X7_10 0 rfl rfl dX7_minutes_11 ?_
  refine i_iload_n G dX7_minutes_14 rfl ?_
  refine j_callr (q0 := 1) (As := [vi (0)]) (st := []) G K_X7_106 (c_view_0 l hd hR hY  ) rfl rfl rfl (rm_okX (by decide) (by decide)) ⟨Nat.le_of_ble_eq_true rfl, Nat.le_of_ble_eq_true rfl⟩ (Nat.le_of_ble_eq_true rfl) dX7_minutes_15 ?_
  refine i_iload_n G dX7_minutes_18 rfl ?_
  refine i_iload_n G dX7_minutes_19 rfl ?_
  refine j_callE (q0 := 10) (As := [vi (a), vi (b)]) (st := []) G K_X7_110 (d_least_0 l hd hR hY hI_z_y a b (by first | assumption | omega) (by first | assumption | omega)) rfl rfl rfl (rm_okX (by decide) (by decide)) ⟨Nat.le_of_ble_eq_true rfl, Nat.le_of_ble_eq_true rfl⟩ (Nat.le_of_ble_eq_true rfl) dX7_minutes_20 ?_
  have b20 : 0 ≤ (ds z 16 a b) ∧ (ds z 16 a b) ≤ 1000000 := ds_in hI_z_y.1.1 hR _ _ _
  refine i_istore (L' := [some (.ref (ad 0)), some (vi (a)), some (vi (b)), some (vi (0)), some (vi ((ds z 16 a b)))]) G dX7_minutes_23 (by decide) rfl ?_
  refine i_iload G dX7_minutes_25 rfl ?_
  refine i_ldc G 1000000 kc_X7_114 dX7_minutes_27 ?_
  refine i_icmp_lt (tgt := 42) G dX7_minutes_29 (by decide) (by omega) (by omega) (fun h29 => ?_) (fun h29 => ?_)
  · skip
    refine i_iload G dX7_minutes_42 rfl ?_
    refine x_reti G hr ⟨Nat.le_of_ble_eq_true rfl, Nat.le_of_ble_eq_true rfl⟩ dX7_minutes_44 ?_
    exact ⟨by unfold kcMn; (repeat' split) <;> omega, rfl, rfl, rfl⟩
  · skip
    refine x_throwN (text := "no way") G hT hst (by decide +kernel) dX7_minutes_32 dX7_minutes_35 dX7_minutes_36 dX7_minutes_38 dX7_minutes_41 ⟨Nat.le_of_ble_eq_true rfl, Nat.le_of_ble_eq_true rfl, Nat.le_of_ble_eq_true rfl, Nat.le_of_ble_eq_true rfl⟩ ⟨Nat.le_of_ble_eq_true rfl, Nat.le_of_ble_eq_true rfl⟩ rfl ?_
    exact Or.inr (⟨rfl, by unfold kcMn; (repeat' split) <;> omega⟩)
set_option maxHeartbeats 4000000 in
set_option maxRecDepth 100000 in
theorem c_danger_0 (l : Launch) (hst : l.stackTraces = false) {D : va_G} {aC : Nat → ClassId} {ad : Nat → Nat} (hd : wDi ad shC) {z y : wZ} (hR : Rng z) (hY : Rng y) (hI_z_y : CW z y) (b : Int) (hb : -2147483648 ≤ b ∧ b ≤ 2147483647) : xMi l D aC ad shC yX7_danger cX7_danger 3 (.int) (rmX 7 1 6) [.ref (ad 0), vi b, vi 0] z y (fun r_ z2 y2 => kcB z b = 0 ∧ r_ = dgC z 16 (ds z 16) b ∧ z2 = z ∧ y2 = y) (fun E => (E = eIOB ∧ kcB z b = 1)) 1 6 := by
  refine x_i [some (.ref (ad 0)), some (vi (b)), some (vi (0))] (by decide +kernel) rfl (Nat.le_of_ble_eq_true rfl) rfl hd ?_
  intro p e s m args below meth c A G hr hT
  have q2 : 0 ≤ z 2 0 ∧ z 2 0 ≤ 30 := hR 2 0
  refine i_aload_n G dX7_danger_0 rfl ?_
  refine i_iload_n G dX7_danger_1 rfl ?_
  refine x_callq (q0 := 0) (As := [vi (b)]) (st := []) G hT K_X7_158 (c_requireBoard l hst hd hR hY b (by first | assumption | omega)) rfl rfl rfl (xrm_ok (by decide) (by decide)) ⟨Nat.le_of_ble_eq_true rfl, Nat.le_of_ble_eq_true rfl⟩ ⟨Nat.le_of_ble_eq_true rfl, Nat.le_of_ble_eq_true rfl⟩ (Nat.le_of_ble_eq_true rfl) dX7_danger_2 (fun E hE => ?_) (fun q2 => ?_)
  · obtain ⟨rfl, hn⟩ := hE
    exact ⟨rfl, by unfold kcB; (repeat' split) <;> omega⟩
  refine i_aload_n G dX7_danger_5 rfl ?_
  refine i_getr G F_X7_19 0 rfl rfl dX7_danger_6 ?_
  refine i_iload_n G dX7_danger_9 rfl ?_
  refine i_aload_n G dX7_danger_10 rfl ?_
  refine i_getr G F_X7_10 0 rfl rfl dX7_danger_11 ?_
  refine i_aload_n G dX7_danger_14 rfl ?_
  refine i_getr G F_X7_10 0 rfl rfl dX7_danger_15 ?_
  refine i_iload_n G dX7_danger_18 rfl ?_
  refine j_callr (q0 := 1) (As := [vi (0)]) (st := [.ref (ad 1), vi (b), .ref (ad 14)]) G K_X7_106 (c_view_0 l hd hR hY  ) rfl rfl rfl (rm_okX (by decide) (by decide)) ⟨Nat.le_of_ble_eq_true rfl, Nat.le_of_ble_eq_true rfl⟩ (Nat.le_of_ble_eq_true rfl) dX7_danger_19 ?_
  refine j_callE (q0 := 14) (As := [vi (b), .ref (ad 1), .ref (ad 10)]) (st := []) G K_X7_170 (d_danger_0 l hd hR hY hI_z_y b (by first | assumption | omega)) rfl rfl rfl (rm_okX (by decide) (by decide)) ⟨Nat.le_of_ble_eq_true rfl, Nat.le_of_ble_eq_true rfl⟩ (Nat.le_of_ble_eq_true rfl) dX7_danger_22 ?_
  have b22 : 0 ≤ (dgC z 16 (ds z 16) b) ∧ (dgC z 16 (ds z 16) b) ≤ 1000 := dgC_in _ _ _ _
  refine x_reti G hr ⟨Nat.le_of_ble_eq_true rfl, Nat.le_of_ble_eq_true rfl⟩ dX7_danger_25 ?_
  exact ⟨by unfold kcB; (repeat' split) <;> omega, rfl, rfl, rfl⟩
set_option maxHeartbeats 4000000 in
set_option maxRecDepth 100000 in
theorem c_isGone_1 (l : Launch) (hst : l.stackTraces = false) {D : va_G} {aC : Nat → ClassId} {ad : Nat → Nat} (hd : wDi ad shC) {z y : wZ} (hR : Rng z) (hY : Rng y) (hI_z_y : CW z y) (t : Int) (ht : -2147483648 ≤ t ∧ t ≤ 2147483647) : xMi l D aC ad shC yX7_isGone cX7_isGone 3 (.boolean) (rmX 7 1 6) [.ref (ad 0), vi t, vi 1] z y (fun r_ z2 y2 => kcT z t = 0 ∧ r_ = z 15 t ∧ z2 = z ∧ y2 = y) (fun E => (E = eIOB ∧ kcT z t = 1)) 1 6 := by
  refine x_i [some (.ref (ad 0)), some (vi (t)), some (vi (1))] (by decide +kernel) rfl (Nat.le_of_ble_eq_true rfl) rfl hd ?_
  intro p e s m args below meth c A G hr hT
  have q1 : 0 ≤ z 1 0 ∧ z 1 0 ≤ 24 := hR 1 0
  refine i_aload_n G dX7_isGone_0 rfl ?_
  refine i_iload_n G dX7_isGone_1 rfl ?_
  refine x_callq (q0 := 0) (As := [vi (t)]) (st := []) G hT K_X7_90 (c_requireTrail l hst hd hR hY t (by first | assumption | omega)) rfl rfl rfl (xrm_ok (by decide) (by decide)) ⟨Nat.le_of_ble_eq_true rfl, Nat.le_of_ble_eq_true rfl⟩ ⟨Nat.le_of_ble_eq_true rfl, Nat.le_of_ble_eq_true rfl⟩ (Nat.le_of_ble_eq_true rfl) dX7_isGone_2 (fun E hE => ?_) (fun q2 => ?_)
  · obtain ⟨rfl, hn⟩ := hE
    exact ⟨rfl, by unfold kcT; (repeat' split) <;> omega⟩
  refine i_aload_n G dX7_isGone_5 rfl ?_
  refine i_getr G F_X7_10 0 rfl rfl dX7_isGone_6 ?_
  refine i_iload_n G dX7_isGone_9 rfl ?_
  refine j_callr (q0 := 1) (As := [vi (1)]) (st := []) G K_X7_106 (c_view_1 l hd hR hY  ) rfl rfl rfl (rm_okX (by decide) (by decide)) ⟨Nat.le_of_ble_eq_true rfl, Nat.le_of_ble_eq_true rfl⟩ (Nat.le_of_ble_eq_true rfl) dX7_isGone_10 ?_
  refine i_getr G F_X7_97 7 rfl rfl dX7_isGone_13 ?_
  refine i_iload_n G dX7_isGone_16 rfl ?_
  refine j_zald_z G 8 rfl (by decide) (by decide) (by omega) (by omega) dX7_isGone_17 ?_
  have b17 : 0 ≤ z 15 t ∧ z 15 t ≤ 1 := hR 15 _
  refine x_retz G hr (by omega) ⟨Nat.le_of_ble_eq_true rfl, Nat.le_of_ble_eq_true rfl⟩ dX7_isGone_18 ?_
  exact ⟨by unfold kcT; (repeat' split) <;> omega, rfl, rfl, rfl⟩
set_option maxHeartbeats 4000000 in
set_option maxRecDepth 100000 in
theorem c_minutes_1 (l : Launch) (hst : l.stackTraces = false) {D : va_G} {aC : Nat → ClassId} {ad : Nat → Nat} (hd : wDi ad shC) {z y : wZ} (hR : Rng z) (hY : Rng y) (hI_z_y : CW z y) (a : Int) (b : Int) (ha : -2147483648 ≤ a ∧ a ≤ 2147483647) (hb : -2147483648 ≤ b ∧ b ≤ 2147483647) : xMi l D aC ad shC yX7_minutes cX7_minutes 5 (.int) (rmX 7 3 18) [.ref (ad 0), vi a, vi b, vi 1] z y (fun r_ z2 y2 => kcMn z 15 a b = 0 ∧ r_ = ds z 15 a b ∧ z2 = z ∧ y2 = y) (fun E => (E = eIOB ∧ kcMn z 15 a b = 1) ∨ (E = eNSE ∧ kcMn z 15 a b = 2)) 3 18 := by
  refine x_i [some (.ref (ad 0)), some (vi (a)), some (vi (b)), some (vi (1)), none] (by decide +kernel) rfl (Nat.le_of_ble_eq_true rfl) rfl hd ?_
  intro p e s m args below meth c A G hr hT
  have q0 : 0 ≤ z 0 0 ∧ z 0 0 ≤ 16 := hR 0 0
  refine i_aload_n G dX7_minutes_0 rfl ?_
  refine i_iload_n G dX7_minutes_1 rfl ?_
  refine x_callq (q0 := 0) (As := [vi (a)]) (st := []) G hT K_X7_69 (c_requireFork l hst hd hR hY a (by first | assumption | omega)) rfl rfl rfl (xrm_ok (by decide) (by decide)) ⟨Nat.le_of_ble_eq_true rfl, Nat.le_of_ble_eq_true rfl⟩ ⟨Nat.le_of_ble_eq_true rfl, Nat.le_of_ble_eq_true rfl⟩ (Nat.le_of_ble_eq_true rfl) dX7_minutes_2 (fun E hE => ?_) (fun q2 => ?_)
  · obtain ⟨rfl, hn⟩ := hE
    exact Or.inl ⟨rfl, by unfold kcMn; (repeat' split) <;> omega⟩
  refine i_aload_n G dX7_minutes_5 rfl ?_
  refine i_iload_n G dX7_minutes_6 rfl ?_
  refine x_callq (q0 := 0) (As := [vi (b)]) (st := []) G hT K_X7_69 (c_requireFork l hst hd hR hY b (by first | assumption | omega)) rfl rfl rfl (xrm_ok (by decide) (by decide)) ⟨Nat.le_of_ble_eq_true rfl, Nat.le_of_ble_eq_true rfl⟩ ⟨Nat.le_of_ble_eq_true rfl, Nat.le_of_ble_eq_true rfl⟩ (Nat.le_of_ble_eq_true rfl) dX7_minutes_7 (fun E hE => ?_) (fun q7 => ?_)
  · obtain ⟨rfl, hn⟩ := hE
    exact Or.inl ⟨rfl, by unfold kcMn; (repeat' split) <;> omega⟩
  refine i_aload_n G dX7_minutes_10 rfl ?_
  refine i_getr G F_X7_10 0 rfl rfl dX7_minutes_11 ?_
  refine i_iload_n G dX7_minutes_14 rfl ?_
  refine j_callr (q0 := 1) (As := [vi (1)]) (st := []) G K_X7_106 (c_view_1 l hd hR hY  ) rfl rfl rfl (rm_okX (by decide) (by decide)) ⟨Nat.le_of_ble_eq_true rfl, Nat.le_of_ble_eq_true rfl⟩ (Nat.le_of_ble_eq_true rfl) dX7_minutes_15 ?_
  refine i_iload_n G dX7_minutes_18 rfl ?_
  refine i_iload_n G dX7_minutes_19 rfl ?_
  refine j_callE (q0 := 7) (As := [vi (a), vi (b)]) (st := []) G K_X7_110 (d_least_1 l hd hR hY hI_z_y a b (by first | assumption | omega) (by first | assumption | omega)) rfl rfl rfl (rm_okX (by decide) (by decide)) ⟨Nat.le_of_ble_eq_true rfl, Nat.le_of_ble_eq_true rfl⟩ (Nat.le_of_ble_eq_true rfl) dX7_minutes_20 ?_
  have b20 : 0 ≤ (ds z 15 a b) ∧ (ds z 15 a b) ≤ 1000000 := ds_in hI_z_y.1.1 hR _ _ _
  refine i_istore (L' := [some (.ref (ad 0)), some (vi (a)), some (vi (b)), some (vi (1)), some (vi ((ds z 15 a b)))]) G dX7_minutes_23 (by decide) rfl ?_
  refine i_iload G dX7_minutes_25 rfl ?_
  refine i_ldc G 1000000 kc_X7_114 dX7_minutes_27 ?_
  refine i_icmp_lt (tgt := 42) G dX7_minutes_29 (by decide) (by omega) (by omega) (fun h29 => ?_) (fun h29 => ?_)
  · skip
    refine i_iload G dX7_minutes_42 rfl ?_
    refine x_reti G hr ⟨Nat.le_of_ble_eq_true rfl, Nat.le_of_ble_eq_true rfl⟩ dX7_minutes_44 ?_
    exact ⟨by unfold kcMn; (repeat' split) <;> omega, rfl, rfl, rfl⟩
  · skip
    refine x_throwN (text := "no way") G hT hst (by decide +kernel) dX7_minutes_32 dX7_minutes_35 dX7_minutes_36 dX7_minutes_38 dX7_minutes_41 ⟨Nat.le_of_ble_eq_true rfl, Nat.le_of_ble_eq_true rfl, Nat.le_of_ble_eq_true rfl, Nat.le_of_ble_eq_true rfl⟩ ⟨Nat.le_of_ble_eq_true rfl, Nat.le_of_ble_eq_true rfl⟩ rfl ?_
    exact Or.inr (⟨rfl, by unfold kcMn; (repeat' split) <;> omega⟩)
set_option maxHeartbeats 4000000 in
set_option maxRecDepth 100000 in
theorem c_danger_1 (l : Launch) (hst : l.stackTraces = false) {D : va_G} {aC : Nat → ClassId} {ad : Nat → Nat} (hd : wDi ad shC) {z y : wZ} (hR : Rng z) (hY : Rng y) (hI_z_y : CW z y) (b : Int) (hb : -2147483648 ≤ b ∧ b ≤ 2147483647) : xMi l D aC ad shC yX7_danger cX7_danger 3 (.int) (rmX 7 1 6) [.ref (ad 0), vi b, vi 1] z y (fun r_ z2 y2 => kcB z b = 0 ∧ r_ = dgC z 15 (ds z 15) b ∧ z2 = z ∧ y2 = y) (fun E => (E = eIOB ∧ kcB z b = 1)) 1 6 := by
  refine x_i [some (.ref (ad 0)), some (vi (b)), some (vi (1))] (by decide +kernel) rfl (Nat.le_of_ble_eq_true rfl) rfl hd ?_
  intro p e s m args below meth c A G hr hT
  have q2 : 0 ≤ z 2 0 ∧ z 2 0 ≤ 30 := hR 2 0
  refine i_aload_n G dX7_danger_0 rfl ?_
  refine i_iload_n G dX7_danger_1 rfl ?_
  refine x_callq (q0 := 0) (As := [vi (b)]) (st := []) G hT K_X7_158 (c_requireBoard l hst hd hR hY b (by first | assumption | omega)) rfl rfl rfl (xrm_ok (by decide) (by decide)) ⟨Nat.le_of_ble_eq_true rfl, Nat.le_of_ble_eq_true rfl⟩ ⟨Nat.le_of_ble_eq_true rfl, Nat.le_of_ble_eq_true rfl⟩ (Nat.le_of_ble_eq_true rfl) dX7_danger_2 (fun E hE => ?_) (fun q2 => ?_)
  · obtain ⟨rfl, hn⟩ := hE
    exact ⟨rfl, by unfold kcB; (repeat' split) <;> omega⟩
  refine i_aload_n G dX7_danger_5 rfl ?_
  refine i_getr G F_X7_19 0 rfl rfl dX7_danger_6 ?_
  refine i_iload_n G dX7_danger_9 rfl ?_
  refine i_aload_n G dX7_danger_10 rfl ?_
  refine i_getr G F_X7_10 0 rfl rfl dX7_danger_11 ?_
  refine i_aload_n G dX7_danger_14 rfl ?_
  refine i_getr G F_X7_10 0 rfl rfl dX7_danger_15 ?_
  refine i_iload_n G dX7_danger_18 rfl ?_
  refine j_callr (q0 := 1) (As := [vi (1)]) (st := [.ref (ad 1), vi (b), .ref (ad 14)]) G K_X7_106 (c_view_1 l hd hR hY  ) rfl rfl rfl (rm_okX (by decide) (by decide)) ⟨Nat.le_of_ble_eq_true rfl, Nat.le_of_ble_eq_true rfl⟩ (Nat.le_of_ble_eq_true rfl) dX7_danger_19 ?_
  refine j_callE (q0 := 14) (As := [vi (b), .ref (ad 1), .ref (ad 7)]) (st := []) G K_X7_170 (d_danger_1 l hd hR hY hI_z_y b (by first | assumption | omega)) rfl rfl rfl (rm_okX (by decide) (by decide)) ⟨Nat.le_of_ble_eq_true rfl, Nat.le_of_ble_eq_true rfl⟩ (Nat.le_of_ble_eq_true rfl) dX7_danger_22 ?_
  have b22 : 0 ≤ (dgC z 15 (ds z 15) b) ∧ (dgC z 15 (ds z 15) b) ≤ 1000 := dgC_in _ _ _ _
  refine x_reti G hr ⟨Nat.le_of_ble_eq_true rfl, Nat.le_of_ble_eq_true rfl⟩ dX7_danger_25 ?_
  exact ⟨by unfold kcB; (repeat' split) <;> omega, rfl, rfl, rfl⟩
set_option maxHeartbeats 4000000 in
set_option maxRecDepth 100000 in
theorem c_addTrail (l : Launch) (hst : l.stackTraces = false) {D : va_G} {aC : Nat → ClassId} {ad : Nat → Nat} (hd : wDi ad shC) {z y : wZ} (hR : Rng z) (hY : Rng y) (hI_z_y : CW z y) (a : Int) (b : Int) (t : Int) (g : Int) (ha : -2147483648 ≤ a ∧ a ≤ 2147483647) (hb : -2147483648 ≤ b ∧ b ≤ 2147483647) (ht : -2147483648 ≤ t ∧ t ≤ 2147483647) (hg : -2147483648 ≤ g ∧ g ≤ 2147483647) : xMi l D aC ad shC yX7_addTrail cX7_addTrail 5 (.int) (rmX 7 5 30) [.ref (ad 0), vi a, vi b, vi t, vi g] z y (fun r_ z2 y2 => kcAT z a b t g = 0 ∧ r_ = z 1 0 ∧ z2 = jnF z a b t g ∧ Rng z2 ∧ Rng y2 ∧ CW z2 y2) (fun E => (E = eIOB ∧ kcAT z a b t g = 1) ∨ (E = eIAE ∧ kcAT z a b t g = 2) ∨ (E = eISE ∧ kcAT z a b t g = 3)) 5 30 := by
  refine x_i [some (.ref (ad 0)), some (vi (a)), some (vi (b)), some (vi (t)), some (vi (g))] (by decide +kernel) rfl (Nat.le_of_ble_eq_true rfl) rfl hd ?_
  intro p e s m args below meth c A G hr hT
  have q0 : 0 ≤ z 0 0 ∧ z 0 0 ≤ 16 := hR 0 0
  have q1 : 0 ≤ z 1 0 ∧ z 1 0 ≤ 24 := hR 1 0
  have hW := hI_z_y.1.1
  refine i_aload_n G dX7_addTrail_0 rfl ?_
  refine i_iload_n G dX7_addTrail_1 rfl ?_
  refine x_callq (q0 := 0) (As := [vi (a)]) (st := []) G hT K_X7_69 (c_requireFork l hst hd hR hY a (by first | assumption | omega)) rfl rfl rfl (xrm_ok (by decide) (by decide)) ⟨Nat.le_of_ble_eq_true rfl, Nat.le_of_ble_eq_true rfl⟩ ⟨Nat.le_of_ble_eq_true rfl, Nat.le_of_ble_eq_true rfl⟩ (Nat.le_of_ble_eq_true rfl) dX7_addTrail_2 (fun E hE => ?_) (fun q2 => ?_)
  · obtain ⟨rfl, hn⟩ := hE
    exact Or.inl ⟨rfl, by unfold kcAT; (repeat' split) <;> omega⟩
  refine i_aload_n G dX7_addTrail_5 rfl ?_
  refine i_iload_n G dX7_addTrail_6 rfl ?_
  refine x_callq (q0 := 0) (As := [vi (b)]) (st := []) G hT K_X7_69 (c_requireFork l hst hd hR hY b (by first | assumption | omega)) rfl rfl rfl (xrm_ok (by decide) (by decide)) ⟨Nat.le_of_ble_eq_true rfl, Nat.le_of_ble_eq_true rfl⟩ ⟨Nat.le_of_ble_eq_true rfl, Nat.le_of_ble_eq_true rfl⟩ (Nat.le_of_ble_eq_true rfl) dX7_addTrail_7 (fun E hE => ?_) (fun q7 => ?_)
  · obtain ⟨rfl, hn⟩ := hE
    exact Or.inl ⟨rfl, by unfold kcAT; (repeat' split) <;> omega⟩
  refine i_iload_n G dX7_addTrail_10 rfl ?_
  refine i_iload_n G dX7_addTrail_11 rfl ?_
  refine i_icmp_ne (tgt := 25) G dX7_addTrail_12 (by decide) (by omega) (by omega) (fun h12 => ?_) (fun h12 => ?_)
  · skip
    refine i_aload_n G dX7_addTrail_25 rfl ?_
    refine i_iload_n G dX7_addTrail_26 rfl ?_
    refine x_callq (q0 := 0) (As := [vi (t)]) (st := []) G hT K_X7_78 (c_requireTrailMinutes l hst hd hR hY t (by first | assumption | omega)) rfl rfl rfl (xrm_ok (by decide) (by decide)) ⟨Nat.le_of_ble_eq_true rfl, Nat.le_of_ble_eq_true rfl⟩ ⟨Nat.le_of_ble_eq_true rfl, Nat.le_of_ble_eq_true rfl⟩ (Nat.le_of_ble_eq_true rfl) dX7_addTrail_27 (fun E hE => ?_) (fun q27 => ?_)
    · obtain ⟨rfl, hn⟩ := hE
      exact Or.inr (Or.inl ⟨rfl, by unfold kcAT; (repeat' split) <;> omega⟩)
    refine i_aload_n G dX7_addTrail_30 rfl ?_
    refine i_iload G dX7_addTrail_31 rfl ?_
    refine x_callq (q0 := 0) (As := [vi (g)]) (st := []) G hT K_X7_78 (c_requireTrailMinutes l hst hd hR hY g (by first | assumption | omega)) rfl rfl rfl (xrm_ok (by decide) (by decide)) ⟨Nat.le_of_ble_eq_true rfl, Nat.le_of_ble_eq_true rfl⟩ ⟨Nat.le_of_ble_eq_true rfl, Nat.le_of_ble_eq_true rfl⟩ (Nat.le_of_ble_eq_true rfl) dX7_addTrail_33 (fun E hE => ?_) (fun q33 => ?_)
    · obtain ⟨rfl, hn⟩ := hE
      exact Or.inr (Or.inl ⟨rfl, by unfold kcAT; (repeat' split) <;> omega⟩)
    refine i_aload_n G dX7_addTrail_36 rfl ?_
    refine i_getr G F_X7_10 0 rfl rfl dX7_addTrail_37 ?_
    refine j_getz G F_X7_81 1 rfl rfl (by decide) dX7_addTrail_40 ?_
    have b40 : 0 ≤ z 1 0 ∧ z 1 0 ≤ 24 := hR 1 _
    refine i_bipush G dX7_addTrail_43 (by decide) ?_
    refine i_icmp_lt (tgt := 58) G dX7_addTrail_45 (by decide) (by omega) (by omega) (fun h45 => ?_) (fun h45 => ?_)
    · skip
      refine i_aload_n G dX7_addTrail_58 rfl ?_
      refine i_getr G F_X7_10 0 rfl rfl dX7_addTrail_59 ?_
      refine i_iload_n G dX7_addTrail_62 rfl ?_
      refine i_iload_n G dX7_addTrail_63 rfl ?_
      refine i_iload_n G dX7_addTrail_64 rfl ?_
      refine i_iload G dX7_addTrail_65 rfl ?_
      refine j_calli (q0 := 1) (As := [vi (a), vi (b), vi (t), vi (g)]) (st := []) G K_X7_86 (c_join l hd hR hY a b t g (by first | assumption | omega) (by first | assumption | omega) (by first | assumption | omega) (by first | assumption | omega) (by first | assumption | omega) (by first | assumption | omega) (by first | assumption | omega)) rfl rfl rfl (rm_okX (by decide) (by decide)) ⟨Nat.le_of_ble_eq_true rfl, Nat.le_of_ble_eq_true rfl⟩ (Nat.le_of_ble_eq_true rfl) dX7_addTrail_67 (fun r67 z67 y67 q67 => ?_)
      obtain ⟨er67, ez67, hRz67, hRy67, ho67, hca67, hcb67⟩ := q67
      refine x_reti G hr ⟨Nat.le_of_ble_eq_true rfl, Nat.le_of_ble_eq_true rfl⟩ dX7_addTrail_70 ?_
      refine ⟨by unfold kcAT; (repeat' split) <;> omega, by omega, ez67, hRz67, hRy67, ?_⟩
      have h9 := WF_jn (a := a) (b := b) (f := t) (r := g) hI_z_y.1 hR (by omega) (by omega) (by omega) (by omega) (by omega)
      rw [← ez67] at h9
      exact ⟨h9, hca67, hcb67⟩
    · skip
      refine x_throw (text := "no room for a trail") G hT hst XF_ISE (by decide +kernel) dX7_addTrail_48 dX7_addTrail_51 dX7_addTrail_52 dX7_addTrail_54 dX7_addTrail_57 ⟨Nat.le_of_ble_eq_true rfl, Nat.le_of_ble_eq_true rfl, Nat.le_of_ble_eq_true rfl, Nat.le_of_ble_eq_true rfl⟩ ⟨Nat.le_of_ble_eq_true rfl, Nat.le_of_ble_eq_true rfl⟩ rfl ?_
      exact Or.inr (Or.inr (⟨rfl, by unfold kcAT; (repeat' split) <;> omega⟩))
  · skip
    refine x_throw (text := "a trail needs two forks") G hT hst XF_IAE (by decide +kernel) dX7_addTrail_15 dX7_addTrail_18 dX7_addTrail_19 dX7_addTrail_21 dX7_addTrail_24 ⟨Nat.le_of_ble_eq_true rfl, Nat.le_of_ble_eq_true rfl, Nat.le_of_ble_eq_true rfl, Nat.le_of_ble_eq_true rfl⟩ ⟨Nat.le_of_ble_eq_true rfl, Nat.le_of_ble_eq_true rfl⟩ rfl ?_
    exact Or.inr (Or.inl ⟨rfl, by unfold kcAT; (repeat' split) <;> omega⟩)
set_option maxHeartbeats 4000000 in
set_option maxRecDepth 100000 in
theorem c_washOut (l : Launch) (hst : l.stackTraces = false) {D : va_G} {aC : Nat → ClassId} {ad : Nat → Nat} (hd : wDi ad shC) {z y : wZ} (hR : Rng z) (hY : Rng y) (hI_z_y : CW z y) (t : Int) (ht : -2147483648 ≤ t ∧ t ≤ 2147483647) : xMi l D aC ad shC yX7_washOut cX7_washOut 3 (.boolean) (rmX 7 1 6) [.ref (ad 0), vi t] z y (fun r_ z2 y2 => kcT z t = 0 ∧ r_ = 1 - z 15 t ∧ z2 = zp z 15 t 1 ∧ Rng z2 ∧ Rng y2 ∧ CW z2 y2) (fun E => (E = eIOB ∧ kcT z t = 1)) 1 6 := by
  refine x_i [some (.ref (ad 0)), some (vi (t)), none] (by decide +kernel) rfl (Nat.le_of_ble_eq_true rfl) rfl hd ?_
  intro p e s m args below meth c A G hr hT
  have q1 : 0 ≤ z 1 0 ∧ z 1 0 ≤ 24 := hR 1 0
  have hW := hI_z_y.1.1
  have hC := hI_z_y.2.1
  refine i_aload_n G dX7_washOut_0 rfl ?_
  refine i_iload_n G dX7_washOut_1 rfl ?_
  refine x_callq (q0 := 0) (As := [vi (t)]) (st := []) G hT K_X7_90 (c_requireTrail l hst hd hR hY t (by first | assumption | omega)) rfl rfl rfl (xrm_ok (by decide) (by decide)) ⟨Nat.le_of_ble_eq_true rfl, Nat.le_of_ble_eq_true rfl⟩ ⟨Nat.le_of_ble_eq_true rfl, Nat.le_of_ble_eq_true rfl⟩ (Nat.le_of_ble_eq_true rfl) dX7_washOut_2 (fun E hE => ?_) (fun q2 => ?_)
  · obtain ⟨rfl, hn⟩ := hE
    exact ⟨rfl, by unfold kcT; (repeat' split) <;> omega⟩
  refine i_aload_n G dX7_washOut_5 rfl ?_
  refine i_getr G F_X7_10 0 rfl rfl dX7_washOut_6 ?_
  refine i_getr G F_X7_93 1 rfl rfl dX7_washOut_9 ?_
  refine i_getr G F_X7_97 7 rfl rfl dX7_washOut_12 ?_
  refine i_iload_n G dX7_washOut_15 rfl ?_
  refine j_zald_z G 8 rfl (by decide) (by decide) (by omega) (by omega) dX7_washOut_16 ?_
  have b16 : 0 ≤ z 15 t ∧ z 15 t ≤ 1 := hR 15 _
  refine i_if_ne (tgt := 24) G dX7_washOut_17 (by decide) (by omega) (fun h17 => ?_) (fun h17 => ?_)
  · skip
    refine i_iconst G dX7_washOut_24 ?_
    refine i_istore_n (L' := [some (.ref (ad 0)), some (vi (t)), some (vi (0))]) G dX7_washOut_25 (by decide) rfl ?_
    refine i_aload_n G dX7_washOut_26 rfl ?_
    refine i_getr G F_X7_10 0 rfl rfl dX7_washOut_27 ?_
    refine i_aload_n G dX7_washOut_30 rfl ?_
    refine i_getr G F_X7_10 0 rfl rfl dX7_washOut_31 ?_
    refine i_getr G F_X7_93 1 rfl rfl dX7_washOut_34 ?_
    refine i_iload_n G dX7_washOut_37 rfl ?_
    refine i_iconst G dX7_washOut_38 ?_
    refine j_callv (q0 := 1) (As := [.ref (ad 7), vi (t), vi (1)]) (st := []) G K_X7_102 (c_setGone_1 l hd hR hY t 1 (by first | assumption | omega) (by first | assumption | omega) (by first | assumption | omega) (by first | assumption | omega)) rfl rfl rfl (rm_okX (by decide) (by decide)) ⟨Nat.le_of_ble_eq_true rfl, Nat.le_of_ble_eq_true rfl⟩ (Nat.le_of_ble_eq_true rfl) dX7_washOut_39 (fun z39 y39 q39 => ?_)
    obtain ⟨ez39, hRz39, hRy39, ho39, hc39⟩ := q39
    refine i_iload_n G dX7_washOut_42 rfl ?_
    refine x_retz G hr (by omega) ⟨Nat.le_of_ble_eq_true rfl, Nat.le_of_ble_eq_true rfl⟩ dX7_washOut_43 ?_
    refine ⟨by unfold kcT; (repeat' split) <;> omega, by omega, ez39, hRz39, hRy39, WF_congr hI_z_y.1 (fun k _ _ _ h15 _ _ _ _ _ _ _ _ => by rw [ez39, zp_nk _ h15]), hc39, CIv_y (CIv_congr hI_z_y.2.2 (fun i hi => by rw [ez39, zp_nk _ (by omega)])) (ho39 65 (by decide))⟩
  · skip
    refine i_iconst G dX7_washOut_20 ?_
    refine i_goto (tgt := 25) G dX7_washOut_21 (by decide) ?_
    refine i_istore_n (L' := [some (.ref (ad 0)), some (vi (t)), some (vi (1))]) G dX7_washOut_25 (by decide) rfl ?_
    refine i_aload_n G dX7_washOut_26 rfl ?_
    refine i_getr G F_X7_10 0 rfl rfl dX7_washOut_27 ?_
    refine i_aload_n G dX7_washOut_30 rfl ?_
    refine i_getr G F_X7_10 0 rfl rfl dX7_washOut_31 ?_
    refine i_getr G F_X7_93 1 rfl rfl dX7_washOut_34 ?_
    refine i_iload_n G dX7_washOut_37 rfl ?_
    refine i_iconst G dX7_washOut_38 ?_
    refine j_callv (q0 := 1) (As := [.ref (ad 7), vi (t), vi (1)]) (st := []) G K_X7_102 (c_setGone_1 l hd hR hY t 1 (by first | assumption | omega) (by first | assumption | omega) (by first | assumption | omega) (by first | assumption | omega)) rfl rfl rfl (rm_okX (by decide) (by decide)) ⟨Nat.le_of_ble_eq_true rfl, Nat.le_of_ble_eq_true rfl⟩ (Nat.le_of_ble_eq_true rfl) dX7_washOut_39 (fun z39 y39 q39 => ?_)
    obtain ⟨ez39, hRz39, hRy39, ho39, hc39⟩ := q39
    refine i_iload_n G dX7_washOut_42 rfl ?_
    refine x_retz G hr (by omega) ⟨Nat.le_of_ble_eq_true rfl, Nat.le_of_ble_eq_true rfl⟩ dX7_washOut_43 ?_
    refine ⟨by unfold kcT; (repeat' split) <;> omega, by omega, ez39, hRz39, hRy39, WF_congr hI_z_y.1 (fun k _ _ _ h15 _ _ _ _ _ _ _ _ => by rw [ez39, zp_nk _ h15]), hc39, CIv_y (CIv_congr hI_z_y.2.2 (fun i hi => by rw [ez39, zp_nk _ (by omega)])) (ho39 65 (by decide))⟩
set_option maxHeartbeats 4000000 in
set_option maxRecDepth 100000 in
theorem c_addWood (l : Launch) (hst : l.stackTraces = false) {D : va_G} {aC : Nat → ClassId} {ad : Nat → Nat} (hd : wDi ad shC) {z y : wZ} (hR : Rng z) (hY : Rng y) (hI_z_y : CW z y) (v : Int) (hv : -2147483648 ≤ v ∧ v ≤ 2147483647) (hwd : z 6 0 ≤ 59900) : xMi l D aC ad shC yX7_addWood cX7_addWood 2 (.int) (rmX 6 1 6) [.ref (ad 0), vi v] z y (fun r_ z2 y2 => kcAW v = 0 ∧ r_ = z 6 0 + v ∧ z2 = zp z 6 0 (z 6 0 + v) ∧ Rng z2 ∧ Rng y2 ∧ CW z2 y2) (fun E => (E = eIAE ∧ kcAW v = 1)) 1 6 := by
  refine x_i [some (.ref (ad 0)), some (vi (v))] (by decide +kernel) rfl (Nat.le_of_ble_eq_true rfl) rfl hd ?_
  intro p e s m args below meth c A G hr hT
  have q6 : 0 ≤ z 6 0 ∧ z 6 0 ≤ 60000 := hR 6 0
  refine i_iload_n G dX7_addWood_0 rfl ?_
  refine i_iconst G dX7_addWood_1 ?_
  refine i_icmp_lt (tgt := 11) G dX7_addWood_2 (by decide) (by omega) (by omega) (fun h2 => ?_) (fun h2 => ?_)
  · skip
    refine x_throw (text := "wood out of range") G hT hst XF_IAE (by decide +kernel) dX7_addWood_11 dX7_addWood_14 dX7_addWood_15 dX7_addWood_17 dX7_addWood_20 ⟨Nat.le_of_ble_eq_true rfl, Nat.le_of_ble_eq_true rfl, Nat.le_of_ble_eq_true rfl, Nat.le_of_ble_eq_true rfl⟩ ⟨Nat.le_of_ble_eq_true rfl, Nat.le_of_ble_eq_true rfl⟩ rfl ?_
    exact ⟨rfl, by unfold kcAW; (repeat' split) <;> omega⟩
  · skip
    refine i_iload_n G dX7_addWood_5 rfl ?_
    refine i_bipush G dX7_addWood_6 (by decide) ?_
    refine i_icmp_le (tgt := 21) G dX7_addWood_8 (by decide) (by omega) (by omega) (fun h8 => ?_) (fun h8 => ?_)
    · skip
      refine i_aload_n G dX7_addWood_21 rfl ?_
      refine i_getr G F_X7_19 0 rfl rfl dX7_addWood_22 ?_
      refine i_dup G rfl dX7_addWood_25 ?_
      refine j_getz G F_X7_127 14 rfl rfl (by decide) dX7_addWood_26 ?_
      have b26 : 0 ≤ z 6 0 ∧ z 6 0 ≤ 60000 := hR 6 _
      refine i_iload_n G dX7_addWood_29 rfl ?_
      refine i_iadd G dX7_addWood_30 ?_
      refine j_putz G P_X7_127 14 rfl rfl (by decide) (by decide) (by decide) hR (by show (0 : Int) ≤ _ ∧ _ ≤ (60000 : Int); omega) dX7_addWood_31 (fun z31 ez31 hRz31 => ?_)
      refine i_aload_n G dX7_addWood_34 rfl ?_
      refine i_getr G F_X7_19 0 rfl rfl dX7_addWood_35 ?_
      refine j_getz G F_X7_127 14 rfl rfl (by decide) dX7_addWood_38 ?_
      have b38 : 0 ≤ z31 6 0 ∧ z31 6 0 ≤ 60000 := hRz31 6 _
      refine x_reti G hr ⟨Nat.le_of_ble_eq_true rfl, Nat.le_of_ble_eq_true rfl⟩ dX7_addWood_41 ?_
      refine ⟨by unfold kcAW; (repeat' split) <;> omega, by rw [ez31, zp_same], ez31, hRz31, hY, ?_⟩
      rw [ez31]
      exact CW_k hI_z_y (WF_congr hI_z_y.1 (fun k h6 _ _ _ _ _ _ _ _ _ _ _ => by rw [zp_nk _ h6])) (fun i hi => by rw [zp_nk _ (by omega)])
    · skip
      refine x_throw (text := "wood out of range") G hT hst XF_IAE (by decide +kernel) dX7_addWood_11 dX7_addWood_14 dX7_addWood_15 dX7_addWood_17 dX7_addWood_20 ⟨Nat.le_of_ble_eq_true rfl, Nat.le_of_ble_eq_true rfl, Nat.le_of_ble_eq_true rfl, Nat.le_of_ble_eq_true rfl⟩ ⟨Nat.le_of_ble_eq_true rfl, Nat.le_of_ble_eq_true rfl⟩ rfl ?_
      exact ⟨rfl, by unfold kcAW; (repeat' split) <;> omega⟩
set_option maxHeartbeats 4000000 in
set_option maxRecDepth 100000 in
theorem c_putUpT (l : Launch) {D : va_G} {aC : Nat → ClassId} {ad : Nat → Nat} (hd : wDi ad shC) {z y : wZ} (hR : Rng z) (hY : Rng y) (b : Int) (hW : WT z) (hC : CIv z y 16 65) (hb : 0 ≤ b ∧ b ≤ 29) (hw : 1 ≤ z 6 0) (hne : z 17 b ≠ z 18 b) (hds : ds z 16 (z 17 b) (z 18 b) ≤ 300) : cZv l D aC ad shC yX7_putUp cX7_putUp 5 (rmL 3) [.ref (ad 0), vi b] z y (fun z' => z' = puF z b ∧ Rng z') := by
  refine c_v [some (.ref (ad 0)), some (vi (b)), none, none, none] (by decide +kernel) rfl (Nat.le_of_ble_eq_true rfl) rfl hd ?_
  intro p e s m args below meth c A G hr
  have hp := nxt_P hR (nxt_ex hW hR hne (by omega))
  have q17 : 0 ≤ z 17 b ∧ z 17 b ≤ 15 := hR 17 b
  have q18 : 0 ≤ z 18 b ∧ z 18 b ≤ 15 := hR 18 b
  have q1 : 0 ≤ z 1 0 ∧ z 1 0 ≤ 24 := hR 1 0
  have hq : y 65 (z 17 b * 16 + z 18 b) = ds z 16 (z 17 b) (z 18 b) := hC _ _ (by omega) (by omega) (by omega) (by omega)
  have hE : nxtF z (cD y 65) (z 17 b) (z 18 b) = nxt z (z 17 b) (z 18 b) := nxtF_cg hR q17 q18 hC
  refine i_aload_n G dX7_putUp_0 rfl ?_
  refine i_getr G F_X7_19 0 rfl rfl dX7_putUp_1 ?_
  refine i_getr G F_X7_148 14 rfl rfl dX7_putUp_4 ?_
  refine i_iload_n G dX7_putUp_7 rfl ?_
  refine j_iald_z G 15 rfl (by decide) (by decide) (by omega) (by omega) dX7_putUp_8 ?_
  have b8 : 0 ≤ z 17 b ∧ z 17 b ≤ 15 := hR 17 _
  refine i_istore_n (L' := [some (.ref (ad 0)), some (vi (b)), some (vi ((z 17 b))), none, none]) G dX7_putUp_9 (by decide) rfl ?_
  refine i_aload_n G dX7_putUp_10 rfl ?_
  refine i_getr G F_X7_19 0 rfl rfl dX7_putUp_11 ?_
  refine i_getr G F_X7_152 14 rfl rfl dX7_putUp_14 ?_
  refine i_iload_n G dX7_putUp_17 rfl ?_
  refine j_iald_z G 16 rfl (by decide) (by decide) (by omega) (by omega) dX7_putUp_18 ?_
  have b18 : 0 ≤ z 18 b ∧ z 18 b ≤ 15 := hR 18 _
  refine i_istore_n (L' := [some (.ref (ad 0)), some (vi (b)), some (vi ((z 17 b))), some (vi ((z 18 b))), none]) G dX7_putUp_19 (by decide) rfl ?_
  refine i_aload_n G dX7_putUp_20 rfl ?_
  refine i_getr G F_X7_10 0 rfl rfl dX7_putUp_21 ?_
  refine i_iload_n G dX7_putUp_24 rfl ?_
  refine i_iload_n G dX7_putUp_25 rfl ?_
  refine j_callE (q0 := 1) (As := [vi ((z 17 b)), vi ((z 18 b))]) (st := []) G K_X7_120 (c_trailTowards l hd hR hY (z 17 b) (z 18 b) (by omega) (by omega)) rfl rfl rfl (rm_ok (by decide) (by decide)) ⟨Nat.le_refl _, Nat.le_refl _⟩ (Nat.le_of_ble_eq_true rfl) dX7_putUp_26 ?_
  have b26 : -1 ≤ (nxtF z (cD y 65) (z 17 b) (z 18 b)) ∧ (nxtF z (cD y 65) (z 17 b) (z 18 b)) < z 1 0 := nxtF_in hR _ _ _
  refine i_istore (L' := [some (.ref (ad 0)), some (vi (b)), some (vi ((z 17 b))), some (vi ((z 18 b))), some (vi ((nxtF z (cD y 65) (z 17 b) (z 18 b))))]) G dX7_putUp_29 (by decide) rfl ?_
  refine i_iload G dX7_putUp_31 rfl ?_
  refine i_iconst G dX7_putUp_33 ?_
  refine i_icmp_eq (tgt := 48) G dX7_putUp_34 (by decide) (by omega) (by omega) (fun h34 => ?_) (fun h34 => ?_)
  · skip
    exfalso; omega
  · skip
    refine i_aload_n G dX7_putUp_37 rfl ?_
    refine i_getr G F_X7_19 0 rfl rfl dX7_putUp_38 ?_
    refine i_getr G F_X7_161 14 rfl rfl dX7_putUp_41 ?_
    refine i_iload_n G dX7_putUp_44 rfl ?_
    refine i_iload G dX7_putUp_45 rfl ?_
    refine j_iast_z G 17 rfl (by decide) (by decide) (by omega) (by omega) (by decide) hR (by show (0 : Int) ≤ _ ∧ _ ≤ (23 : Int); omega) dX7_putUp_47 (fun z47 ez47 hRz47 => ?_)
    refine i_aload_n G dX7_putUp_48 rfl ?_
    refine i_getr G F_X7_19 0 rfl rfl dX7_putUp_49 ?_
    refine i_getr G F_X7_164 14 rfl rfl dX7_putUp_52 ?_
    refine i_iload_n G dX7_putUp_55 rfl ?_
    refine i_aload_n G dX7_putUp_56 rfl ?_
    refine i_getr G F_X7_10 0 rfl rfl dX7_putUp_57 ?_
    refine i_getr G F_X7_181 1 rfl rfl dX7_putUp_60 ?_
    refine i_iload_n G dX7_putUp_63 rfl ?_
    refine i_iload_n G dX7_putUp_64 rfl ?_
    refine j_callE (q0 := 10) (As := [vi ((z 17 b)), vi ((z 18 b))]) (st := [vi (b), .ref (ad 18)]) G K_X7_110 (c_leastMinutes_0 l hd hRz47 hY (z 17 b) (z 18 b) (by omega) (by omega)) rfl rfl rfl (rm_ok (by decide) (by decide)) ⟨Nat.le_refl _, Nat.le_refl _⟩ (Nat.le_of_ble_eq_true rfl) dX7_putUp_65 ?_
    have b65 : 0 ≤ (y 65 ((z 17 b) * 16 + (z 18 b))) ∧ (y 65 ((z 17 b) * 16 + (z 18 b))) ≤ 1000000 := hY 65 _
    refine j_callsE (As := [vi ((y 65 ((z 17 b) * 16 + (z 18 b))))]) (st := [vi (b), .ref (ad 18)]) G K_X7_306 (c_roundUp l hd hRz47 hY (y 65 ((z 17 b) * 16 + (z 18 b))) (by first | assumption | omega)) rfl (rm_ok (by decide) (by decide)) ⟨Nat.le_refl _, Nat.le_refl _⟩ (Nat.le_of_ble_eq_true rfl) dX7_putUp_68 ?_
    refine j_iast_z G 18 rfl (by decide) (by decide) (by omega) (by omega) (by decide) hRz47 (by show (0 : Int) ≤ _ ∧ _ ≤ (300 : Int); have q9 := r5_in (m := y 65 (z 17 b * 16 + z 18 b)) (by omega); omega) dX7_putUp_71 (fun z71 ez71 hRz71 => ?_)
    refine i_aload_n G dX7_putUp_72 rfl ?_
    refine i_getr G F_X7_19 0 rfl rfl dX7_putUp_73 ?_
    refine i_getr G F_X7_167 14 rfl rfl dX7_putUp_76 ?_
    refine i_iload_n G dX7_putUp_79 rfl ?_
    refine i_iconst G dX7_putUp_80 ?_
    refine j_zast_z G 19 rfl (by decide) (by decide) (by omega) (by omega) (by omega) (by decide) hRz71 (by show (0 : Int) ≤ _ ∧ _ ≤ (1 : Int); omega) dX7_putUp_81 (fun z81 ez81 hRz81 => ?_)
    refine i_aload_n G dX7_putUp_82 rfl ?_
    refine i_getr G F_X7_19 0 rfl rfl dX7_putUp_83 ?_
    refine i_dup G rfl dX7_putUp_86 ?_
    refine j_getz G F_X7_127 14 rfl rfl (by decide) dX7_putUp_87 ?_
    have b87 : 0 ≤ z81 6 0 ∧ z81 6 0 ≤ 60000 := hRz81 6 _
    refine i_iconst G dX7_putUp_90 ?_
    refine i_isub G dX7_putUp_91 ?_
    refine j_putz G P_X7_127 14 rfl rfl (by decide) (by decide) (by decide) hRz81 (by show (0 : Int) ≤ _ ∧ _ ≤ (60000 : Int); have q6 : z81 6 0 = z 6 0 := (by rw [ez81, ez71, ez47]; rfl); omega) dX7_putUp_92 (fun z92 ez92 hRz92 => ?_)
    refine j_retv G hr dX7_putUp_95 ?_
    refine ⟨rfl, ?_, hRz92⟩
    subst_vars
    unfold puF
    rw [← hq, ← hE]
    rfl
set_option maxHeartbeats 4000000 in
set_option maxRecDepth 100000 in
theorem c_cut (l : Launch) (hst : l.stackTraces = false) {D : va_G} {aC : Nat → ClassId} {ad : Nat → Nat} (hd : wDi ad shC) {z y : wZ} (hR : Rng z) (hY : Rng y) (hI_z_y : CW z y) (f : Int) (q : Int) (hf : -2147483648 ≤ f ∧ f ≤ 2147483647) (hq : -2147483648 ≤ q ∧ q ≤ 2147483647) : xMi l D aC ad shC yX7_cut cX7_cut 4 (.int) (rmX 7 3 18) [.ref (ad 0), vi f, vi q] z y (fun r_ z2 y2 => kcCu z f q = 0 ∧ r_ = z 2 0 ∧ z2 = cuF z f q ∧ Rng z2 ∧ Rng y2 ∧ CW z2 y2) (fun E => (E = eIOB ∧ kcCu z f q = 1) ∨ (E = eIAE ∧ kcCu z f q = 2) ∨ (E = eNSE ∧ kcCu z f q = 3) ∨ (E = eUOE ∧ kcCu z f q = 4) ∨ (E = eISE ∧ kcCu z f q = 5)) 3 18 := by
  refine x_i [some (.ref (ad 0)), some (vi (f)), some (vi (q)), none] (by decide +kernel) rfl (Nat.le_of_ble_eq_true rfl) rfl hd ?_
  intro p e s m args below meth c A G hr hT
  have q0 : 0 ≤ z 0 0 ∧ z 0 0 ≤ 16 := hR 0 0
  have q2 : 0 ≤ z 2 0 ∧ z 2 0 ≤ 30 := hR 2 0
  have q6 : 0 ≤ z 6 0 ∧ z 6 0 ≤ 60000 := hR 6 0
  refine i_aload_n G dX7_cut_0 rfl ?_
  refine i_iload_n G dX7_cut_1 rfl ?_
  refine x_callq (q0 := 0) (As := [vi (f)]) (st := []) G hT K_X7_69 (c_requireFork l hst hd hR hY f (by first | assumption | omega)) rfl rfl rfl (xrm_ok (by decide) (by decide)) ⟨Nat.le_of_ble_eq_true rfl, Nat.le_of_ble_eq_true rfl⟩ ⟨Nat.le_of_ble_eq_true rfl, Nat.le_of_ble_eq_true rfl⟩ (Nat.le_of_ble_eq_true rfl) dX7_cut_2 (fun E hE => ?_) (fun q2 => ?_)
  · obtain ⟨rfl, hn⟩ := hE
    exact Or.inl ⟨rfl, by unfold kcCu; (repeat' split) <;> omega⟩
  refine i_aload_n G dX7_cut_5 rfl ?_
  refine i_iload_n G dX7_cut_6 rfl ?_
  refine x_callq (q0 := 0) (As := [vi (q)]) (st := []) G hT K_X7_69 (c_requireFork l hst hd hR hY q (by first | assumption | omega)) rfl rfl rfl (xrm_ok (by decide) (by decide)) ⟨Nat.le_of_ble_eq_true rfl, Nat.le_of_ble_eq_true rfl⟩ ⟨Nat.le_of_ble_eq_true rfl, Nat.le_of_ble_eq_true rfl⟩ (Nat.le_of_ble_eq_true rfl) dX7_cut_7 (fun E hE => ?_) (fun q7 => ?_)
  · obtain ⟨rfl, hn⟩ := hE
    exact Or.inl ⟨rfl, by unfold kcCu; (repeat' split) <;> omega⟩
  refine i_aload_n G dX7_cut_10 rfl ?_
  refine i_getr G F_X7_10 0 rfl rfl dX7_cut_11 ?_
  refine i_getr G F_X7_65 1 rfl rfl dX7_cut_14 ?_
  refine i_iload_n G dX7_cut_17 rfl ?_
  refine j_zald_z G 2 rfl (by decide) (by decide) (by omega) (by omega) dX7_cut_18 ?_
  have b18 : 0 ≤ z 10 q ∧ z 10 q ≤ 1 := hR 10 _
  refine i_if_eq (tgt := 27) G dX7_cut_19 (by decide) (by omega) (fun h19 => ?_) (fun h19 => ?_)
  · skip
    refine x_throw (text := "a board names another fork that is a place") G hT hst XF_IAE (by decide +kernel) dX7_cut_27 dX7_cut_30 dX7_cut_31 dX7_cut_33 dX7_cut_36 ⟨Nat.le_of_ble_eq_true rfl, Nat.le_of_ble_eq_true rfl, Nat.le_of_ble_eq_true rfl, Nat.le_of_ble_eq_true rfl⟩ ⟨Nat.le_of_ble_eq_true rfl, Nat.le_of_ble_eq_true rfl⟩ rfl ?_
    exact Or.inr (Or.inl ⟨rfl, by unfold kcCu; (repeat' split) <;> omega⟩)
  · skip
    refine i_iload_n G dX7_cut_22 rfl ?_
    refine i_iload_n G dX7_cut_23 rfl ?_
    refine i_icmp_ne (tgt := 37) G dX7_cut_24 (by decide) (by omega) (by omega) (fun h24 => ?_) (fun h24 => ?_)
    · skip
      refine i_aload_n G dX7_cut_37 rfl ?_
      refine i_iload_n G dX7_cut_38 rfl ?_
      refine i_iload_n G dX7_cut_39 rfl ?_
      refine j_callE (q0 := 0) (As := [vi (f), vi (q)]) (st := []) G K_X7_132 (c_canTell l hd hR hY hI_z_y f q (by first | assumption | omega) (by first | assumption | omega)) rfl rfl rfl (rm_okX (by decide) (by decide)) ⟨Nat.le_of_ble_eq_true rfl, Nat.le_of_ble_eq_true rfl⟩ (Nat.le_of_ble_eq_true rfl) dX7_cut_40 ?_
      obtain ⟨r40, er40⟩ : ∃ x_ : Int, x_ = (if ds z 16 f q ≤ 300 then 1 else 0) := ⟨_, rfl⟩
      rw [← er40]
      have b40 : (r40 = 1 ∧ ds z 16 f q ≤ 300) ∨ (r40 = 0 ∧ ¬ ds z 16 f q ≤ 300) := by rw [er40]; split <;> omega
      refine i_if_ne (tgt := 56) G dX7_cut_43 (by decide) (by omega) (fun h43 => ?_) (fun h43 => ?_)
      · skip
        refine i_aload_n G dX7_cut_56 rfl ?_
        refine i_getr G F_X7_19 0 rfl rfl dX7_cut_57 ?_
        refine j_getz G F_X7_127 14 rfl rfl (by decide) dX7_cut_60 ?_
        have b60 : 0 ≤ z 6 0 ∧ z 6 0 ≤ 60000 := hR 6 _
        refine i_iconst G dX7_cut_63 ?_
        refine i_icmp_ge (tgt := 77) G dX7_cut_64 (by decide) (by omega) (by omega) (fun h64 => ?_) (fun h64 => ?_)
        · skip
          refine i_aload_n G dX7_cut_77 rfl ?_
          refine i_getr G F_X7_19 0 rfl rfl dX7_cut_78 ?_
          refine j_getz G F_X7_143 14 rfl rfl (by decide) dX7_cut_81 ?_
          have b81 : 0 ≤ z 2 0 ∧ z 2 0 ≤ 30 := hR 2 _
          refine i_bipush G dX7_cut_84 (by decide) ?_
          refine i_icmp_lt (tgt := 99) G dX7_cut_86 (by decide) (by omega) (by omega) (fun h86 => ?_) (fun h86 => ?_)
          · skip
            refine i_aload_n G dX7_cut_99 rfl ?_
            refine i_getr G F_X7_19 0 rfl rfl dX7_cut_100 ?_
            refine j_getz G F_X7_143 14 rfl rfl (by decide) dX7_cut_103 ?_
            have b103 : 0 ≤ z 2 0 ∧ z 2 0 ≤ 30 := hR 2 _
            refine i_istore_n (L' := [some (.ref (ad 0)), some (vi (f)), some (vi (q)), some (vi ((z 2 0)))]) G dX7_cut_106 (by decide) rfl ?_
            refine i_aload_n G dX7_cut_107 rfl ?_
            refine i_getr G F_X7_19 0 rfl rfl dX7_cut_108 ?_
            refine i_dup G rfl dX7_cut_111 ?_
            refine j_getz G F_X7_143 14 rfl rfl (by decide) dX7_cut_112 ?_
            have b112 : 0 ≤ z 2 0 ∧ z 2 0 ≤ 30 := hR 2 _
            refine i_iconst G dX7_cut_115 ?_
            refine i_iadd G dX7_cut_116 ?_
            refine j_putz G P_X7_143 14 rfl rfl (by decide) (by decide) (by decide) hR (by show (0 : Int) ≤ _ ∧ _ ≤ (30 : Int); omega) dX7_cut_117 (fun z117 ez117 hRz117 => ?_)
            refine i_aload_n G dX7_cut_120 rfl ?_
            refine i_getr G F_X7_19 0 rfl rfl dX7_cut_121 ?_
            refine i_getr G F_X7_148 14 rfl rfl dX7_cut_124 ?_
            refine i_iload_n G dX7_cut_127 rfl ?_
            refine i_iload_n G dX7_cut_128 rfl ?_
            refine j_iast_z G 15 rfl (by decide) (by decide) (by omega) (by omega) (by decide) hRz117 (by show (0 : Int) ≤ _ ∧ _ ≤ (15 : Int); omega) dX7_cut_129 (fun z129 ez129 hRz129 => ?_)
            refine i_aload_n G dX7_cut_130 rfl ?_
            refine i_getr G F_X7_19 0 rfl rfl dX7_cut_131 ?_
            refine i_getr G F_X7_152 14 rfl rfl dX7_cut_134 ?_
            refine i_iload_n G dX7_cut_137 rfl ?_
            refine i_iload_n G dX7_cut_138 rfl ?_
            refine j_iast_z G 16 rfl (by decide) (by decide) (by omega) (by omega) (by decide) hRz129 (by show (0 : Int) ≤ _ ∧ _ ≤ (15 : Int); omega) dX7_cut_139 (fun z139 ez139 hRz139 => ?_)
            refine i_aload_n G dX7_cut_140 rfl ?_
            refine i_iload_n G dX7_cut_141 rfl ?_
            have ew : z139 = cwF z f q := by rw [ez139, ez129, ez117]; rfl
            have e17 := cwF_17 z f q
            have e18 := cwF_18 z f q
            have hne : f ≠ q := by omega
            have hdd : ds z 16 f q ≤ 300 := by omega
            have hW : WT z139 := by rw [ew]; exact cwF_WT hI_z_y.1.1 f q
            have hC : CIv z139 y 16 65 := by rw [ew]; exact cwF_CI hI_z_y.2.2 (by decide) f q
            have hw6 : 1 ≤ z139 6 0 := by rw [ew, cwF_k z f q (by decide)]; omega
            have hn9 : z139 17 (z 2 0) ≠ z139 18 (z 2 0) := by rw [ew, e17, e18]; exact hne
            have hd9 : ds z139 16 (z139 17 (z 2 0)) (z139 18 (z 2 0)) ≤ 300 := by rw [ew, e17, e18, cwF_ds z f q 16 (by decide)]; exact hdd
            refine j_callZv (q0 := 0) (As := [vi ((z 2 0))]) (st := []) G K_X7_155 (c_putUpT l hd hRz139 hY (z 2 0) (by first | assumption | omega) (by first | assumption | omega) (by first | assumption | omega) (by first | assumption | omega) (by first | assumption | omega) (by first | assumption | omega)) rfl rfl rfl (rm_okX (by decide) (by decide)) ⟨Nat.le_of_ble_eq_true rfl, Nat.le_of_ble_eq_true rfl⟩ (Nat.le_of_ble_eq_true rfl) dX7_cut_142 (fun z142 q142 => ?_)
            obtain ⟨ez142, hRz142⟩ := q142
            refine i_iload_n G dX7_cut_145 rfl ?_
            refine x_reti G hr ⟨Nat.le_of_ble_eq_true rfl, Nat.le_of_ble_eq_true rfl⟩ dX7_cut_146 ?_
            have ez : z142 = cuF z f q := by rw [ez142, ew]; rfl
            refine ⟨by unfold kcCu; (repeat' split) <;> omega, rfl, ez, hRz142, hY, ?_⟩
            rw [ez]
            exact CW_k hI_z_y (WF_cu hI_z_y.1 (ew ▸ hRz139) (by omega) (by omega) hne hdd) (fun i hi => cuF_k z f q (by omega))
          · skip
            refine x_throw (text := "no room for a board") G hT hst XF_ISE (by decide +kernel) dX7_cut_89 dX7_cut_92 dX7_cut_93 dX7_cut_95 dX7_cut_98 ⟨Nat.le_of_ble_eq_true rfl, Nat.le_of_ble_eq_true rfl, Nat.le_of_ble_eq_true rfl, Nat.le_of_ble_eq_true rfl⟩ ⟨Nat.le_of_ble_eq_true rfl, Nat.le_of_ble_eq_true rfl⟩ rfl ?_
            exact Or.inr (Or.inr (Or.inr (Or.inr (⟨rfl, by unfold kcCu; (repeat' split) <;> omega⟩))))
        · skip
          refine x_throw (text := "no wood") G hT hst XF_UOE (by decide +kernel) dX7_cut_67 dX7_cut_70 dX7_cut_71 dX7_cut_73 dX7_cut_76 ⟨Nat.le_of_ble_eq_true rfl, Nat.le_of_ble_eq_true rfl, Nat.le_of_ble_eq_true rfl, Nat.le_of_ble_eq_true rfl⟩ ⟨Nat.le_of_ble_eq_true rfl, Nat.le_of_ble_eq_true rfl⟩ rfl ?_
          exact Or.inr (Or.inr (Or.inr (Or.inl ⟨rfl, by unfold kcCu; (repeat' split) <;> omega⟩)))
      · skip
        refine x_throwN (text := "no way, or too long a one") G hT hst (by decide +kernel) dX7_cut_46 dX7_cut_49 dX7_cut_50 dX7_cut_52 dX7_cut_55 ⟨Nat.le_of_ble_eq_true rfl, Nat.le_of_ble_eq_true rfl, Nat.le_of_ble_eq_true rfl, Nat.le_of_ble_eq_true rfl⟩ ⟨Nat.le_of_ble_eq_true rfl, Nat.le_of_ble_eq_true rfl⟩ rfl ?_
        exact Or.inr (Or.inr (Or.inl ⟨rfl, by unfold kcCu; (repeat' split) <;> omega⟩))
    · skip
      refine x_throw (text := "a board names another fork that is a place") G hT hst XF_IAE (by decide +kernel) dX7_cut_27 dX7_cut_30 dX7_cut_31 dX7_cut_33 dX7_cut_36 ⟨Nat.le_of_ble_eq_true rfl, Nat.le_of_ble_eq_true rfl, Nat.le_of_ble_eq_true rfl, Nat.le_of_ble_eq_true rfl⟩ ⟨Nat.le_of_ble_eq_true rfl, Nat.le_of_ble_eq_true rfl⟩ rfl ?_
      exact Or.inr (Or.inl ⟨rfl, by unfold kcCu; (repeat' split) <;> omega⟩)
set_option maxHeartbeats 4000000 in
set_option maxRecDepth 100000 in
theorem c_report (l : Launch) (hst : l.stackTraces = false) {D : va_G} {aC : Nat → ClassId} {ad : Nat → Nat} (hd : wDi ad shC) {z y : wZ} (hR : Rng z) (hY : Rng y) (hI_z_y : CW z y) (w : Int) (t : Int) (g : Int) (hw : -2147483648 ≤ w ∧ w ≤ 2147483647) (ht : -2147483648 ≤ t ∧ t ≤ 2147483647) (hg : g = 0 ∨ g = 1) : xMi l D aC ad shC yX7_report cX7_report 4 (.boolean) (rmX 7 2 12) [.ref (ad 0), vi w, vi t, vi g] z y (fun r_ z2 y2 => kcRp z w t = 0 ∧ r_ = rpF z w t g 16 t ∧ z2 = rpF z w t g ∧ Rng z2 ∧ Rng y2 ∧ CW z2 y2) (fun E => (E = eIAE ∧ kcRp z w t = 1) ∨ (E = eIOB ∧ kcRp z w t = 2)) 2 12 := by
  refine x_i [some (.ref (ad 0)), some (vi (w)), some (vi (t)), some (vi (g))] (by decide +kernel) rfl (Nat.le_of_ble_eq_true rfl) rfl hd ?_
  intro p e s m args below meth c A G hr hT
  have q1 : 0 ≤ z 1 0 ∧ z 1 0 ≤ 24 := hR 1 0
  refine i_aload_n G dX7_report_0 rfl ?_
  refine i_iload_n G dX7_report_1 rfl ?_
  refine x_callq (q0 := 0) (As := [vi (w)]) (st := []) G hT K_X7_174 (c_requireWalker l hst hd hR hY w (by first | assumption | omega)) rfl rfl rfl (xrm_ok (by decide) (by decide)) ⟨Nat.le_of_ble_eq_true rfl, Nat.le_of_ble_eq_true rfl⟩ ⟨Nat.le_of_ble_eq_true rfl, Nat.le_of_ble_eq_true rfl⟩ (Nat.le_of_ble_eq_true rfl) dX7_report_2 (fun E hE => ?_) (fun q2 => ?_)
  · obtain ⟨rfl, hn⟩ := hE
    exact Or.inl ⟨rfl, by unfold kcRp; (repeat' split) <;> omega⟩
  refine i_aload_n G dX7_report_5 rfl ?_
  refine i_iload_n G dX7_report_6 rfl ?_
  refine x_callq (q0 := 0) (As := [vi (t)]) (st := []) G hT K_X7_90 (c_requireTrail l hst hd hR hY t (by first | assumption | omega)) rfl rfl rfl (xrm_ok (by decide) (by decide)) ⟨Nat.le_of_ble_eq_true rfl, Nat.le_of_ble_eq_true rfl⟩ ⟨Nat.le_of_ble_eq_true rfl, Nat.le_of_ble_eq_true rfl⟩ (Nat.le_of_ble_eq_true rfl) dX7_report_7 (fun E hE => ?_) (fun q7 => ?_)
  · obtain ⟨rfl, hn⟩ := hE
    exact Or.inr (⟨rfl, by unfold kcRp; (repeat' split) <;> omega⟩)
  refine i_aload_n G dX7_report_10 rfl ?_
  refine i_getr G F_X7_26 0 rfl rfl dX7_report_11 ?_
  refine i_iload_n G dX7_report_14 rfl ?_
  refine i_iload_n G dX7_report_15 rfl ?_
  refine i_iload_n G dX7_report_16 rfl ?_
  refine j_callZv (q0 := 20) (As := [vi (w), vi (t), vi (g)]) (st := []) G K_X7_177 (c_note l hd hR hY w t g (by omega) (by omega) (by omega)) rfl rfl rfl (rm_okX (by decide) (by decide)) ⟨Nat.le_of_ble_eq_true rfl, Nat.le_of_ble_eq_true rfl⟩ (Nat.le_of_ble_eq_true rfl) dX7_report_17 (fun z17 q17 => ?_)
  obtain ⟨ez17, hRz17⟩ := q17
  have e16 : z17 16 t = z 16 t := by rw [ez17, zp_nk _ (by decide)]
  have hW : WT z17 := WT_cg hI_z_y.1.1 (fun k hk => by rw [ez17, zp_nk _ (by omega)])
  have hC : CIv z17 y 16 65 := CIv_congr hI_z_y.2.2 (fun i hi => by rw [ez17, zp_nk _ (by omega)])
  refine i_aload_n G dX7_report_20 rfl ?_
  refine i_getr G F_X7_10 0 rfl rfl dX7_report_21 ?_
  refine i_aload_n G dX7_report_24 rfl ?_
  refine i_getr G F_X7_10 0 rfl rfl dX7_report_25 ?_
  refine i_getr G F_X7_181 1 rfl rfl dX7_report_28 ?_
  refine i_iload_n G dX7_report_31 rfl ?_
  refine i_aload_n G dX7_report_32 rfl ?_
  refine i_getr G F_X7_26 0 rfl rfl dX7_report_33 ?_
  refine i_iload_n G dX7_report_36 rfl ?_
  refine i_aload_n G dX7_report_37 rfl ?_
  refine i_getr G F_X7_10 0 rfl rfl dX7_report_38 ?_
  refine i_getr G F_X7_181 1 rfl rfl dX7_report_41 ?_
  refine i_getr G F_X7_97 10 rfl rfl dX7_report_44 ?_
  refine i_iload_n G dX7_report_47 rfl ?_
  refine j_zald_z G 11 rfl (by decide) (by decide) (by omega) (by omega) dX7_report_48 ?_
  have b48 : 0 ≤ z17 16 t ∧ z17 16 t ≤ 1 := hRz17 16 _
  refine j_callE (q0 := 20) (As := [vi (t), vi ((z17 16 t))]) (st := [vi (t), .ref (ad 10), .ref (ad 1)]) G K_X7_184 (c_believe l hd hRz17 hY t (z17 16 t) (by omega) (by omega)) rfl rfl rfl (rm_okX (by decide) (by decide)) ⟨Nat.le_of_ble_eq_true rfl, Nat.le_of_ble_eq_true rfl⟩ (Nat.le_of_ble_eq_true rfl) dX7_report_49 ?_
  have b49 : 0 ≤ (blvF z17 t (z17 16 t)) ∧ (blvF z17 t (z17 16 t)) ≤ 1 := by unfold blvF; (repeat' split) <;> omega
  refine j_callv (q0 := 1) (As := [.ref (ad 10), vi (t), vi ((blvF z17 t (z17 16 t)))]) (st := []) G K_X7_102 (c_setGone_0 l hd hRz17 hY t (blvF z17 t (z17 16 t)) (by first | assumption | omega) (by first | assumption | omega) (by first | assumption | omega) (by first | assumption | omega)) rfl rfl rfl (rm_okX (by decide) (by decide)) ⟨Nat.le_of_ble_eq_true rfl, Nat.le_of_ble_eq_true rfl⟩ (Nat.le_of_ble_eq_true rfl) dX7_report_52 (fun z52 y52 q52 => ?_)
  obtain ⟨ez52, hRz52, hRy52, ho52, hc52⟩ := q52
  refine i_aload_n G dX7_report_55 rfl ?_
  refine i_getr G F_X7_10 0 rfl rfl dX7_report_56 ?_
  refine i_getr G F_X7_181 1 rfl rfl dX7_report_59 ?_
  refine i_getr G F_X7_97 10 rfl rfl dX7_report_62 ?_
  refine i_iload_n G dX7_report_65 rfl ?_
  refine j_zald_z G 11 rfl (by decide) (by decide) (by omega) (by omega) dX7_report_66 ?_
  have b66 : 0 ≤ z52 16 t ∧ z52 16 t ≤ 1 := hRz52 16 _
  refine x_retz G hr (by omega) ⟨Nat.le_of_ble_eq_true rfl, Nat.le_of_ble_eq_true rfl⟩ dX7_report_67 ?_
  have ez : z52 = rpF z w t g := by rw [ez52, e16, ez17]; rfl
  refine ⟨by unfold kcRp; (repeat' split) <;> omega, by rw [ez], ez, hRz52, hRy52, WF_congr hI_z_y.1 (fun k _ _ _ _ h16 _ _ _ _ _ _ h32 => by rw [ez52, zp_nk _ h16, ez17, zp_nk _ h32]), CIv_y (CIv_congr hI_z_y.2.1 (fun i hi => by rw [ez52, zp_nk _ (by omega), ez17, zp_nk _ (by omega)])) (ho52 64 (by decide)), hc52⟩
set_option maxHeartbeats 4000000 in
set_option maxRecDepth 100000 in
theorem c_addTask (l : Launch) (hst : l.stackTraces = false) {D : va_G} {aC : Nat → ClassId} {ad : Nat → Nat} (hd : wDi ad shC) {z y : wZ} (hR : Rng z) (hY : Rng y) (hI_z_y : CW z y) (k : Int) (n : Int) (u : Int) (hn : -2147483648 ≤ n ∧ n ≤ 2147483647) (hu : -2147483648 ≤ u ∧ u ≤ 2147483647) (hk : 0 ≤ k ∧ k ≤ 65535) : xMi l D aC ad shC yX7_addTask cX7_addTask 4 (.int) (rmX 7 2 12) [.ref (ad 0), vi k, vi n, vi u] z y (fun r_ z2 y2 => kcAK z k n u = 0 ∧ r_ = z 3 0 ∧ z2 = mkF z k n u ∧ Rng z2 ∧ Rng y2 ∧ CW z2 y2) (fun E => (E = eIAE ∧ kcAK z k n u = 1) ∨ (E = eIOB ∧ kcAK z k n u = 2) ∨ (E = eISE ∧ kcAK z k n u = 3)) 2 12 := by
  refine x_i [some (.ref (ad 0)), some (vi (k)), some (vi (n)), some (vi (u))] (by decide +kernel) rfl (Nat.le_of_ble_eq_true rfl) rfl hd ?_
  intro p e s m args below meth c A G hr hT
  have q1 : 0 ≤ z 1 0 ∧ z 1 0 ≤ 24 := hR 1 0
  have q2 : 0 ≤ z 2 0 ∧ z 2 0 ≤ 30 := hR 2 0
  have q3 : 0 ≤ z 3 0 ∧ z 3 0 ≤ 40 := hR 3 0
  refine i_iload_n G dX7_addTask_0 rfl ?_
  refine i_bipush G dX7_addTask_1 (by decide) ?_
  refine i_icmp_eq (tgt := 22) G dX7_addTask_3 (by decide) (by omega) (by omega) (fun h3 => ?_) (fun h3 => ?_)
  · skip
    refine i_iload_n G dX7_addTask_22 rfl ?_
    refine i_if_lt (tgt := 33) G dX7_addTask_23 (by decide) (by omega) (fun h23 => ?_) (fun h23 => ?_)
    · skip
      refine x_throw (text := "danger out of range") G hT hst XF_IAE (by decide +kernel) dX7_addTask_33 dX7_addTask_36 dX7_addTask_37 dX7_addTask_39 dX7_addTask_42 ⟨Nat.le_of_ble_eq_true rfl, Nat.le_of_ble_eq_true rfl, Nat.le_of_ble_eq_true rfl, Nat.le_of_ble_eq_true rfl⟩ ⟨Nat.le_of_ble_eq_true rfl, Nat.le_of_ble_eq_true rfl⟩ rfl ?_
      exact Or.inl ⟨rfl, by unfold kcAK; (repeat' split) <;> omega⟩
    · skip
      refine i_iload_n G dX7_addTask_26 rfl ?_
      refine i_sipush G dX7_addTask_27 (by decide) ?_
      refine i_icmp_le (tgt := 43) G dX7_addTask_30 (by decide) (by omega) (by omega) (fun h30 => ?_) (fun h30 => ?_)
      · skip
        refine i_iload_n G dX7_addTask_43 rfl ?_
        refine i_bipush G dX7_addTask_44 (by decide) ?_
        refine i_icmp_ne (tgt := 57) G dX7_addTask_46 (by decide) (by omega) (by omega) (fun h46 => ?_) (fun h46 => ?_)
        · skip
          refine i_aload_n G dX7_addTask_57 rfl ?_
          refine i_iload_n G dX7_addTask_58 rfl ?_
          refine x_callq (q0 := 0) (As := [vi (n)]) (st := []) G hT K_X7_158 (c_requireBoard l hst hd hR hY n (by first | assumption | omega)) rfl rfl rfl (xrm_ok (by decide) (by decide)) ⟨Nat.le_of_ble_eq_true rfl, Nat.le_of_ble_eq_true rfl⟩ ⟨Nat.le_of_ble_eq_true rfl, Nat.le_of_ble_eq_true rfl⟩ (Nat.le_of_ble_eq_true rfl) dX7_addTask_59 (fun E hE => ?_) (fun q59 => ?_)
          · obtain ⟨rfl, hn⟩ := hE
            exact Or.inr (Or.inl ⟨rfl, by unfold kcAK; (repeat' split) <;> omega⟩)
          refine i_aload_n G dX7_addTask_62 rfl ?_
          refine i_getr G F_X7_33 0 rfl rfl dX7_addTask_63 ?_
          refine j_callE (q0 := 23) (As := []) (st := []) G K_X7_199 (c_hasRoom l hd hR hY  ) rfl rfl rfl (rm_okX (by decide) (by decide)) ⟨Nat.le_of_ble_eq_true rfl, Nat.le_of_ble_eq_true rfl⟩ (Nat.le_of_ble_eq_true rfl) dX7_addTask_66 ?_
          obtain ⟨r66, er66⟩ : ∃ x_ : Int, x_ = (if z 3 0 < 40 then 1 else 0) := ⟨_, rfl⟩
          rw [← er66]
          have b66 : (r66 = 0 ∧ 40 ≤ z 3 0) ∨ (r66 = 1 ∧ z 3 0 < 40) := by rw [er66]; split <;> omega
          refine i_if_ne (tgt := 82) G dX7_addTask_69 (by decide) (by omega) (fun h69 => ?_) (fun h69 => ?_)
          · skip
            refine i_aload_n G dX7_addTask_82 rfl ?_
            refine i_getr G F_X7_33 0 rfl rfl dX7_addTask_83 ?_
            refine i_iload_n G dX7_addTask_86 rfl ?_
            refine i_iload_n G dX7_addTask_87 rfl ?_
            refine i_iload_n G dX7_addTask_88 rfl ?_
            refine j_callZi (q0 := 23) (As := [vi (k), vi (n), vi (u)]) (st := []) G K_X7_205 (c_make l hd hR hY k n u (by omega) (by omega) (by omega) (by omega)) rfl rfl rfl (rm_okX (by decide) (by decide)) ⟨Nat.le_of_ble_eq_true rfl, Nat.le_of_ble_eq_true rfl⟩ (Nat.le_of_ble_eq_true rfl) dX7_addTask_89 (fun r89 z89 q89 => ?_)
            obtain ⟨er89, ez89, hRz89⟩ := q89
            refine x_reti G hr ⟨Nat.le_of_ble_eq_true rfl, Nat.le_of_ble_eq_true rfl⟩ dX7_addTask_92 ?_
            refine ⟨by unfold kcAK; (repeat' split) <;> omega, er89, ez89, hRz89, hY, ?_⟩
            rw [ez89]
            exact CW_k hI_z_y (WF_mk hI_z_y.1 hR (by omega) (by omega) (by omega)) (fun i hi => mkF_k _ _ _ _ (by omega))
          · skip
            refine x_throw (text := "no room for a task") G hT hst XF_ISE (by decide +kernel) dX7_addTask_72 dX7_addTask_75 dX7_addTask_76 dX7_addTask_78 dX7_addTask_81 ⟨Nat.le_of_ble_eq_true rfl, Nat.le_of_ble_eq_true rfl, Nat.le_of_ble_eq_true rfl, Nat.le_of_ble_eq_true rfl⟩ ⟨Nat.le_of_ble_eq_true rfl, Nat.le_of_ble_eq_true rfl⟩ rfl ?_
            exact Or.inr (Or.inr (⟨rfl, by unfold kcAK; (repeat' split) <;> omega⟩))
        · skip
          refine i_aload_n G dX7_addTask_49 rfl ?_
          refine i_iload_n G dX7_addTask_50 rfl ?_
          refine x_callq (q0 := 0) (As := [vi (n)]) (st := []) G hT K_X7_90 (c_requireTrail l hst hd hR hY n (by first | assumption | omega)) rfl rfl rfl (xrm_ok (by decide) (by decide)) ⟨Nat.le_of_ble_eq_true rfl, Nat.le_of_ble_eq_true rfl⟩ ⟨Nat.le_of_ble_eq_true rfl, Nat.le_of_ble_eq_true rfl⟩ (Nat.le_of_ble_eq_true rfl) dX7_addTask_51 (fun E hE => ?_) (fun q51 => ?_)
          · obtain ⟨rfl, hn⟩ := hE
            exact Or.inr (Or.inl ⟨rfl, by unfold kcAK; (repeat' split) <;> omega⟩)
          refine i_goto (tgt := 62) G dX7_addTask_54 (by decide) ?_
          refine i_aload_n G dX7_addTask_62 rfl ?_
          refine i_getr G F_X7_33 0 rfl rfl dX7_addTask_63 ?_
          refine j_callE (q0 := 23) (As := []) (st := []) G K_X7_199 (c_hasRoom l hd hR hY  ) rfl rfl rfl (rm_okX (by decide) (by decide)) ⟨Nat.le_of_ble_eq_true rfl, Nat.le_of_ble_eq_true rfl⟩ (Nat.le_of_ble_eq_true rfl) dX7_addTask_66 ?_
          obtain ⟨r66, er66⟩ : ∃ x_ : Int, x_ = (if z 3 0 < 40 then 1 else 0) := ⟨_, rfl⟩
          rw [← er66]
          have b66 : (r66 = 0 ∧ 40 ≤ z 3 0) ∨ (r66 = 1 ∧ z 3 0 < 40) := by rw [er66]; split <;> omega
          refine i_if_ne (tgt := 82) G dX7_addTask_69 (by decide) (by omega) (fun h69 => ?_) (fun h69 => ?_)
          · skip
            refine i_aload_n G dX7_addTask_82 rfl ?_
            refine i_getr G F_X7_33 0 rfl rfl dX7_addTask_83 ?_
            refine i_iload_n G dX7_addTask_86 rfl ?_
            refine i_iload_n G dX7_addTask_87 rfl ?_
            refine i_iload_n G dX7_addTask_88 rfl ?_
            refine j_callZi (q0 := 23) (As := [vi (k), vi (n), vi (u)]) (st := []) G K_X7_205 (c_make l hd hR hY k n u (by omega) (by omega) (by omega) (by omega)) rfl rfl rfl (rm_okX (by decide) (by decide)) ⟨Nat.le_of_ble_eq_true rfl, Nat.le_of_ble_eq_true rfl⟩ (Nat.le_of_ble_eq_true rfl) dX7_addTask_89 (fun r89 z89 q89 => ?_)
            obtain ⟨er89, ez89, hRz89⟩ := q89
            refine x_reti G hr ⟨Nat.le_of_ble_eq_true rfl, Nat.le_of_ble_eq_true rfl⟩ dX7_addTask_92 ?_
            refine ⟨by unfold kcAK; (repeat' split) <;> omega, er89, ez89, hRz89, hY, ?_⟩
            rw [ez89]
            exact CW_k hI_z_y (WF_mk hI_z_y.1 hR (by omega) (by omega) (by omega)) (fun i hi => mkF_k _ _ _ _ (by omega))
          · skip
            refine x_throw (text := "no room for a task") G hT hst XF_ISE (by decide +kernel) dX7_addTask_72 dX7_addTask_75 dX7_addTask_76 dX7_addTask_78 dX7_addTask_81 ⟨Nat.le_of_ble_eq_true rfl, Nat.le_of_ble_eq_true rfl, Nat.le_of_ble_eq_true rfl, Nat.le_of_ble_eq_true rfl⟩ ⟨Nat.le_of_ble_eq_true rfl, Nat.le_of_ble_eq_true rfl⟩ rfl ?_
            exact Or.inr (Or.inr (⟨rfl, by unfold kcAK; (repeat' split) <;> omega⟩))
      · skip
        refine x_throw (text := "danger out of range") G hT hst XF_IAE (by decide +kernel) dX7_addTask_33 dX7_addTask_36 dX7_addTask_37 dX7_addTask_39 dX7_addTask_42 ⟨Nat.le_of_ble_eq_true rfl, Nat.le_of_ble_eq_true rfl, Nat.le_of_ble_eq_true rfl, Nat.le_of_ble_eq_true rfl⟩ ⟨Nat.le_of_ble_eq_true rfl, Nat.le_of_ble_eq_true rfl⟩ rfl ?_
        exact Or.inl ⟨rfl, by unfold kcAK; (repeat' split) <;> omega⟩
  · skip
    refine i_iload_n G dX7_addTask_6 rfl ?_
    refine i_bipush G dX7_addTask_7 (by decide) ?_
    refine i_icmp_eq (tgt := 22) G dX7_addTask_9 (by decide) (by omega) (by omega) (fun h9 => ?_) (fun h9 => ?_)
    · skip
      refine i_iload_n G dX7_addTask_22 rfl ?_
      refine i_if_lt (tgt := 33) G dX7_addTask_23 (by decide) (by omega) (fun h23 => ?_) (fun h23 => ?_)
      · skip
        refine x_throw (text := "danger out of range") G hT hst XF_IAE (by decide +kernel) dX7_addTask_33 dX7_addTask_36 dX7_addTask_37 dX7_addTask_39 dX7_addTask_42 ⟨Nat.le_of_ble_eq_true rfl, Nat.le_of_ble_eq_true rfl, Nat.le_of_ble_eq_true rfl, Nat.le_of_ble_eq_true rfl⟩ ⟨Nat.le_of_ble_eq_true rfl, Nat.le_of_ble_eq_true rfl⟩ rfl ?_
        exact Or.inl ⟨rfl, by unfold kcAK; (repeat' split) <;> omega⟩
      · skip
        refine i_iload_n G dX7_addTask_26 rfl ?_
        refine i_sipush G dX7_addTask_27 (by decide) ?_
        refine i_icmp_le (tgt := 43) G dX7_addTask_30 (by decide) (by omega) (by omega) (fun h30 => ?_) (fun h30 => ?_)
        · skip
          refine i_iload_n G dX7_addTask_43 rfl ?_
          refine i_bipush G dX7_addTask_44 (by decide) ?_
          refine i_icmp_ne (tgt := 57) G dX7_addTask_46 (by decide) (by omega) (by omega) (fun h46 => ?_) (fun h46 => ?_)
          · skip
            refine i_aload_n G dX7_addTask_57 rfl ?_
            refine i_iload_n G dX7_addTask_58 rfl ?_
            refine x_callq (q0 := 0) (As := [vi (n)]) (st := []) G hT K_X7_158 (c_requireBoard l hst hd hR hY n (by first | assumption | omega)) rfl rfl rfl (xrm_ok (by decide) (by decide)) ⟨Nat.le_of_ble_eq_true rfl, Nat.le_of_ble_eq_true rfl⟩ ⟨Nat.le_of_ble_eq_true rfl, Nat.le_of_ble_eq_true rfl⟩ (Nat.le_of_ble_eq_true rfl) dX7_addTask_59 (fun E hE => ?_) (fun q59 => ?_)
            · obtain ⟨rfl, hn⟩ := hE
              exact Or.inr (Or.inl ⟨rfl, by unfold kcAK; (repeat' split) <;> omega⟩)
            refine i_aload_n G dX7_addTask_62 rfl ?_
            refine i_getr G F_X7_33 0 rfl rfl dX7_addTask_63 ?_
            refine j_callE (q0 := 23) (As := []) (st := []) G K_X7_199 (c_hasRoom l hd hR hY  ) rfl rfl rfl (rm_okX (by decide) (by decide)) ⟨Nat.le_of_ble_eq_true rfl, Nat.le_of_ble_eq_true rfl⟩ (Nat.le_of_ble_eq_true rfl) dX7_addTask_66 ?_
            obtain ⟨r66, er66⟩ : ∃ x_ : Int, x_ = (if z 3 0 < 40 then 1 else 0) := ⟨_, rfl⟩
            rw [← er66]
            have b66 : (r66 = 0 ∧ 40 ≤ z 3 0) ∨ (r66 = 1 ∧ z 3 0 < 40) := by rw [er66]; split <;> omega
            refine i_if_ne (tgt := 82) G dX7_addTask_69 (by decide) (by omega) (fun h69 => ?_) (fun h69 => ?_)
            · skip
              refine i_aload_n G dX7_addTask_82 rfl ?_
              refine i_getr G F_X7_33 0 rfl rfl dX7_addTask_83 ?_
              refine i_iload_n G dX7_addTask_86 rfl ?_
              refine i_iload_n G dX7_addTask_87 rfl ?_
              refine i_iload_n G dX7_addTask_88 rfl ?_
              refine j_callZi (q0 := 23) (As := [vi (k), vi (n), vi (u)]) (st := []) G K_X7_205 (c_make l hd hR hY k n u (by omega) (by omega) (by omega) (by omega)) rfl rfl rfl (rm_okX (by decide) (by decide)) ⟨Nat.le_of_ble_eq_true rfl, Nat.le_of_ble_eq_true rfl⟩ (Nat.le_of_ble_eq_true rfl) dX7_addTask_89 (fun r89 z89 q89 => ?_)
              obtain ⟨er89, ez89, hRz89⟩ := q89
              refine x_reti G hr ⟨Nat.le_of_ble_eq_true rfl, Nat.le_of_ble_eq_true rfl⟩ dX7_addTask_92 ?_
              refine ⟨by unfold kcAK; (repeat' split) <;> omega, er89, ez89, hRz89, hY, ?_⟩
              rw [ez89]
              exact CW_k hI_z_y (WF_mk hI_z_y.1 hR (by omega) (by omega) (by omega)) (fun i hi => mkF_k _ _ _ _ (by omega))
            · skip
              refine x_throw (text := "no room for a task") G hT hst XF_ISE (by decide +kernel) dX7_addTask_72 dX7_addTask_75 dX7_addTask_76 dX7_addTask_78 dX7_addTask_81 ⟨Nat.le_of_ble_eq_true rfl, Nat.le_of_ble_eq_true rfl, Nat.le_of_ble_eq_true rfl, Nat.le_of_ble_eq_true rfl⟩ ⟨Nat.le_of_ble_eq_true rfl, Nat.le_of_ble_eq_true rfl⟩ rfl ?_
              exact Or.inr (Or.inr (⟨rfl, by unfold kcAK; (repeat' split) <;> omega⟩))
          · skip
            refine i_aload_n G dX7_addTask_49 rfl ?_
            refine i_iload_n G dX7_addTask_50 rfl ?_
            refine x_callq (q0 := 0) (As := [vi (n)]) (st := []) G hT K_X7_90 (c_requireTrail l hst hd hR hY n (by first | assumption | omega)) rfl rfl rfl (xrm_ok (by decide) (by decide)) ⟨Nat.le_of_ble_eq_true rfl, Nat.le_of_ble_eq_true rfl⟩ ⟨Nat.le_of_ble_eq_true rfl, Nat.le_of_ble_eq_true rfl⟩ (Nat.le_of_ble_eq_true rfl) dX7_addTask_51 (fun E hE => ?_) (fun q51 => ?_)
            · obtain ⟨rfl, hn⟩ := hE
              exact Or.inr (Or.inl ⟨rfl, by unfold kcAK; (repeat' split) <;> omega⟩)
            refine i_goto (tgt := 62) G dX7_addTask_54 (by decide) ?_
            refine i_aload_n G dX7_addTask_62 rfl ?_
            refine i_getr G F_X7_33 0 rfl rfl dX7_addTask_63 ?_
            refine j_callE (q0 := 23) (As := []) (st := []) G K_X7_199 (c_hasRoom l hd hR hY  ) rfl rfl rfl (rm_okX (by decide) (by decide)) ⟨Nat.le_of_ble_eq_true rfl, Nat.le_of_ble_eq_true rfl⟩ (Nat.le_of_ble_eq_true rfl) dX7_addTask_66 ?_
            obtain ⟨r66, er66⟩ : ∃ x_ : Int, x_ = (if z 3 0 < 40 then 1 else 0) := ⟨_, rfl⟩
            rw [← er66]
            have b66 : (r66 = 0 ∧ 40 ≤ z 3 0) ∨ (r66 = 1 ∧ z 3 0 < 40) := by rw [er66]; split <;> omega
            refine i_if_ne (tgt := 82) G dX7_addTask_69 (by decide) (by omega) (fun h69 => ?_) (fun h69 => ?_)
            · skip
              refine i_aload_n G dX7_addTask_82 rfl ?_
              refine i_getr G F_X7_33 0 rfl rfl dX7_addTask_83 ?_
              refine i_iload_n G dX7_addTask_86 rfl ?_
              refine i_iload_n G dX7_addTask_87 rfl ?_
              refine i_iload_n G dX7_addTask_88 rfl ?_
              refine j_callZi (q0 := 23) (As := [vi (k), vi (n), vi (u)]) (st := []) G K_X7_205 (c_make l hd hR hY k n u (by omega) (by omega) (by omega) (by omega)) rfl rfl rfl (rm_okX (by decide) (by decide)) ⟨Nat.le_of_ble_eq_true rfl, Nat.le_of_ble_eq_true rfl⟩ (Nat.le_of_ble_eq_true rfl) dX7_addTask_89 (fun r89 z89 q89 => ?_)
              obtain ⟨er89, ez89, hRz89⟩ := q89
              refine x_reti G hr ⟨Nat.le_of_ble_eq_true rfl, Nat.le_of_ble_eq_true rfl⟩ dX7_addTask_92 ?_
              refine ⟨by unfold kcAK; (repeat' split) <;> omega, er89, ez89, hRz89, hY, ?_⟩
              rw [ez89]
              exact CW_k hI_z_y (WF_mk hI_z_y.1 hR (by omega) (by omega) (by omega)) (fun i hi => mkF_k _ _ _ _ (by omega))
            · skip
              refine x_throw (text := "no room for a task") G hT hst XF_ISE (by decide +kernel) dX7_addTask_72 dX7_addTask_75 dX7_addTask_76 dX7_addTask_78 dX7_addTask_81 ⟨Nat.le_of_ble_eq_true rfl, Nat.le_of_ble_eq_true rfl, Nat.le_of_ble_eq_true rfl, Nat.le_of_ble_eq_true rfl⟩ ⟨Nat.le_of_ble_eq_true rfl, Nat.le_of_ble_eq_true rfl⟩ rfl ?_
              exact Or.inr (Or.inr (⟨rfl, by unfold kcAK; (repeat' split) <;> omega⟩))
        · skip
          refine x_throw (text := "danger out of range") G hT hst XF_IAE (by decide +kernel) dX7_addTask_33 dX7_addTask_36 dX7_addTask_37 dX7_addTask_39 dX7_addTask_42 ⟨Nat.le_of_ble_eq_true rfl, Nat.le_of_ble_eq_true rfl, Nat.le_of_ble_eq_true rfl, Nat.le_of_ble_eq_true rfl⟩ ⟨Nat.le_of_ble_eq_true rfl, Nat.le_of_ble_eq_true rfl⟩ rfl ?_
          exact Or.inl ⟨rfl, by unfold kcAK; (repeat' split) <;> omega⟩
    · skip
      refine x_throw (text := "no such kind of task to make") G hT hst XF_IAE (by decide +kernel) dX7_addTask_12 dX7_addTask_15 dX7_addTask_16 dX7_addTask_18 dX7_addTask_21 ⟨Nat.le_of_ble_eq_true rfl, Nat.le_of_ble_eq_true rfl, Nat.le_of_ble_eq_true rfl, Nat.le_of_ble_eq_true rfl⟩ ⟨Nat.le_of_ble_eq_true rfl, Nat.le_of_ble_eq_true rfl⟩ rfl ?_
      exact Or.inl ⟨rfl, by unfold kcAK; (repeat' split) <;> omega⟩
set_option maxHeartbeats 4000000 in
set_option maxRecDepth 100000 in
theorem c_addRanger (l : Launch) (hst : l.stackTraces = false) {D : va_G} {aC : Nat → ClassId} {ad : Nat → Nat} (hd : wDi ad shC) {z y : wZ} (hR : Rng z) (hY : Rng y) (hI_z_y : CW z y) (f : Int) (tl : Int) (hf : -2147483648 ≤ f ∧ f ≤ 2147483647) (htl : -2147483648 ≤ tl ∧ tl ≤ 2147483647) : xMi l D aC ad shC yX7_addRanger cX7_addRanger 3 (.int) (rmX 7 2 12) [.ref (ad 0), vi f, vi tl] z y (fun r_ z2 y2 => kcAR z f tl = 0 ∧ r_ = z 4 0 ∧ z2 = enlF z f tl ∧ Rng z2 ∧ Rng y2 ∧ CW z2 y2) (fun E => (E = eIOB ∧ kcAR z f tl = 1) ∨ (E = eIAE ∧ kcAR z f tl = 2) ∨ (E = eISE ∧ kcAR z f tl = 3)) 2 12 := by
  refine x_i [some (.ref (ad 0)), some (vi (f)), some (vi (tl))] (by decide +kernel) rfl (Nat.le_of_ble_eq_true rfl) rfl hd ?_
  intro p e s m args below meth c A G hr hT
  have q0 : 0 ≤ z 0 0 ∧ z 0 0 ≤ 16 := hR 0 0
  have q4 : 0 ≤ z 4 0 ∧ z 4 0 ≤ 4 := hR 4 0
  refine i_aload_n G dX7_addRanger_0 rfl ?_
  refine i_iload_n G dX7_addRanger_1 rfl ?_
  refine x_callq (q0 := 0) (As := [vi (f)]) (st := []) G hT K_X7_69 (c_requireFork l hst hd hR hY f (by first | assumption | omega)) rfl rfl rfl (xrm_ok (by decide) (by decide)) ⟨Nat.le_of_ble_eq_true rfl, Nat.le_of_ble_eq_true rfl⟩ ⟨Nat.le_of_ble_eq_true rfl, Nat.le_of_ble_eq_true rfl⟩ (Nat.le_of_ble_eq_true rfl) dX7_addRanger_2 (fun E hE => ?_) (fun q2 => ?_)
  · obtain ⟨rfl, hn⟩ := hE
    exact Or.inl ⟨rfl, by unfold kcAR; (repeat' split) <;> omega⟩
  refine i_iload_n G dX7_addRanger_5 rfl ?_
  refine i_if_lt (tgt := 14) G dX7_addRanger_6 (by decide) (by omega) (fun h6 => ?_) (fun h6 => ?_)
  · skip
    refine x_throw (text := "no such tools") G hT hst XF_IAE (by decide +kernel) dX7_addRanger_14 dX7_addRanger_17 dX7_addRanger_18 dX7_addRanger_20 dX7_addRanger_23 ⟨Nat.le_of_ble_eq_true rfl, Nat.le_of_ble_eq_true rfl, Nat.le_of_ble_eq_true rfl, Nat.le_of_ble_eq_true rfl⟩ ⟨Nat.le_of_ble_eq_true rfl, Nat.le_of_ble_eq_true rfl⟩ rfl ?_
    exact Or.inr (Or.inl ⟨rfl, by unfold kcAR; (repeat' split) <;> omega⟩)
  · skip
    refine i_iload_n G dX7_addRanger_9 rfl ?_
    refine i_iconst G dX7_addRanger_10 ?_
    refine i_icmp_le (tgt := 24) G dX7_addRanger_11 (by decide) (by omega) (by omega) (fun h11 => ?_) (fun h11 => ?_)
    · skip
      refine i_aload_n G dX7_addRanger_24 rfl ?_
      refine i_getr G F_X7_40 0 rfl rfl dX7_addRanger_25 ?_
      refine j_getz G F_X7_239 28 rfl rfl (by decide) dX7_addRanger_28 ?_
      have b28 : 0 ≤ z 4 0 ∧ z 4 0 ≤ 4 := hR 4 _
      refine i_iconst G dX7_addRanger_31 ?_
      refine i_icmp_lt (tgt := 45) G dX7_addRanger_32 (by decide) (by omega) (by omega) (fun h32 => ?_) (fun h32 => ?_)
      · skip
        refine i_aload_n G dX7_addRanger_45 rfl ?_
        refine i_getr G F_X7_40 0 rfl rfl dX7_addRanger_46 ?_
        refine i_iload_n G dX7_addRanger_49 rfl ?_
        refine i_iload_n G dX7_addRanger_50 rfl ?_
        refine j_callZi (q0 := 28) (As := [vi (f), vi (tl)]) (st := []) G K_X7_242 (c_enlist l hd hR hY f tl (by omega) (by omega) (by omega)) rfl rfl rfl (rm_okX (by decide) (by decide)) ⟨Nat.le_of_ble_eq_true rfl, Nat.le_of_ble_eq_true rfl⟩ (Nat.le_of_ble_eq_true rfl) dX7_addRanger_51 (fun r51 z51 q51 => ?_)
        obtain ⟨er51, ez51, hRz51⟩ := q51
        refine x_reti G hr ⟨Nat.le_of_ble_eq_true rfl, Nat.le_of_ble_eq_true rfl⟩ dX7_addRanger_54 ?_
        refine ⟨by unfold kcAR; (repeat' split) <;> omega, er51, ez51, hRz51, hY, ?_⟩
        rw [ez51]
        exact CW_k hI_z_y (WF_enl hI_z_y.1 (by omega)) (fun i hi => enlF_k _ _ _ (by omega))
      · skip
        refine x_throw (text := "no room for a ranger") G hT hst XF_ISE (by decide +kernel) dX7_addRanger_35 dX7_addRanger_38 dX7_addRanger_39 dX7_addRanger_41 dX7_addRanger_44 ⟨Nat.le_of_ble_eq_true rfl, Nat.le_of_ble_eq_true rfl, Nat.le_of_ble_eq_true rfl, Nat.le_of_ble_eq_true rfl⟩ ⟨Nat.le_of_ble_eq_true rfl, Nat.le_of_ble_eq_true rfl⟩ rfl ?_
        exact Or.inr (Or.inr (⟨rfl, by unfold kcAR; (repeat' split) <;> omega⟩))
    · skip
      refine x_throw (text := "no such tools") G hT hst XF_IAE (by decide +kernel) dX7_addRanger_14 dX7_addRanger_17 dX7_addRanger_18 dX7_addRanger_20 dX7_addRanger_23 ⟨Nat.le_of_ble_eq_true rfl, Nat.le_of_ble_eq_true rfl, Nat.le_of_ble_eq_true rfl, Nat.le_of_ble_eq_true rfl⟩ ⟨Nat.le_of_ble_eq_true rfl, Nat.le_of_ble_eq_true rfl⟩ rfl ?_
      exact Or.inr (Or.inl ⟨rfl, by unfold kcAR; (repeat' split) <;> omega⟩)
set_option maxHeartbeats 4000000 in
set_option maxRecDepth 100000 in
theorem c_print (l : Launch) (hst : l.stackTraces = false) {D : va_G} {aC : Nat → ClassId} {ad : Nat → Nat} (hd : wDi ad shC) {z y : wZ} (hR : Rng z) (hY : Rng y) (hI_z_y : CW z y)   : xMi l D aC ad shC yX7_print cX7_print 1 (.int) (rmX 6 1 6) [.ref (ad 0)] z y (fun r_ z2 y2 => kcPr z = 0 ∧ r_ = z 5 0 ∧ z2 = drwF z (z 7 0) ∧ Rng z2 ∧ Rng y2 ∧ CW z2 y2) (fun E => (E = eISE ∧ kcPr z = 1)) 1 6 := by
  refine x_i [some (.ref (ad 0))] (by decide +kernel) rfl (Nat.le_of_ble_eq_true rfl) rfl hd ?_
  intro p e s m args below meth c A G hr hT
  have q5 : 0 ≤ z 5 0 ∧ z 5 0 ≤ 10 := hR 5 0
  have q7 : 0 ≤ z 7 0 ∧ z 7 0 ≤ 50 := hR 7 0
  refine i_aload_n G dX7_print_0 rfl ?_
  refine i_getr G F_X7_47 0 rfl rfl dX7_print_1 ?_
  refine j_getz G F_X7_257 32 rfl rfl (by decide) dX7_print_4 ?_
  have b4 : 0 ≤ z 5 0 ∧ z 5 0 ≤ 10 := hR 5 _
  refine i_bipush G dX7_print_7 (by decide) ?_
  refine i_icmp_lt (tgt := 23) G dX7_print_9 (by decide) (by omega) (by omega) (fun h9 => ?_) (fun h9 => ?_)
  · skip
    refine i_aload_n G dX7_print_23 rfl ?_
    refine i_getr G F_X7_47 0 rfl rfl dX7_print_24 ?_
    refine i_aload_n G dX7_print_27 rfl ?_
    refine i_getr G F_X7_10 0 rfl rfl dX7_print_28 ?_
    refine i_aload_n G dX7_print_31 rfl ?_
    refine j_getz G F_X7_51 0 rfl rfl (by decide) dX7_print_32 ?_
    have b32 : 0 ≤ z 7 0 ∧ z 7 0 ≤ 50 := hR 7 _
    refine j_callZi (q0 := 32) (As := [.ref (ad 1), vi ((z 7 0))]) (st := []) G K_X7_260 (c_draw l hd hR hY (z 7 0) (by omega) (by omega)) rfl rfl rfl (rm_okX (by decide) (by decide)) ⟨Nat.le_of_ble_eq_true rfl, Nat.le_of_ble_eq_true rfl⟩ (Nat.le_of_ble_eq_true rfl) dX7_print_35 (fun r35 z35 q35 => ?_)
    obtain ⟨er35, ez35, hRz35⟩ := q35
    refine x_reti G hr ⟨Nat.le_of_ble_eq_true rfl, Nat.le_of_ble_eq_true rfl⟩ dX7_print_38 ?_
    refine ⟨by unfold kcPr; (repeat' split) <;> omega, er35, ez35, hRz35, hY, ?_⟩
    rw [ez35]
    exact CW_k hI_z_y (WF_drw hI_z_y.1 _) (fun i hi => drwF_k _ _ (by omega))
  · skip
    refine x_throwW (text := "no room for a map") G hT hst XF_ISE (by decide +kernel) dX7_print_12 dX7_print_15 dX7_print_16 dX7_print_19 dX7_print_22 ⟨Nat.le_of_ble_eq_true rfl, Nat.le_of_ble_eq_true rfl, Nat.le_of_ble_eq_true rfl, Nat.le_of_ble_eq_true rfl⟩ ⟨Nat.le_of_ble_eq_true rfl, Nat.le_of_ble_eq_true rfl⟩ rfl ?_
    exact ⟨rfl, by unfold kcPr; (repeat' split) <;> omega⟩
