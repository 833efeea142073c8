theorem i_dup2 {p : Program} {l : Launch} {e : Env} {R : Room} {s : State} {m : MethodId} {args : Array Value} {below : List Frame} {meth : Method} {c : Code} {cc : ByteArray} {own : String} {nL : Nat} {D : va_G} {aC : Nat → ClassId} {ad : Nat → Nat} {A : Nat → Prop} {sh : wSh} {Q : State → Prop} {cells slots : Nat} {z : wZ} {pc : Nat} {L : List (Option Value)} {st : List Value} (G : wG p s m args meth c cc own nL D aC ad A sh) {v w : Value} (hv : v.category = 1) (hw : w.category = 1) (hdg : decode cc pc = .ok (.dup2, 1)) (k : JW p l e R s m args below meth c nL D aC ad A sh Q cells slots z (pc + 1) L (v :: w :: v :: w :: st)) : JW p l e R s m args below meth c nL D aC ad A sh Q cells slots z pc L (v :: w :: st) :=
  fun H locs ls hP hS hl => lv_dup2_11 G.1 G.2.1 hdg hv hw (k H locs ls hP hS hl)
/-- the minutes by a board's trail, and its danger -/
def mbF (z : wZ) (D : Int → Int → Int) (b : Int) : Int := ofm z (z 19 b) (z 17 b) + D (oth z (z 19 b) (z 17 b)) (z 18 b)
def dgC (z : wZ) (g : Nat) (D : Int → Int → Int) (b : Int) : Int := if z g (z 19 b) ≠ 0 then 1000 else if 1000000 ≤ mbF z D b then 1000 else if mbF z D b - z 20 b < 30 then 0 else if 999 < mbF z D b - z 20 b then 999 else mbF z D b - z 20 b
theorem dgC_in (z : wZ) (g : Nat) (D : Int → Int → Int) (b : Int) : 0 ≤ dgC z g D b ∧ dgC z g D b ≤ 1000 := by
  unfold dgC; (repeat' split) <;> omega
def cntL (z : wZ) (t : Int) : Nat → Int → Int → Int
  | 0, _, acc => acc
  | n + 1, w, acc => cntL z t n (w + 1) (if z 32 (t * 10 + w) = 0 then acc else acc + 1)
def trL (z : wZ) (t word : Int) : Nat → Int → Int → Int
  | 0, _, acc => acc
  | n + 1, w, acc => trL z t word n (w + 1) (if z 32 (t * 10 + w) = word then acc + z 22 w else acc)
theorem trL_in {z : wZ} (h : Rng z) (t word : Int) : ∀ (n : Nat) (w acc : Int), 0 ≤ acc → 0 ≤ trL z t word n w acc ∧ trL z t word n w acc ≤ acc + 100 * n
  | 0, w, acc, h0 => by unfold trL; omega
  | n + 1, w, acc, h0 => by
    have h1 : 0 ≤ z 22 w ∧ z 22 w ≤ 100 := h 22 w
    unfold trL
    split
    · have := trL_in h t word n (w + 1) (acc + z 22 w) (by omega); omega
    · have := trL_in h t word n (w + 1) acc (by omega); omega
def blvF (z : wZ) (t was : Int) : Int := if 100 ≤ trL z t 2 10 0 0 ∧ trL z t 1 10 0 0 < trL z t 2 10 0 0 then 1 else if 100 ≤ trL z t 1 10 0 0 ∧ trL z t 2 10 0 0 ≤ trL z t 1 10 0 0 then 0 else was
/-- one walker judged of a trail that is seen: r is the word that is right -/
def jdgS (z : wZ) (t r w : Int) : wZ := zp (if z 32 (t * 10 + w) = r then zp z 22 w (if 100 < z 22 w + 10 then 100 else z 22 w + 10) else if z 32 (t * 10 + w) = 0 then z else zp z 22 w (if z 22 w - 20 < 0 then 0 else z 22 w - 20)) 32 (t * 10 + w) 0
def jdgL (t r : Int) : Nat → Int → wZ → wZ
  | 0, _, z => z
  | n + 1, w, z => jdgL t r n (w + 1) (jdgS z t r w)
def mkF (z : wZ) (kd nb dg : Int) : wZ := zp (zp (zp (zp (zp z 3 0 (z 3 0 + 1)) 23 (z 3 0) kd) 24 (z 3 0) nb) 25 (z 3 0) dg) 26 (z 3 0) (-1)
def askL (z : wZ) (kd nb : Int) : Nat → Int → Int
  | 0, _ => 0
  | n + 1, t => if z 26 t = -1 ∧ z 23 t = kd ∧ z 24 t = nb then 1 else askL z kd nb n (t + 1)
def adL (z : wZ) (rn : Int) : Nat → Int → Int
  | 0, _ => 1
  | n + 1, t => if z 26 t ≠ -1 ∧ (z 26 t < 0 ∨ rn ≤ z 26 t) then 0 else adL z rn n (t + 1)
def enlF (z : wZ) (f tl : Int) : wZ := zp (zp (zp z 4 0 (z 4 0 + 1)) 27 (z 4 0) f) 28 (z 4 0) tl
def hasT (z : wZ) (r tool : Int) : Int := if tool = 0 then 1 else if tool = 1 then z 28 r % 2 else z 28 r / 2
def spdF (z : wZ) (r mn : Int) : wZ := zp (zp z 8 0 (z 8 0 - mn)) 29 r (z 29 r + mn)
def drwL (mp : Int) : Nat → Int → wZ → wZ
  | 0, _, z => z
  | n + 1, t, z => drwL mp n (t + 1) (zp z 30 (mp * 24 + t) (if z 16 t = 0 then 1 else 0))
def drwF (z : wZ) (td : Int) : wZ := drwL (z 5 0) (z 1 0).toNat 0 (zp (zp z 5 0 (z 5 0 + 1)) 31 (z 5 0) td)
theorem drwL_1 (mp : Int) : ∀ (n : Nat) (t : Int) (z : wZ) (k : Nat), k ≠ 30 → drwL mp n t z k = z k
  | 0, _, _, _, _ => rfl
  | n + 1, t, z, k, h => by unfold drwL; rw [drwL_1 mp n _ _ k h, zp_nk _ h]
theorem tl_and {x : Int} (h : 0 ≤ x ∧ x ≤ 3) : Int32.ofInt x &&& Int32.ofInt 0 = Int32.ofInt 0 ∧ Int32.ofInt x &&& Int32.ofInt 1 = Int32.ofInt (x % 2) ∧ Int32.ofInt x &&& Int32.ofInt 2 = Int32.ofInt (x / 2 * 2) := by
  have : x = 0 ∨ x = 1 ∨ x = 2 ∨ x = 3 := by omega
  rcases this with rfl | rfl | rfl | rfl <;> decide

set_option maxHeartbeats 4000000 in
set_option maxRecDepth 100000 in
theorem c_dangerBy_0 (l : Launch) {D : va_G} {aC : Nat → ClassId} {ad : Nat → Nat} (hd : wDi ad shC) {z y : wZ} (hR : Rng z) (hY : Rng y) (b : Int) (hb : 0 ≤ b ∧ b ≤ 29) : cE l D aC ad shC yX0_dangerBy cX0_dangerBy 6 (.int) (rmL 2) [.ref (ad 14), vi b, .ref (ad 1), .ref (ad 10)] z y (dgC z 16 (cD y 65) b) := by
  refine c_i [some (.ref (ad 14)), some (vi (b)), some (.ref (ad 1)), some (.ref (ad 10)), none, none] (by decide +kernel) rfl (Nat.le_of_ble_eq_true rfl) rfl hd ?_
  intro p e s m args below meth c A G hr
  refine i_aload_n G dX0_dangerBy_0 rfl ?_
  refine i_getr G F_X0_35 10 rfl rfl dX0_dangerBy_1 ?_
  refine i_aload_n G dX0_dangerBy_4 rfl ?_
  refine i_getr G F_X0_18 14 rfl rfl dX0_dangerBy_5 ?_
  refine i_iload_n G dX0_dangerBy_8 rfl ?_
  refine j_iald_z G 17 rfl (by decide) (by decide) (by omega) (by omega) dX0_dangerBy_9 ?_
  have b9 : 0 ≤ z 19 b ∧ z 19 b ≤ 23 := hR 19 _
  refine j_zald_z G 11 rfl (by decide) (by decide) (by omega) (by omega) dX0_dangerBy_10 ?_
  have b10 : 0 ≤ z 16 (z 19 b) ∧ z 16 (z 19 b) ≤ 1 := hR 16 _
  refine i_if_eq (tgt := 18) G dX0_dangerBy_11 (by decide) (by omega) (fun h11 => ?_) (fun h11 => ?_)
  · skip
    refine i_aload_n G dX0_dangerBy_18 rfl ?_
    refine i_aload_n G dX0_dangerBy_19 rfl ?_
    refine i_getr G F_X0_18 14 rfl rfl dX0_dangerBy_20 ?_
    refine i_iload_n G dX0_dangerBy_23 rfl ?_
    refine j_iald_z G 17 rfl (by decide) (by decide) (by omega) (by omega) dX0_dangerBy_24 ?_
    have b24 : 0 ≤ z 19 b ∧ z 19 b ≤ 23 := hR 19 _
    refine i_aload_n G dX0_dangerBy_25 rfl ?_
    refine i_getr G F_X0_9 14 rfl rfl dX0_dangerBy_26 ?_
    refine i_iload_n G dX0_dangerBy_29 rfl ?_
    refine j_iald_z G 15 rfl (by decide) (by decide) (by omega) (by omega) dX0_dangerBy_30 ?_
    have b30 : 0 ≤ z 17 b ∧ z 17 b ≤ 15 := hR 17 _
    refine i_aload_n G dX0_dangerBy_31 rfl ?_
    refine i_getr G F_X0_15 14 rfl rfl dX0_dangerBy_32 ?_
    refine i_iload_n G dX0_dangerBy_35 rfl ?_
    refine j_iald_z G 16 rfl (by decide) (by decide) (by omega) (by omega) dX0_dangerBy_36 ?_
    have b36 : 0 ≤ z 18 b ∧ z 18 b ≤ 15 := hR 18 _
    refine i_aload_n G dX0_dangerBy_37 rfl ?_
    refine j_callE (q0 := 1) (As := [vi ((z 19 b)), vi ((z 17 b)), vi ((z 18 b)), .ref (ad 10)]) (st := []) G K_X0_40 (c_minutesBy_0 l hd hR hY (z 19 b) (z 17 b) (z 18 b) (by omega) (by omega) (by omega)) rfl rfl rfl (rm_ok (by decide) (by decide)) ⟨Nat.le_refl _, Nat.le_refl _⟩ (Nat.le_of_ble_eq_true rfl) dX0_dangerBy_38 ?_
    have b38 : 0 ≤ (ofm z (z 19 b) (z 17 b) + y 65 (oth z (z 19 b) (z 17 b) * 16 + (z 18 b))) ∧ (ofm z (z 19 b) (z 17 b) + y 65 (oth z (z 19 b) (z 17 b) * 16 + (z 18 b))) ≤ 1000300 := sum_in (ofm_in hR _ _) (hY 65 _)
    refine i_istore (L' := [some (.ref (ad 14)), some (vi (b)), some (.ref (ad 1)), some (.ref (ad 10)), some (vi ((ofm z (z 19 b) (z 17 b) + y 65 (oth z (z 19 b) (z 17 b) * 16 + (z 18 b))))), none]) G dX0_dangerBy_41 (by decide) rfl ?_
    refine i_iload G dX0_dangerBy_43 rfl ?_
    refine i_ldc G 1000000 kc_X0_46 dX0_dangerBy_45 ?_
    refine i_icmp_lt (tgt := 54) G dX0_dangerBy_47 (by decide) (by omega) (by omega) (fun h47 => ?_) (fun h47 => ?_)
    · skip
      refine i_iload G dX0_dangerBy_54 rfl ?_
      refine i_aload_n G dX0_dangerBy_56 rfl ?_
      refine i_getr G F_X0_21 14 rfl rfl dX0_dangerBy_57 ?_
      refine i_iload_n G dX0_dangerBy_60 rfl ?_
      refine j_iald_z G 18 rfl (by decide) (by decide) (by omega) (by omega) dX0_dangerBy_61 ?_
      have b61 : 0 ≤ z 20 b ∧ z 20 b ≤ 300 := hR 20 _
      refine i_isub G dX0_dangerBy_62 ?_
      refine i_istore (L' := [some (.ref (ad 14)), some (vi (b)), some (.ref (ad 1)), some (.ref (ad 10)), some (vi ((ofm z (z 19 b) (z 17 b) + y 65 (oth z (z 19 b) (z 17 b) * 16 + (z 18 b))))), some (vi (((ofm z (z 19 b) (z 17 b) + y 65 (oth z (z 19 b) (z 17 b) * 16 + (z 18 b))) - (z 20 b))))]) G dX0_dangerBy_63 (by decide) rfl ?_
      refine i_iload G dX0_dangerBy_65 rfl ?_
      refine i_bipush G dX0_dangerBy_67 (by decide) ?_
      refine i_icmp_ge (tgt := 76) G dX0_dangerBy_69 (by decide) (by omega) (by omega) (fun h69 => ?_) (fun h69 => ?_)
      · skip
        refine i_iload G dX0_dangerBy_76 rfl ?_
        refine i_sipush G dX0_dangerBy_78 (by decide) ?_
        refine i_min (st := []) G K_X0_47 ⟨by decide, Nat.le_of_ble_eq_true rfl, Nat.le_refl _, Nat.le_refl _⟩ (by omega) (by omega) dX0_dangerBy_81 ?_
        obtain ⟨m81, em81⟩ : ∃ x_ : Int, x_ = (if 999 < ((ofm z (z 19 b) (z 17 b) + y 65 (oth z (z 19 b) (z 17 b) * 16 + (z 18 b))) - (z 20 b)) then 999 else ((ofm z (z 19 b) (z 17 b) + y 65 (oth z (z 19 b) (z 17 b) * 16 + (z 18 b))) - (z 20 b))) := ⟨_, rfl⟩
        rw [← em81]
        have bm81 : (999 ≤ ((ofm z (z 19 b) (z 17 b) + y 65 (oth z (z 19 b) (z 17 b) * 16 + (z 18 b))) - (z 20 b)) ∧ m81 = 999) ∨ (((ofm z (z 19 b) (z 17 b) + y 65 (oth z (z 19 b) (z 17 b) * 16 + (z 18 b))) - (z 20 b)) ≤ 999 ∧ m81 = ((ofm z (z 19 b) (z 17 b) + y 65 (oth z (z 19 b) (z 17 b) * 16 + (z 18 b))) - (z 20 b))) := by rw [em81]; split <;> omega
        refine j_reti G hr dX0_dangerBy_84 ?_
        refine ⟨?_, rfl, rfl⟩
        unfold dgC mbF
        simp only [cD]
        (repeat' split) <;> first | rfl | omega
      · skip
        refine i_iconst G dX0_dangerBy_72 ?_
        refine i_goto (tgt := 84) G dX0_dangerBy_73 (by decide) ?_
        refine j_reti G hr dX0_dangerBy_84 ?_
        refine ⟨?_, rfl, rfl⟩
        unfold dgC mbF
        simp only [cD]
        (repeat' split) <;> first | rfl | omega
    · skip
      refine i_sipush G dX0_dangerBy_50 (by decide) ?_
      refine j_reti G hr dX0_dangerBy_53 ?_
      refine ⟨?_, rfl, rfl⟩
      unfold dgC mbF
      simp only [cD]
      (repeat' split) <;> first | rfl | omega
  · skip
    refine i_sipush G dX0_dangerBy_14 (by decide) ?_
    refine j_reti G hr dX0_dangerBy_17 ?_
    refine ⟨?_, rfl, rfl⟩
    unfold dgC mbF
    simp only [cD]
    (repeat' split) <;> first | rfl | omega
set_option maxHeartbeats 4000000 in
set_option maxRecDepth 100000 in
theorem c_dangerBy_1 (l : Launch) {D : va_G} {aC : Nat → ClassId} {ad : Nat → Nat} (hd : wDi ad shC) {z y : wZ} (hR : Rng z) (hY : Rng y) (b : Int) (hb : 0 ≤ b ∧ b ≤ 29) : cE l D aC ad shC yX0_dangerBy cX0_dangerBy 6 (.int) (rmL 2) [.ref (ad 14), vi b, .ref (ad 1), .ref (ad 7)] z y (dgC z 15 (cD y 64) b) := by
  refine c_i [some (.ref (ad 14)), some (vi (b)), some (.ref (ad 1)), some (.ref (ad 7)), none, none] (by decide +kernel) rfl (Nat.le_of_ble_eq_true rfl) rfl hd ?_
  intro p e s m args below meth c A G hr
  refine i_aload_n G dX0_dangerBy_0 rfl ?_
  refine i_getr G F_X0_35 7 rfl rfl dX0_dangerBy_1 ?_
  refine i_aload_n G dX0_dangerBy_4 rfl ?_
  refine i_getr G F_X0_18 14 rfl rfl dX0_dangerBy_5 ?_
  refine i_iload_n G dX0_dangerBy_8 rfl ?_
  refine j_iald_z G 17 rfl (by decide) (by decide) (by omega) (by omega) dX0_dangerBy_9 ?_
  have b9 : 0 ≤ z 19 b ∧ z 19 b ≤ 23 := hR 19 _
  refine j_zald_z G 8 rfl (by decide) (by decide) (by omega) (by omega) dX0_dangerBy_10 ?_
  have b10 : 0 ≤ z 15 (z 19 b) ∧ z 15 (z 19 b) ≤ 1 := hR 15 _
  refine i_if_eq (tgt := 18) G dX0_dangerBy_11 (by decide) (by omega) (fun h11 => ?_) (fun h11 => ?_)
  · skip
    refine i_aload_n G dX0_dangerBy_18 rfl ?_
    refine i_aload_n G dX0_dangerBy_19 rfl ?_
    refine i_getr G F_X0_18 14 rfl rfl dX0_dangerBy_20 ?_
    refine i_iload_n G dX0_dangerBy_23 rfl ?_
    refine j_iald_z G 17 rfl (by decide) (by decide) (by omega) (by omega) dX0_dangerBy_24 ?_
    have b24 : 0 ≤ z 19 b ∧ z 19 b ≤ 23 := hR 19 _
    refine i_aload_n G dX0_dangerBy_25 rfl ?_
    refine i_getr G F_X0_9 14 rfl rfl dX0_dangerBy_26 ?_
    refine i_iload_n G dX0_dangerBy_29 rfl ?_
    refine j_iald_z G 15 rfl (by decide) (by decide) (by omega) (by omega) dX0_dangerBy_30 ?_
    have b30 : 0 ≤ z 17 b ∧ z 17 b ≤ 15 := hR 17 _
    refine i_aload_n G dX0_dangerBy_31 rfl ?_
    refine i_getr G F_X0_15 14 rfl rfl dX0_dangerBy_32 ?_
    refine i_iload_n G dX0_dangerBy_35 rfl ?_
    refine j_iald_z G 16 rfl (by decide) (by decide) (by omega) (by omega) dX0_dangerBy_36 ?_
    have b36 : 0 ≤ z 18 b ∧ z 18 b ≤ 15 := hR 18 _
    refine i_aload_n G dX0_dangerBy_37 rfl ?_
    refine j_callE (q0 := 1) (As := [vi ((z 19 b)), vi ((z 17 b)), vi ((z 18 b)), .ref (ad 7)]) (st := []) G K_X0_40 (c_minutesBy_1 l hd hR hY (z 19 b) (z 17 b) (z 18 b) (by omega) (by omega) (by omega)) rfl rfl rfl (rm_ok (by decide) (by decide)) ⟨Nat.le_refl _, Nat.le_refl _⟩ (Nat.le_of_ble_eq_true rfl) dX0_dangerBy_38 ?_
    have b38 : 0 ≤ (ofm z (z 19 b) (z 17 b) + y 64 (oth z (z 19 b) (z 17 b) * 16 + (z 18 b))) ∧ (ofm z (z 19 b) (z 17 b) + y 64 (oth z (z 19 b) (z 17 b) * 16 + (z 18 b))) ≤ 1000300 := sum_in (ofm_in hR _ _) (hY 64 _)
    refine i_istore (L' := [some (.ref (ad 14)), some (vi (b)), some (.ref (ad 1)), some (.ref (ad 7)), some (vi ((ofm z (z 19 b) (z 17 b) + y 64 (oth z (z 19 b) (z 17 b) * 16 + (z 18 b))))), none]) G dX0_dangerBy_41 (by decide) rfl ?_
    refine i_iload G dX0_dangerBy_43 rfl ?_
    refine i_ldc G 1000000 kc_X0_46 dX0_dangerBy_45 ?_
    refine i_icmp_lt (tgt := 54) G dX0_dangerBy_47 (by decide) (by omega) (by omega) (fun h47 => ?_) (fun h47 => ?_)
    · skip
      refine i_iload G dX0_dangerBy_54 rfl ?_
      refine i_aload_n G dX0_dangerBy_56 rfl ?_
      refine i_getr G F_X0_21 14 rfl rfl dX0_dangerBy_57 ?_
      refine i_iload_n G dX0_dangerBy_60 rfl ?_
      refine j_iald_z G 18 rfl (by decide) (by decide) (by omega) (by omega) dX0_dangerBy_61 ?_
      have b61 : 0 ≤ z 20 b ∧ z 20 b ≤ 300 := hR 20 _
      refine i_isub G dX0_dangerBy_62 ?_
      refine i_istore (L' := [some (.ref (ad 14)), some (vi (b)), some (.ref (ad 1)), some (.ref (ad 7)), some (vi ((ofm z (z 19 b) (z 17 b) + y 64 (oth z (z 19 b) (z 17 b) * 16 + (z 18 b))))), some (vi (((ofm z (z 19 b) (z 17 b) + y 64 (oth z (z 19 b) (z 17 b) * 16 + (z 18 b))) - (z 20 b))))]) G dX0_dangerBy_63 (by decide) rfl ?_
      refine i_iload G dX0_dangerBy_65 rfl ?_
      refine i_bipush G dX0_dangerBy_67 (by decide) ?_
      refine i_icmp_ge (tgt := 76) G dX0_dangerBy_69 (by decide) (by omega) (by omega) (fun h69 => ?_) (fun h69 => ?_)
      · skip
        refine i_iload G dX0_dangerBy_76 rfl ?_
        refine i_sipush G dX0_dangerBy_78 (by decide) ?_
        refine i_min (st := []) G K_X0_47 ⟨by decide, Nat.le_of_ble_eq_true rfl, Nat.le_refl _, Nat.le_refl _⟩ (by omega) (by omega) dX0_dangerBy_81 ?_
        obtain ⟨m81, em81⟩ : ∃ x_ : Int, x_ = (if 999 < ((ofm z (z 19 b) (z 17 b) + y 64 (oth z (z 19 b) (z 17 b) * 16 + (z 18 b))) - (z 20 b)) then 999 else ((ofm z (z 19 b) (z 17 b) + y 64 (oth z (z 19 b) (z 17 b) * 16 + (z 18 b))) - (z 20 b))) := ⟨_, rfl⟩
        rw [← em81]
        have bm81 : (999 ≤ ((ofm z (z 19 b) (z 17 b) + y 64 (oth z (z 19 b) (z 17 b) * 16 + (z 18 b))) - (z 20 b)) ∧ m81 = 999) ∨ (((ofm z (z 19 b) (z 17 b) + y 64 (oth z (z 19 b) (z 17 b) * 16 + (z 18 b))) - (z 20 b)) ≤ 999 ∧ m81 = ((ofm z (z 19 b) (z 17 b) + y 64 (oth z (z 19 b) (z 17 b) * 16 + (z 18 b))) - (z 20 b))) := by rw [em81]; split <;> omega
        refine j_reti G hr dX0_dangerBy_84 ?_
        refine ⟨?_, rfl, rfl⟩
        unfold dgC mbF
        simp only [cD]
        (repeat' split) <;> first | rfl | omega
      · skip
        refine i_iconst G dX0_dangerBy_72 ?_
        refine i_goto (tgt := 84) G dX0_dangerBy_73 (by decide) ?_
        refine j_reti G hr dX0_dangerBy_84 ?_
        refine ⟨?_, rfl, rfl⟩
        unfold dgC mbF
        simp only [cD]
        (repeat' split) <;> first | rfl | omega
    · skip
      refine i_sipush G dX0_dangerBy_50 (by decide) ?_
      refine j_reti G hr dX0_dangerBy_53 ?_
      refine ⟨?_, rfl, rfl⟩
      unfold dgC mbF
      simp only [cD]
      (repeat' split) <;> first | rfl | omega
  · skip
    refine i_sipush G dX0_dangerBy_14 (by decide) ?_
    refine j_reti G hr dX0_dangerBy_17 ?_
    refine ⟨?_, rfl, rfl⟩
    unfold dgC mbF
    simp only [cD]
    (repeat' split) <;> first | rfl | omega
set_option maxHeartbeats 4000000 in
set_option maxRecDepth 100000 in
theorem c_note (l : Launch) {D : va_G} {aC : Nat → ClassId} {ad : Nat → Nat} (hd : wDi ad shC) {z y : wZ} (hR : Rng z) (hY : Rng y) (w : Int) (t : Int) (g : Int) (hw : 0 ≤ w ∧ w ≤ 9) (ht : 0 ≤ t ∧ t < 24) (hg : g = 0 ∨ g = 1) : cZv l D aC ad shC yX6_note cX6_note 4 (rmL 0) [.ref (ad 20), vi w, vi t, vi g] z y (fun z' => z' = zp z 32 (t * 10 + w) (if g = 0 then 1 else 2) ∧ Rng z') := by
  refine c_v [some (.ref (ad 20)), some (vi (w)), some (vi (t)), some (vi (g))] (by decide +kernel) rfl (Nat.le_of_ble_eq_true rfl) rfl hd ?_
  intro p e s m args below meth c A G hr
  refine i_aload_n G dX6_note_0 rfl ?_
  refine i_getr G F_X6_15 20 rfl rfl dX6_note_1 ?_
  refine i_iload_n G dX6_note_4 rfl ?_
  refine i_bipush G dX6_note_5 (by decide) ?_
  refine i_imul G dX6_note_7 ?_
  refine i_iload_n G dX6_note_8 rfl ?_
  refine i_iadd G dX6_note_9 ?_
  refine i_iload_n G dX6_note_10 rfl ?_
  refine i_if_eq (tgt := 18) G dX6_note_11 (by decide) (by omega) (fun h11 => ?_) (fun h11 => ?_)
  · skip
    refine i_iconst G dX6_note_18 ?_
    refine j_iast_z G 22 rfl (by decide) (by decide) (by omega) (by omega) (by decide) hR (by show (0 : Int) ≤ _ ∧ _ ≤ (2 : Int); omega) dX6_note_19 (fun z19 ez19 hRz19 => ?_)
    refine j_retv G hr dX6_note_20 ?_
    refine ⟨rfl, ?_, hRz19⟩
    rw [ez19]
    first | rw [if_pos (by omega)] | rw [if_neg (by omega)]
  · skip
    refine i_iconst G dX6_note_14 ?_
    refine i_goto (tgt := 19) G dX6_note_15 (by decide) ?_
    refine j_iast_z G 22 rfl (by decide) (by decide) (by omega) (by omega) (by decide) hR (by show (0 : Int) ≤ _ ∧ _ ≤ (2 : Int); omega) dX6_note_19 (fun z19 ez19 hRz19 => ?_)
    refine j_retv G hr dX6_note_20 ?_
    refine ⟨rfl, ?_, hRz19⟩
    rw [ez19]
    first | rw [if_pos (by omega)] | rw [if_neg (by omega)]
set_option maxHeartbeats 4000000 in
set_option maxRecDepth 100000 in
theorem c_countNotes (l : Launch) {D : va_G} {aC : Nat → ClassId} {ad : Nat → Nat} (hd : wDi ad shC) {z y : wZ} (hR : Rng z) (hY : Rng y) (t : Int) (ht : 0 ≤ t ∧ t < 24) : cE l D aC ad shC yX6_countNotes cX6_countNotes 4 (.int) (rmL 0) [.ref (ad 20), vi t] z y (cntL z t 10 0 0) := by
  refine c_i [some (.ref (ad 20)), some (vi (t)), none, none] (by decide +kernel) rfl (Nat.le_of_ble_eq_true rfl) rfl hd ?_
  intro p e s m args below meth c A G hr
  refine i_iconst G dX6_countNotes_0 ?_
  refine i_istore_n (L' := [some (.ref (ad 20)), some (vi (t)), some (vi (0)), none]) G dX6_countNotes_1 (by decide) rfl ?_
  refine i_iconst G dX6_countNotes_2 ?_
  refine i_istore_n (L' := [some (.ref (ad 20)), some (vi (t)), some (vi (0)), some (vi (0))]) G dX6_countNotes_3 (by decide) rfl ?_
  have lp4 : ∀ (n4 : Nat) (acc w : Int), (0 ≤ w) → (w + n4 = 10) → (cntL z t n4 w acc = cntL z t 10 0 0) → JW p l e (rmL 0) s m args below meth c 4 D aC ad A shC (MQ below (cQi D aC ad shC (fun r_ z_ y_ => r_ = (cntL z t 10 0 0) ∧ z_ = z ∧ y_ = y) A) args s 0 0 A) 0 0 (zc z y) 4 [some (.ref (ad 20)), some (vi (t)), some (vi (acc)), some (vi (w))] [] := by
    intro n4
    induction n4 with
    | zero => 
      intro acc w hw hn hF
      refine i_iload_n G dX6_countNotes_4 rfl ?_
      refine i_bipush G dX6_countNotes_5 (by decide) ?_
      refine i_icmp_ge (tgt := 33) G dX6_countNotes_7 (by decide) (by omega) (by omega) (fun h7 => ?_) (fun h7 => ?_)
      · skip
        refine i_iload_n G dX6_countNotes_33 rfl ?_
        refine j_reti G hr dX6_countNotes_34 ?_
        exact ⟨hF, rfl, rfl⟩
      · skip
        exfalso; omega
    | succ n4 ih4 => 
      intro acc w hw hn hF
      refine i_iload_n G dX6_countNotes_4 rfl ?_
      refine i_bipush G dX6_countNotes_5 (by decide) ?_
      refine i_icmp_ge (tgt := 33) G dX6_countNotes_7 (by decide) (by omega) (by omega) (fun h7 => ?_) (fun h7 => ?_)
      · skip
        exfalso; omega
      · skip
        refine i_aload_n G dX6_countNotes_10 rfl ?_
        refine i_getr G F_X6_15 20 rfl rfl dX6_countNotes_11 ?_
        refine i_iload_n G dX6_countNotes_14 rfl ?_
        refine i_bipush G dX6_countNotes_15 (by decide) ?_
        refine i_imul G dX6_countNotes_17 ?_
        refine i_iload_n G dX6_countNotes_18 rfl ?_
        refine i_iadd G dX6_countNotes_19 ?_
        refine j_iald_z G 22 rfl (by decide) (by decide) (by omega) (by omega) dX6_countNotes_20 ?_
        have b20 : 0 ≤ z 32 ((t * 10) + w) ∧ z 32 ((t * 10) + w) ≤ 2 := hR 32 _
        refine i_if_eq (tgt := 27) G dX6_countNotes_21 (by decide) (by omega) (fun h21 => ?_) (fun h21 => ?_)
        · skip
          refine i_iinc (L' := [some (.ref (ad 20)), some (vi (t)), some (vi (acc)), some (vi (w + 1))]) G dX6_countNotes_27 (by decide) rfl rfl ?_
          refine i_goto (tgt := 4) G dX6_countNotes_30 (by decide) ?_
          exact ih4 _ (w + 1) (by omega) (by omega) (by rw [← hF, cntL]; first | rw [if_pos (by omega)] | rw [if_neg (by omega)])
        · skip
          refine i_iinc (L' := [some (.ref (ad 20)), some (vi (t)), some (vi (acc + 1)), some (vi (w))]) G dX6_countNotes_24 (by decide) rfl rfl ?_
          refine i_iinc (L' := [some (.ref (ad 20)), some (vi (t)), some (vi (acc + 1)), some (vi (w + 1))]) G dX6_countNotes_27 (by decide) rfl rfl ?_
          refine i_goto (tgt := 4) G dX6_countNotes_30 (by decide) ?_
          exact ih4 _ (w + 1) (by omega) (by omega) (by rw [← hF, cntL]; first | rw [if_pos (by omega)] | rw [if_neg (by omega)])
  exact lp4 10 0 0 (by omega) (by omega) rfl
set_option maxHeartbeats 4000000 in
set_option maxRecDepth 100000 in
theorem c_trustOfAll (l : Launch) {D : va_G} {aC : Nat → ClassId} {ad : Nat → Nat} (hd : wDi ad shC) {z y : wZ} (hR : Rng z) (hY : Rng y) (t : Int) (q : Int) (ht : 0 ≤ t ∧ t < 24) (hq : 0 ≤ q ∧ q ≤ 2) : cE l D aC ad shC yX6_trustOfAll cX6_trustOfAll 5 (.int) (rmL 0) [.ref (ad 20), vi t, vi q] z y (trL z t q 10 0 0) := by
  refine c_i [some (.ref (ad 20)), some (vi (t)), some (vi (q)), none, none] (by decide +kernel) rfl (Nat.le_of_ble_eq_true rfl) rfl hd ?_
  intro p e s m args below meth c A G hr
  refine i_iconst G dX6_trustOfAll_0 ?_
  refine i_istore_n (L' := [some (.ref (ad 20)), some (vi (t)), some (vi (q)), some (vi (0)), none]) G dX6_trustOfAll_1 (by decide) rfl ?_
  refine i_iconst G dX6_trustOfAll_2 ?_
  refine i_istore (L' := [some (.ref (ad 20)), some (vi (t)), some (vi (q)), some (vi (0)), some (vi (0))]) G dX6_trustOfAll_3 (by decide) rfl ?_
  have lp5 : ∀ (n5 : Nat) (acc w : Int), (0 ≤ w) → (w + n5 = 10) → (trL z t q n5 w acc = trL z t q 10 0 0) → JW p l e (rmL 0) s m args below meth c 5 D aC ad A shC (MQ below (cQi D aC ad shC (fun r_ z_ y_ => r_ = (trL z t q 10 0 0) ∧ z_ = z ∧ y_ = y) A) args s 0 0 A) 0 0 (zc z y) 5 [some (.ref (ad 20)), some (vi (t)), some (vi (q)), some (vi (acc)), some (vi (w))] [] := by
    intro n5
    induction n5 with
    | zero => 
      intro acc w hw hn hF
      refine i_iload G dX6_trustOfAll_5 rfl ?_
      refine i_bipush G dX6_trustOfAll_7 (by decide) ?_
      refine i_icmp_ge (tgt := 44) G dX6_trustOfAll_9 (by decide) (by omega) (by omega) (fun h9 => ?_) (fun h9 => ?_)
      · skip
        refine i_iload_n G dX6_trustOfAll_44 rfl ?_
        refine j_reti G hr dX6_trustOfAll_45 ?_
        exact ⟨hF, rfl, rfl⟩
      · skip
        exfalso; omega
    | succ n5 ih5 => 
      intro acc w hw hn hF
      refine i_iload G dX6_trustOfAll_5 rfl ?_
      refine i_bipush G dX6_trustOfAll_7 (by decide) ?_
      refine i_icmp_ge (tgt := 44) G dX6_trustOfAll_9 (by decide) (by omega) (by omega) (fun h9 => ?_) (fun h9 => ?_)
      · skip
        exfalso; omega
      · skip
        refine i_aload_n G dX6_trustOfAll_12 rfl ?_
        refine i_getr G F_X6_15 20 rfl rfl dX6_trustOfAll_13 ?_
        refine i_iload_n G dX6_trustOfAll_16 rfl ?_
        refine i_bipush G dX6_trustOfAll_17 (by decide) ?_
        refine i_imul G dX6_trustOfAll_19 ?_
        refine i_iload G dX6_trustOfAll_20 rfl ?_
        refine i_iadd G dX6_trustOfAll_22 ?_
        refine j_iald_z G 22 rfl (by decide) (by decide) (by omega) (by omega) dX6_trustOfAll_23 ?_
        have b23 : 0 ≤ z 32 ((t * 10) + w) ∧ z 32 ((t * 10) + w) ≤ 2 := hR 32 _
        refine i_iload_n G dX6_trustOfAll_24 rfl ?_
        refine i_icmp_ne (tgt := 38) G dX6_trustOfAll_25 (by decide) (by omega) (by omega) (fun h25 => ?_) (fun h25 => ?_)
        · skip
          refine i_iinc (L' := [some (.ref (ad 20)), some (vi (t)), some (vi (q)), some (vi (acc)), some (vi (w + 1))]) G dX6_trustOfAll_38 (by decide) rfl rfl ?_
          refine i_goto (tgt := 5) G dX6_trustOfAll_41 (by decide) ?_
          exact ih5 _ (w + 1) (by omega) (by omega) (by rw [← hF, trL]; first | rw [if_pos (by omega)] | rw [if_neg (by omega)])
        · skip
          refine i_iload_n G dX6_trustOfAll_28 rfl ?_
          refine i_aload_n G dX6_trustOfAll_29 rfl ?_
          refine i_getr G F_X6_9 20 rfl rfl dX6_trustOfAll_30 ?_
          refine i_iload G dX6_trustOfAll_33 rfl ?_
          refine j_iald_z G 21 rfl (by decide) (by decide) (by omega) (by omega) dX6_trustOfAll_35 ?_
          have b35 : 0 ≤ z 22 w ∧ z 22 w ≤ 100 := hR 22 _
          refine i_iadd G dX6_trustOfAll_36 ?_
          refine i_istore_n (L' := [some (.ref (ad 20)), some (vi (t)), some (vi (q)), some (vi ((acc + (z 22 w)))), some (vi (w))]) G dX6_trustOfAll_37 (by decide) rfl ?_
          refine i_iinc (L' := [some (.ref (ad 20)), some (vi (t)), some (vi (q)), some (vi ((acc + (z 22 w)))), some (vi (w + 1))]) G dX6_trustOfAll_38 (by decide) rfl rfl ?_
          refine i_goto (tgt := 5) G dX6_trustOfAll_41 (by decide) ?_
          exact ih5 _ (w + 1) (by omega) (by omega) (by rw [← hF, trL]; first | rw [if_pos (by omega)] | rw [if_neg (by omega)])
  exact lp5 10 0 0 (by omega) (by omega) rfl
set_option maxHeartbeats 4000000 in
set_option maxRecDepth 100000 in
theorem c_believe (l : Launch) {D : va_G} {aC : Nat → ClassId} {ad : Nat → Nat} (hd : wDi ad shC) {z y : wZ} (hR : Rng z) (hY : Rng y) (t : Int) (was : Int) (ht : 0 ≤ t ∧ t < 24) (hw : 0 ≤ was ∧ was ≤ 1) : cE l D aC ad shC yX6_believe cX6_believe 5 (.boolean) (rmL 1) [.ref (ad 20), vi t, vi was] z y (blvF z t was) := by
  refine c_i [some (.ref (ad 20)), some (vi (t)), some (vi (was)), none, none] (by decide +kernel) rfl (Nat.le_of_ble_eq_true rfl) rfl hd ?_
  intro p e s m args below meth c A G hr
  refine i_aload_n G dX6_believe_0 rfl ?_
  refine i_iload_n G dX6_believe_1 rfl ?_
  refine i_iconst G dX6_believe_2 ?_
  refine j_callE (q0 := 20) (As := [vi (t), vi (2)]) (st := []) G K_X6_18 (c_trustOfAll l hd hR hY t 2 (by omega) (by omega)) rfl rfl rfl (rm_ok (by decide) (by decide)) ⟨Nat.le_refl _, Nat.le_refl _⟩ (Nat.le_of_ble_eq_true rfl) dX6_believe_3 ?_
  have b3 : 0 ≤ (trL z t 2 10 0 0) ∧ (trL z t 2 10 0 0) ≤ 0 + 100 * (10 : Nat) := trL_in hR _ _ 10 0 0 (by omega)
  refine i_istore_n (L' := [some (.ref (ad 20)), some (vi (t)), some (vi (was)), some (vi ((trL z t 2 10 0 0))), none]) G dX6_believe_6 (by decide) rfl ?_
  refine i_aload_n G dX6_believe_7 rfl ?_
  refine i_iload_n G dX6_believe_8 rfl ?_
  refine i_iconst G dX6_believe_9 ?_
  refine j_callE (q0 := 20) (As := [vi (t), vi (1)]) (st := []) G K_X6_18 (c_trustOfAll l hd hR hY t 1 (by omega) (by omega)) rfl rfl rfl (rm_ok (by decide) (by decide)) ⟨Nat.le_refl _, Nat.le_refl _⟩ (Nat.le_of_ble_eq_true rfl) dX6_believe_10 ?_
  have b10 : 0 ≤ (trL z t 1 10 0 0) ∧ (trL z t 1 10 0 0) ≤ 0 + 100 * (10 : Nat) := trL_in hR _ _ 10 0 0 (by omega)
  refine i_istore (L' := [some (.ref (ad 20)), some (vi (t)), some (vi (was)), some (vi ((trL z t 2 10 0 0))), some (vi ((trL z t 1 10 0 0)))]) G dX6_believe_13 (by decide) rfl ?_
  refine i_iload_n G dX6_believe_15 rfl ?_
  refine i_bipush G dX6_believe_16 (by decide) ?_
  refine i_icmp_lt (tgt := 29) G dX6_believe_18 (by decide) (by omega) (by omega) (fun h18 => ?_) (fun h18 => ?_)
  · skip
    refine i_iload G dX6_believe_29 rfl ?_
    refine i_bipush G dX6_believe_31 (by decide) ?_
    refine i_icmp_lt (tgt := 44) G dX6_believe_33 (by decide) (by omega) (by omega) (fun h33 => ?_) (fun h33 => ?_)
    · skip
      refine i_iload_n G dX6_believe_44 rfl ?_
      refine j_retz G hr (by omega) dX6_believe_45 ?_
      refine ⟨?_, rfl, rfl⟩
      unfold blvF
      (repeat' split) <;> first | rfl | omega
    · skip
      refine i_iload G dX6_believe_36 rfl ?_
      refine i_iload_n G dX6_believe_38 rfl ?_
      refine i_icmp_lt (tgt := 44) G dX6_believe_39 (by decide) (by omega) (by omega) (fun h39 => ?_) (fun h39 => ?_)
      · skip
        refine i_iload_n G dX6_believe_44 rfl ?_
        refine j_retz G hr (by omega) dX6_believe_45 ?_
        refine ⟨?_, rfl, rfl⟩
        unfold blvF
        (repeat' split) <;> first | rfl | omega
      · skip
        refine i_iconst G dX6_believe_42 ?_
        refine j_retz G hr (by omega) dX6_believe_43 ?_
        refine ⟨?_, rfl, rfl⟩
        unfold blvF
        (repeat' split) <;> first | rfl | omega
  · skip
    refine i_iload_n G dX6_believe_21 rfl ?_
    refine i_iload G dX6_believe_22 rfl ?_
    refine i_icmp_le (tgt := 29) G dX6_believe_24 (by decide) (by omega) (by omega) (fun h24 => ?_) (fun h24 => ?_)
    · skip
      refine i_iload G dX6_believe_29 rfl ?_
      refine i_bipush G dX6_believe_31 (by decide) ?_
      refine i_icmp_lt (tgt := 44) G dX6_believe_33 (by decide) (by omega) (by omega) (fun h33 => ?_) (fun h33 => ?_)
      · skip
        refine i_iload_n G dX6_believe_44 rfl ?_
        refine j_retz G hr (by omega) dX6_believe_45 ?_
        refine ⟨?_, rfl, rfl⟩
        unfold blvF
        (repeat' split) <;> first | rfl | omega
      · skip
        refine i_iload G dX6_believe_36 rfl ?_
        refine i_iload_n G dX6_believe_38 rfl ?_
        refine i_icmp_lt (tgt := 44) G dX6_believe_39 (by decide) (by omega) (by omega) (fun h39 => ?_) (fun h39 => ?_)
        · skip
          refine i_iload_n G dX6_believe_44 rfl ?_
          refine j_retz G hr (by omega) dX6_believe_45 ?_
          refine ⟨?_, rfl, rfl⟩
          unfold blvF
          (repeat' split) <;> first | rfl | omega
        · skip
          refine i_iconst G dX6_believe_42 ?_
          refine j_retz G hr (by omega) dX6_believe_43 ?_
          refine ⟨?_, rfl, rfl⟩
          unfold blvF
          (repeat' split) <;> first | rfl | omega
    · skip
      refine i_iconst G dX6_believe_27 ?_
      refine j_retz G hr (by omega) dX6_believe_28 ?_
      refine ⟨?_, rfl, rfl⟩
      unfold blvF
      (repeat' split) <;> first | rfl | omega
set_option maxHeartbeats 4000000 in
set_option maxRecDepth 100000 in
theorem c_judge (l : Launch) {D : va_G} {aC : Nat → ClassId} {ad : Nat → Nat} (hd : wDi ad shC) {z y : wZ} (hR : Rng z) (hY : Rng y) (t : Int) (g : Int) (ht : 0 ≤ t ∧ t < 24) (hg : g = 0 ∨ g = 1) : cZv l D aC ad shC yX6_judge cX6_judge 6 (rmL 1) [.ref (ad 20), vi t, vi g] z y (fun z' => z' = jdgL t (if g = 0 then 1 else 2) 10 0 z ∧ Rng z') := by
  refine c_v [some (.ref (ad 20)), some (vi (t)), some (vi (g)), none, none, none] (by decide +kernel) rfl (Nat.le_of_ble_eq_true rfl) rfl hd ?_
  intro p e s m args below meth c A G hr
  refine i_iload_n G dX6_judge_0 rfl ?_
  refine i_if_eq (tgt := 8) G dX6_judge_1 (by decide) (by omega) (fun h1 => ?_) (fun h1 => ?_)
  · skip
    refine i_iconst G dX6_judge_8 ?_
    refine i_istore_n (L' := [some (.ref (ad 20)), some (vi (t)), some (vi (g)), some (vi (1)), none, none]) G dX6_judge_9 (by decide) rfl ?_
    refine i_iconst G dX6_judge_10 ?_
    refine i_istore (L' := [some (.ref (ad 20)), some (vi (t)), some (vi (g)), some (vi (1)), some (vi (0)), none]) G dX6_judge_11 (by decide) rfl ?_
    refine i_forget (L' := [some (.ref (ad 20)), some (vi (t)), some (vi (g)), some (vi (1)), some (vi (0)), none]) ⟨rfl, ⟨rfl, ⟨rfl, ⟨rfl, ⟨rfl, trivial⟩⟩⟩⟩⟩ ?_
    have lp13 : ∀ (n13 : Nat) (w : Int) (z13_ : wZ), Rng z13_ → (0 ≤ w) → (w + n13 = 10) → (jdgL t (if g = 0 then 1 else 2) n13 w z13_ = jdgL t (if g = 0 then 1 else 2) 10 0 z) → JW p l e (rmL 1) s m args below meth c 6 D aC ad A shC (MQ below (cQv D aC ad shC (fun z_ y_ => y_ = y ∧ (fun z' => z' = jdgL t (if g = 0 then 1 else 2) 10 0 z ∧ Rng z') z_) A) args s 0 0 A) 0 0 (zc z13_ y) 13 [some (.ref (ad 20)), some (vi (t)), some (vi (g)), some (vi (1)), some (vi (w)), none] [] := by
      intro n13
      induction n13 with
      | zero => 
        intro w z13_ hRz13_ hw hn hF
        refine i_iload G dX6_judge_13 rfl ?_
        refine i_bipush G dX6_judge_15 (by decide) ?_
        refine i_icmp_ge (tgt := 110) G dX6_judge_17 (by decide) (by omega) (by omega) (fun h17 => ?_) (fun h17 => ?_)
        · skip
          refine j_retv G hr dX6_judge_110 ?_
          exact ⟨rfl, hF, hRz13_⟩
        · skip
          exfalso; omega
      | succ n13 ih13 => 
        intro w z13_ hRz13_ hw hn hF
        refine i_iload G dX6_judge_13 rfl ?_
        refine i_bipush G dX6_judge_15 (by decide) ?_
        refine i_icmp_ge (tgt := 110) G dX6_judge_17 (by decide) (by omega) (by omega) (fun h17 => ?_) (fun h17 => ?_)
        · skip
          exfalso; omega
        · skip
          refine i_aload_n G dX6_judge_20 rfl ?_
          refine i_getr G F_X6_15 20 rfl rfl dX6_judge_21 ?_
          refine i_iload_n G dX6_judge_24 rfl ?_
          refine i_bipush G dX6_judge_25 (by decide) ?_
          refine i_imul G dX6_judge_27 ?_
          refine i_iload G dX6_judge_28 rfl ?_
          refine i_iadd G dX6_judge_30 ?_
          refine j_iald_z G 22 rfl (by decide) (by decide) (by omega) (by omega) dX6_judge_31 ?_
          have b31 : 0 ≤ z13_ 32 ((t * 10) + w) ∧ z13_ 32 ((t * 10) + w) ≤ 2 := hRz13_ 32 _
          refine i_istore (L' := [some (.ref (ad 20)), some (vi (t)), some (vi (g)), some (vi (1)), some (vi (w)), some (vi ((z13_ 32 ((t * 10) + w))))]) G dX6_judge_32 (by decide) rfl ?_
          refine i_iload G dX6_judge_34 rfl ?_
          refine i_iload_n G dX6_judge_36 rfl ?_
          refine i_icmp_ne (tgt := 65) G dX6_judge_37 (by decide) (by omega) (by omega) (fun h37 => ?_) (fun h37 => ?_)
          · skip
            refine i_iload G dX6_judge_65 rfl ?_
            refine i_if_eq (tgt := 91) G dX6_judge_67 (by decide) (by omega) (fun h67 => ?_) (fun h67 => ?_)
            · skip
              refine i_aload_n G dX6_judge_91 rfl ?_
              refine i_getr G F_X6_15 20 rfl rfl dX6_judge_92 ?_
              refine i_iload_n G dX6_judge_95 rfl ?_
              refine i_bipush G dX6_judge_96 (by decide) ?_
              refine i_imul G dX6_judge_98 ?_
              refine i_iload G dX6_judge_99 rfl ?_
              refine i_iadd G dX6_judge_101 ?_
              refine i_iconst G dX6_judge_102 ?_
              refine j_iast_z G 22 rfl (by decide) (by decide) (by omega) (by omega) (by decide) hRz13_ (by show (0 : Int) ≤ _ ∧ _ ≤ (2 : Int); omega) dX6_judge_103 (fun z103 ez103 hRz103 => ?_)
              refine i_iinc (L' := [some (.ref (ad 20)), some (vi (t)), some (vi (g)), some (vi (1)), some (vi (w + 1)), some (vi ((z13_ 32 ((t * 10) + w))))]) G dX6_judge_104 (by decide) rfl rfl ?_
              refine i_goto (tgt := 13) G dX6_judge_107 (by decide) ?_
              refine i_forget (L' := [some (.ref (ad 20)), some (vi (t)), some (vi (g)), some (vi (1)), some (vi (w + 1)), none]) ⟨rfl, ⟨rfl, ⟨rfl, ⟨rfl, ⟨rfl, trivial⟩⟩⟩⟩⟩ ?_
              exact ih13 (w + 1) z103 hRz103 (by omega) (by omega) (by
                rw [← hF, jdgL]
                congr 1
                rw [ez103]
                unfold jdgS
                first | rw [if_pos (by omega), if_pos hg0] | rw [if_pos (by omega)] | skip
                simp_all)
            · skip
              refine i_aload_n G dX6_judge_70 rfl ?_
              refine i_getr G F_X6_9 20 rfl rfl dX6_judge_71 ?_
              refine i_iload G dX6_judge_74 rfl ?_
              refine i_aload_n G dX6_judge_76 rfl ?_
              refine i_getr G F_X6_9 20 rfl rfl dX6_judge_77 ?_
              refine i_iload G dX6_judge_80 rfl ?_
              refine j_iald_z G 21 rfl (by decide) (by decide) (by omega) (by omega) dX6_judge_82 ?_
              have b82 : 0 ≤ z13_ 22 w ∧ z13_ 22 w ≤ 100 := hRz13_ 22 _
              refine i_bipush G dX6_judge_83 (by decide) ?_
              refine i_isub G dX6_judge_85 ?_
              refine i_iconst G dX6_judge_86 ?_
              refine i_max (st := [vi (w), .ref (ad 21)]) G K_X6_27 ⟨by decide, Nat.le_of_ble_eq_true rfl, Nat.le_refl _, Nat.le_refl _⟩ (by omega) (by omega) dX6_judge_87 ?_
              obtain ⟨m87, em87⟩ : ∃ x_ : Int, x_ = (if ((z13_ 22 w) - 20) < 0 then 0 else ((z13_ 22 w) - 20)) := ⟨_, rfl⟩
              rw [← em87]
              have bm87 : (((z13_ 22 w) - 20) ≤ 0 ∧ m87 = 0) ∨ (0 ≤ ((z13_ 22 w) - 20) ∧ m87 = ((z13_ 22 w) - 20)) := by rw [em87]; split <;> omega
              refine j_iast_z G 21 rfl (by decide) (by decide) (by omega) (by omega) (by decide) hRz13_ (by show (0 : Int) ≤ _ ∧ _ ≤ (100 : Int); omega) dX6_judge_90 (fun z90 ez90 hRz90 => ?_)
              refine i_aload_n G dX6_judge_91 rfl ?_
              refine i_getr G F_X6_15 20 rfl rfl dX6_judge_92 ?_
              refine i_iload_n G dX6_judge_95 rfl ?_
              refine i_bipush G dX6_judge_96 (by decide) ?_
              refine i_imul G dX6_judge_98 ?_
              refine i_iload G dX6_judge_99 rfl ?_
              refine i_iadd G dX6_judge_101 ?_
              refine i_iconst G dX6_judge_102 ?_
              refine j_iast_z G 22 rfl (by decide) (by decide) (by omega) (by omega) (by decide) hRz90 (by show (0 : Int) ≤ _ ∧ _ ≤ (2 : Int); omega) dX6_judge_103 (fun z103 ez103 hRz103 => ?_)
              refine i_iinc (L' := [some (.ref (ad 20)), some (vi (t)), some (vi (g)), some (vi (1)), some (vi (w + 1)), some (vi ((z13_ 32 ((t * 10) + w))))]) G dX6_judge_104 (by decide) rfl rfl ?_
              refine i_goto (tgt := 13) G dX6_judge_107 (by decide) ?_
              refine i_forget (L' := [some (.ref (ad 20)), some (vi (t)), some (vi (g)), some (vi (1)), some (vi (w + 1)), none]) ⟨rfl, ⟨rfl, ⟨rfl, ⟨rfl, ⟨rfl, trivial⟩⟩⟩⟩⟩ ?_
              exact ih13 (w + 1) z103 hRz103 (by omega) (by omega) (by
                rw [← hF, jdgL]
                congr 1
                rw [ez103]
                unfold jdgS
                first | rw [if_pos (by omega), if_pos hg0] | rw [if_pos (by omega)] | skip
                simp_all)
          · skip
            refine i_aload_n G dX6_judge_40 rfl ?_
            refine i_getr G F_X6_9 20 rfl rfl dX6_judge_41 ?_
            refine i_iload G dX6_judge_44 rfl ?_
            refine i_aload_n G dX6_judge_46 rfl ?_
            refine i_getr G F_X6_9 20 rfl rfl dX6_judge_47 ?_
            refine i_iload G dX6_judge_50 rfl ?_
            refine j_iald_z G 21 rfl (by decide) (by decide) (by omega) (by omega) dX6_judge_52 ?_
            have b52 : 0 ≤ z13_ 22 w ∧ z13_ 22 w ≤ 100 := hRz13_ 22 _
            refine i_bipush G dX6_judge_53 (by decide) ?_
            refine i_iadd G dX6_judge_55 ?_
            refine i_bipush G dX6_judge_56 (by decide) ?_
            refine i_min (st := [vi (w), .ref (ad 21)]) G K_X6_22 ⟨by decide, Nat.le_of_ble_eq_true rfl, Nat.le_refl _, Nat.le_refl _⟩ (by omega) (by omega) dX6_judge_58 ?_
            obtain ⟨m58, em58⟩ : ∃ x_ : Int, x_ = (if 100 < ((z13_ 22 w) + 10) then 100 else ((z13_ 22 w) + 10)) := ⟨_, rfl⟩
            rw [← em58]
            have bm58 : (100 ≤ ((z13_ 22 w) + 10) ∧ m58 = 100) ∨ (((z13_ 22 w) + 10) ≤ 100 ∧ m58 = ((z13_ 22 w) + 10)) := by rw [em58]; split <;> omega
            refine j_iast_z G 21 rfl (by decide) (by decide) (by omega) (by omega) (by decide) hRz13_ (by show (0 : Int) ≤ _ ∧ _ ≤ (100 : Int); omega) dX6_judge_61 (fun z61 ez61 hRz61 => ?_)
            refine i_goto (tgt := 91) G dX6_judge_62 (by decide) ?_
            refine i_aload_n G dX6_judge_91 rfl ?_
            refine i_getr G F_X6_15 20 rfl rfl dX6_judge_92 ?_
            refine i_iload_n G dX6_judge_95 rfl ?_
            refine i_bipush G dX6_judge_96 (by decide) ?_
            refine i_imul G dX6_judge_98 ?_
            refine i_iload G dX6_judge_99 rfl ?_
            refine i_iadd G dX6_judge_101 ?_
            refine i_iconst G dX6_judge_102 ?_
            refine j_iast_z G 22 rfl (by decide) (by decide) (by omega) (by omega) (by decide) hRz61 (by show (0 : Int) ≤ _ ∧ _ ≤ (2 : Int); omega) dX6_judge_103 (fun z103 ez103 hRz103 => ?_)
            refine i_iinc (L' := [some (.ref (ad 20)), some (vi (t)), some (vi (g)), some (vi (1)), some (vi (w + 1)), some (vi ((z13_ 32 ((t * 10) + w))))]) G dX6_judge_104 (by decide) rfl rfl ?_
            refine i_goto (tgt := 13) G dX6_judge_107 (by decide) ?_
            refine i_forget (L' := [some (.ref (ad 20)), some (vi (t)), some (vi (g)), some (vi (1)), some (vi (w + 1)), none]) ⟨rfl, ⟨rfl, ⟨rfl, ⟨rfl, ⟨rfl, trivial⟩⟩⟩⟩⟩ ?_
            exact ih13 (w + 1) z103 hRz103 (by omega) (by omega) (by
              rw [← hF, jdgL]
              congr 1
              rw [ez103]
              unfold jdgS
              first | rw [if_pos (by omega), if_pos hg0] | rw [if_pos (by omega)] | skip
              simp_all)
    exact lp13 10 0 z hR (by omega) (by omega) rfl
  · skip
    refine i_iconst G dX6_judge_4 ?_
    refine i_goto (tgt := 9) G dX6_judge_5 (by decide) ?_
    refine i_istore_n (L' := [some (.ref (ad 20)), some (vi (t)), some (vi (g)), some (vi (2)), none, none]) G dX6_judge_9 (by decide) rfl ?_
    refine i_iconst G dX6_judge_10 ?_
    refine i_istore (L' := [some (.ref (ad 20)), some (vi (t)), some (vi (g)), some (vi (2)), some (vi (0)), none]) G dX6_judge_11 (by decide) rfl ?_
    refine i_forget (L' := [some (.ref (ad 20)), some (vi (t)), some (vi (g)), some (vi (2)), some (vi (0)), none]) ⟨rfl, ⟨rfl, ⟨rfl, ⟨rfl, ⟨rfl, trivial⟩⟩⟩⟩⟩ ?_
    have lp13 : ∀ (n13 : Nat) (w : Int) (z13_ : wZ), Rng z13_ → (0 ≤ w) → (w + n13 = 10) → (jdgL t (if g = 0 then 1 else 2) n13 w z13_ = jdgL t (if g = 0 then 1 else 2) 10 0 z) → JW p l e (rmL 1) s m args below meth c 6 D aC ad A shC (MQ below (cQv D aC ad shC (fun z_ y_ => y_ = y ∧ (fun z' => z' = jdgL t (if g = 0 then 1 else 2) 10 0 z ∧ Rng z') z_) A) args s 0 0 A) 0 0 (zc z13_ y) 13 [some (.ref (ad 20)), some (vi (t)), some (vi (g)), some (vi (2)), some (vi (w)), none] [] := by
      intro n13
      induction n13 with
      | zero => 
        intro w z13_ hRz13_ hw hn hF
        refine i_iload G dX6_judge_13 rfl ?_
        refine i_bipush G dX6_judge_15 (by decide) ?_
        refine i_icmp_ge (tgt := 110) G dX6_judge_17 (by decide) (by omega) (by omega) (fun h17 => ?_) (fun h17 => ?_)
        · skip
          refine j_retv G hr dX6_judge_110 ?_
          exact ⟨rfl, hF, hRz13_⟩
        · skip
          exfalso; omega
      | succ n13 ih13 => 
        intro w z13_ hRz13_ hw hn hF
        refine i_iload G dX6_judge_13 rfl ?_
        refine i_bipush G dX6_judge_15 (by decide) ?_
        refine i_icmp_ge (tgt := 110) G dX6_judge_17 (by decide) (by omega) (by omega) (fun h17 => ?_) (fun h17 => ?_)
        · skip
          exfalso; omega
        · skip
          refine i_aload_n G dX6_judge_20 rfl ?_
          refine i_getr G F_X6_15 20 rfl rfl dX6_judge_21 ?_
          refine i_iload_n G dX6_judge_24 rfl ?_
          refine i_bipush G dX6_judge_25 (by decide) ?_
          refine i_imul G dX6_judge_27 ?_
          refine i_iload G dX6_judge_28 rfl ?_
          refine i_iadd G dX6_judge_30 ?_
          refine j_iald_z G 22 rfl (by decide) (by decide) (by omega) (by omega) dX6_judge_31 ?_
          have b31 : 0 ≤ z13_ 32 ((t * 10) + w) ∧ z13_ 32 ((t * 10) + w) ≤ 2 := hRz13_ 32 _
          refine i_istore (L' := [some (.ref (ad 20)), some (vi (t)), some (vi (g)), some (vi (2)), some (vi (w)), some (vi ((z13_ 32 ((t * 10) + w))))]) G dX6_judge_32 (by decide) rfl ?_
          refine i_iload G dX6_judge_34 rfl ?_
          refine i_iload_n G dX6_judge_36 rfl ?_
          refine i_icmp_ne (tgt := 65) G dX6_judge_37 (by decide) (by omega) (by omega) (fun h37 => ?_) (fun h37 => ?_)
          · skip
            refine i_iload G dX6_judge_65 rfl ?_
            refine i_if_eq (tgt := 91) G dX6_judge_67 (by decide) (by omega) (fun h67 => ?_) (fun h67 => ?_)
            · skip
              refine i_aload_n G dX6_judge_91 rfl ?_
              refine i_getr G F_X6_15 20 rfl rfl dX6_judge_92 ?_
              refine i_iload_n G dX6_judge_95 rfl ?_
              refine i_bipush G dX6_judge_96 (by decide) ?_
              refine i_imul G dX6_judge_98 ?_
              refine i_iload G dX6_judge_99 rfl ?_
              refine i_iadd G dX6_judge_101 ?_
              refine i_iconst G dX6_judge_102 ?_
              refine j_iast_z G 22 rfl (by decide) (by decide) (by omega) (by omega) (by decide) hRz13_ (by show (0 : Int) ≤ _ ∧ _ ≤ (2 : Int); omega) dX6_judge_103 (fun z103 ez103 hRz103 => ?_)
              refine i_iinc (L' := [some (.ref (ad 20)), some (vi (t)), some (vi (g)), some (vi (2)), some (vi (w + 1)), some (vi ((z13_ 32 ((t * 10) + w))))]) G dX6_judge_104 (by decide) rfl rfl ?_
              refine i_goto (tgt := 13) G dX6_judge_107 (by decide) ?_
              refine i_forget (L' := [some (.ref (ad 20)), some (vi (t)), some (vi (g)), some (vi (2)), some (vi (w + 1)), none]) ⟨rfl, ⟨rfl, ⟨rfl, ⟨rfl, ⟨rfl, trivial⟩⟩⟩⟩⟩ ?_
              exact ih13 (w + 1) z103 hRz103 (by omega) (by omega) (by
                rw [← hF, jdgL]
                congr 1
                rw [ez103]
                unfold jdgS
                first | rw [if_pos (by omega), if_pos hg0] | rw [if_pos (by omega)] | skip
                simp_all)
            · skip
              refine i_aload_n G dX6_judge_70 rfl ?_
              refine i_getr G F_X6_9 20 rfl rfl dX6_judge_71 ?_
              refine i_iload G dX6_judge_74 rfl ?_
              refine i_aload_n G dX6_judge_76 rfl ?_
              refine i_getr G F_X6_9 20 rfl rfl dX6_judge_77 ?_
              refine i_iload G dX6_judge_80 rfl ?_
              refine j_iald_z G 21 rfl (by decide) (by decide) (by omega) (by omega) dX6_judge_82 ?_
              have b82 : 0 ≤ z13_ 22 w ∧ z13_ 22 w ≤ 100 := hRz13_ 22 _
              refine i_bipush G dX6_judge_83 (by decide) ?_
              refine i_isub G dX6_judge_85 ?_
              refine i_iconst G dX6_judge_86 ?_
              refine i_max (st := [vi (w), .ref (ad 21)]) G K_X6_27 ⟨by decide, Nat.le_of_ble_eq_true rfl, Nat.le_refl _, Nat.le_refl _⟩ (by omega) (by omega) dX6_judge_87 ?_
              obtain ⟨m87, em87⟩ : ∃ x_ : Int, x_ = (if ((z13_ 22 w) - 20) < 0 then 0 else ((z13_ 22 w) - 20)) := ⟨_, rfl⟩
              rw [← em87]
              have bm87 : (((z13_ 22 w) - 20) ≤ 0 ∧ m87 = 0) ∨ (0 ≤ ((z13_ 22 w) - 20) ∧ m87 = ((z13_ 22 w) - 20)) := by rw [em87]; split <;> omega
              refine j_iast_z G 21 rfl (by decide) (by decide) (by omega) (by omega) (by decide) hRz13_ (by show (0 : Int) ≤ _ ∧ _ ≤ (100 : Int); omega) dX6_judge_90 (fun z90 ez90 hRz90 => ?_)
              refine i_aload_n G dX6_judge_91 rfl ?_
              refine i_getr G F_X6_15 20 rfl rfl dX6_judge_92 ?_
              refine i_iload_n G dX6_judge_95 rfl ?_
              refine i_bipush G dX6_judge_96 (by decide) ?_
              refine i_imul G dX6_judge_98 ?_
              refine i_iload G dX6_judge_99 rfl ?_
              refine i_iadd G dX6_judge_101 ?_
              refine i_iconst G dX6_judge_102 ?_
              refine j_iast_z G 22 rfl (by decide) (by decide) (by omega) (by omega) (by decide) hRz90 (by show (0 : Int) ≤ _ ∧ _ ≤ (2 : Int); omega) dX6_judge_103 (fun z103 ez103 hRz103 => ?_)
              refine i_iinc (L' := [some (.ref (ad 20)), some (vi (t)), some (vi (g)), some (vi (2)), some (vi (w + 1)), some (vi ((z13_ 32 ((t * 10) + w))))]) G dX6_judge_104 (by decide) rfl rfl ?_
              refine i_goto (tgt := 13) G dX6_judge_107 (by decide) ?_
              refine i_forget (L' := [some (.ref (ad 20)), some (vi (t)), some (vi (g)), some (vi (2)), some (vi (w + 1)), none]) ⟨rfl, ⟨rfl, ⟨rfl, ⟨rfl, ⟨rfl, trivial⟩⟩⟩⟩⟩ ?_
              exact ih13 (w + 1) z103 hRz103 (by omega) (by omega) (by
                rw [← hF, jdgL]
                congr 1
                rw [ez103]
                unfold jdgS
                first | rw [if_pos (by omega), if_pos hg0] | rw [if_pos (by omega)] | skip
                simp_all)
          · skip
            refine i_aload_n G dX6_judge_40 rfl ?_
            refine i_getr G F_X6_9 20 rfl rfl dX6_judge_41 ?_
            refine i_iload G dX6_judge_44 rfl ?_
            refine i_aload_n G dX6_judge_46 rfl ?_
            refine i_getr G F_X6_9 20 rfl rfl dX6_judge_47 ?_
            refine i_iload G dX6_judge_50 rfl ?_
            refine j_iald_z G 21 rfl (by decide) (by decide) (by omega) (by omega) dX6_judge_52 ?_
            have b52 : 0 ≤ z13_ 22 w ∧ z13_ 22 w ≤ 100 := hRz13_ 22 _
            refine i_bipush G dX6_judge_53 (by decide) ?_
            refine i_iadd G dX6_judge_55 ?_
            refine i_bipush G dX6_judge_56 (by decide) ?_
            refine i_min (st := [vi (w), .ref (ad 21)]) G K_X6_22 ⟨by decide, Nat.le_of_ble_eq_true rfl, Nat.le_refl _, Nat.le_refl _⟩ (by omega) (by omega) dX6_judge_58 ?_
            obtain ⟨m58, em58⟩ : ∃ x_ : Int, x_ = (if 100 < ((z13_ 22 w) + 10) then 100 else ((z13_ 22 w) + 10)) := ⟨_, rfl⟩
            rw [← em58]
            have bm58 : (100 ≤ ((z13_ 22 w) + 10) ∧ m58 = 100) ∨ (((z13_ 22 w) + 10) ≤ 100 ∧ m58 = ((z13_ 22 w) + 10)) := by rw [em58]; split <;> omega
            refine j_iast_z G 21 rfl (by decide) (by decide) (by omega) (by omega) (by decide) hRz13_ (by show (0 : Int) ≤ _ ∧ _ ≤ (100 : Int); omega) dX6_judge_61 (fun z61 ez61 hRz61 => ?_)
            refine i_goto (tgt := 91) G dX6_judge_62 (by decide) ?_
            refine i_aload_n G dX6_judge_91 rfl ?_
            refine i_getr G F_X6_15 20 rfl rfl dX6_judge_92 ?_
            refine i_iload_n G dX6_judge_95 rfl ?_
            refine i_bipush G dX6_judge_96 (by decide) ?_
            refine i_imul G dX6_judge_98 ?_
            refine i_iload G dX6_judge_99 rfl ?_
            refine i_iadd G dX6_judge_101 ?_
            refine i_iconst G dX6_judge_102 ?_
            refine j_iast_z G 22 rfl (by decide) (by decide) (by omega) (by omega) (by decide) hRz61 (by show (0 : Int) ≤ _ ∧ _ ≤ (2 : Int); omega) dX6_judge_103 (fun z103 ez103 hRz103 => ?_)
            refine i_iinc (L' := [some (.ref (ad 20)), some (vi (t)), some (vi (g)), some (vi (2)), some (vi (w + 1)), some (vi ((z13_ 32 ((t * 10) + w))))]) G dX6_judge_104 (by decide) rfl rfl ?_
            refine i_goto (tgt := 13) G dX6_judge_107 (by decide) ?_
            refine i_forget (L' := [some (.ref (ad 20)), some (vi (t)), some (vi (g)), some (vi (2)), some (vi (w + 1)), none]) ⟨rfl, ⟨rfl, ⟨rfl, ⟨rfl, ⟨rfl, trivial⟩⟩⟩⟩⟩ ?_
            exact ih13 (w + 1) z103 hRz103 (by omega) (by omega) (by
              rw [← hF, jdgL]
              congr 1
              rw [ez103]
              unfold jdgS
              first | rw [if_pos (by omega), if_pos hg0] | rw [if_pos (by omega)] | skip
              simp_all)
    exact lp13 10 0 z hR (by omega) (by omega) rfl
set_option maxHeartbeats 4000000 in
set_option maxRecDepth 100000 in
theorem c_hasRoom (l : Launch) {D : va_G} {aC : Nat → ClassId} {ad : Nat → Nat} (hd : wDi ad shC) {z y : wZ} (hR : Rng z) (hY : Rng y)   : cE l D aC ad shC yX4_hasRoom cX4_hasRoom 1 (.boolean) (rmL 0) [.ref (ad 23)] z y ((if z 3 0 < 40 then 1 else 0)) := by
  refine c_i [some (.ref (ad 23))] (by decide +kernel) rfl (Nat.le_of_ble_eq_true rfl) rfl hd ?_
  intro p e s m args below meth c A G hr
  refine i_aload_n G dX4_hasRoom_0 rfl ?_
  refine j_getz G F_X4_25 23 rfl rfl (by decide) dX4_hasRoom_1 ?_
  have b1 : 0 ≤ z 3 0 ∧ z 3 0 ≤ 40 := hR 3 _
  refine i_bipush G dX4_hasRoom_4 (by decide) ?_
  refine i_icmp_ge (tgt := 13) G dX4_hasRoom_6 (by decide) (by omega) (by omega) (fun h6 => ?_) (fun h6 => ?_)
  · skip
    refine i_iconst G dX4_hasRoom_13 ?_
    refine j_retz G hr (by omega) dX4_hasRoom_14 ?_
    refine ⟨?_, rfl, rfl⟩
    split <;> first | rfl | omega
  · skip
    refine i_iconst G dX4_hasRoom_9 ?_
    refine i_goto (tgt := 14) G dX4_hasRoom_10 (by decide) ?_
    refine j_retz G hr (by omega) dX4_hasRoom_14 ?_
    refine ⟨?_, rfl, rfl⟩
    split <;> first | rfl | omega
set_option maxHeartbeats 4000000 in
set_option maxRecDepth 100000 in
theorem c_make (l : Launch) {D : va_G} {aC : Nat → ClassId} {ad : Nat → Nat} (hd : wDi ad shC) {z y : wZ} (hR : Rng z) (hY : Rng y) (kd : Int) (nb : Int) (dg : Int) (hrm : z 3 0 < 40) (hk : 0 ≤ kd ∧ kd < 65536) (hn : 0 ≤ nb ∧ nb ≤ 29) (hdg : 0 ≤ dg ∧ dg ≤ 1000) : cZi l D aC ad shC yX4_make cX4_make 5 (.int) (rmL 0) [.ref (ad 23), vi kd, vi nb, vi dg] z y (fun r z' => r = z 3 0 ∧ z' = mkF z kd nb dg ∧ Rng z') := by
  refine c_i [some (.ref (ad 23)), some (vi (kd)), some (vi (nb)), some (vi (dg)), none] (by decide +kernel) rfl (Nat.le_of_ble_eq_true rfl) rfl hd ?_
  intro p e s m args below meth c A G hr
  refine i_aload_n G dX4_make_0 rfl ?_
  refine j_getz G F_X4_25 23 rfl rfl (by decide) dX4_make_1 ?_
  have b1 : 0 ≤ z 3 0 ∧ z 3 0 ≤ 40 := hR 3 _
  refine i_istore (L' := [some (.ref (ad 23)), some (vi (kd)), some (vi (nb)), some (vi (dg)), some (vi ((z 3 0)))]) G dX4_make_4 (by decide) rfl ?_
  refine i_aload_n G dX4_make_6 rfl ?_
  refine i_dup G rfl dX4_make_7 ?_
  refine j_getz G F_X4_25 23 rfl rfl (by decide) dX4_make_8 ?_
  have b8 : 0 ≤ z 3 0 ∧ z 3 0 ≤ 40 := hR 3 _
  refine i_iconst G dX4_make_11 ?_
  refine i_iadd G dX4_make_12 ?_
  refine j_putz G P_X4_25 23 rfl rfl (by decide) (by decide) (by decide) hR (by show (0 : Int) ≤ _ ∧ _ ≤ (40 : Int); omega) dX4_make_13 (fun z13 ez13 hRz13 => ?_)
  refine i_aload_n G dX4_make_16 rfl ?_
  refine i_getr G F_X4_9 23 rfl rfl dX4_make_17 ?_
  refine i_iload G dX4_make_20 rfl ?_
  refine i_iload_n G dX4_make_22 rfl ?_
  refine j_cast_z G 24 rfl (by decide) (by decide) (by omega) (by omega) (by omega) (by decide) hRz13 (by show (0 : Int) ≤ _ ∧ _ ≤ (65535 : Int); omega) dX4_make_23 (fun z23 ez23 hRz23 => ?_)
  refine i_aload_n G dX4_make_24 rfl ?_
  refine i_getr G F_X4_15 23 rfl rfl dX4_make_25 ?_
  refine i_iload G dX4_make_28 rfl ?_
  refine i_iload_n G dX4_make_30 rfl ?_
  refine j_iast_z G 25 rfl (by decide) (by decide) (by omega) (by omega) (by decide) hRz23 (by show (0 : Int) ≤ _ ∧ _ ≤ (29 : Int); omega) dX4_make_31 (fun z31 ez31 hRz31 => ?_)
  refine i_aload_n G dX4_make_32 rfl ?_
  refine i_getr G F_X4_19 23 rfl rfl dX4_make_33 ?_
  refine i_iload G dX4_make_36 rfl ?_
  refine i_iload_n G dX4_make_38 rfl ?_
  refine j_iast_z G 26 rfl (by decide) (by decide) (by omega) (by omega) (by decide) hRz31 (by show (0 : Int) ≤ _ ∧ _ ≤ (1000 : Int); omega) dX4_make_39 (fun z39 ez39 hRz39 => ?_)
  refine i_aload_n G dX4_make_40 rfl ?_
  refine i_getr G F_X4_22 23 rfl rfl dX4_make_41 ?_
  refine i_iload G dX4_make_44 rfl ?_
  refine i_iconst G dX4_make_46 ?_
  refine j_iast_z G 27 rfl (by decide) (by decide) (by omega) (by omega) (by decide) hRz39 (by show (-1 : Int) ≤ _ ∧ _ ≤ (3 : Int); omega) dX4_make_47 (fun z47 ez47 hRz47 => ?_)
  refine i_iload G dX4_make_48 rfl ?_
  refine j_reti G hr dX4_make_50 ?_
  refine ⟨rfl, rfl, ?_, hRz47⟩
  subst_vars
  rfl
set_option maxHeartbeats 4000000 in
set_option maxRecDepth 100000 in
theorem c_isOpen (l : Launch) {D : va_G} {aC : Nat → ClassId} {ad : Nat → Nat} (hd : wDi ad shC) {z y : wZ} (hR : Rng z) (hY : Rng y) (t : Int) (ht : 0 ≤ t ∧ t < 40) : cE l D aC ad shC yX4_isOpen cX4_isOpen 2 (.boolean) (rmL 0) [.ref (ad 23), vi t] z y ((if z 26 t = -1 then 1 else 0)) := by
  refine c_i [some (.ref (ad 23)), some (vi (t))] (by decide +kernel) rfl (Nat.le_of_ble_eq_true rfl) rfl hd ?_
  intro p e s m args below meth c A G hr
  refine i_aload_n G dX4_isOpen_0 rfl ?_
  refine i_getr G F_X4_22 23 rfl rfl dX4_isOpen_1 ?_
  refine i_iload_n G dX4_isOpen_4 rfl ?_
  refine j_iald_z G 27 rfl (by decide) (by decide) (by omega) (by omega) dX4_isOpen_5 ?_
  have b5 : -1 ≤ z 26 t ∧ z 26 t ≤ 3 := hR 26 _
  refine i_iconst G dX4_isOpen_6 ?_
  refine i_icmp_ne (tgt := 14) G dX4_isOpen_7 (by decide) (by omega) (by omega) (fun h7 => ?_) (fun h7 => ?_)
  · skip
    refine i_iconst G dX4_isOpen_14 ?_
    refine j_retz G hr (by omega) dX4_isOpen_15 ?_
    refine ⟨?_, rfl, rfl⟩
    split <;> first | rfl | omega
  · skip
    refine i_iconst G dX4_isOpen_10 ?_
    refine i_goto (tgt := 15) G dX4_isOpen_11 (by decide) ?_
    refine j_retz G hr (by omega) dX4_isOpen_15 ?_
    refine ⟨?_, rfl, rfl⟩
    split <;> first | rfl | omega
set_option maxHeartbeats 4000000 in
set_option maxRecDepth 100000 in
theorem c_isAsked (l : Launch) {D : va_G} {aC : Nat → ClassId} {ad : Nat → Nat} (hd : wDi ad shC) {z y : wZ} (hR : Rng z) (hY : Rng y) (kd : Int) (nb : Int) (hk : 0 ≤ kd ∧ kd < 65536) (hn : 0 ≤ nb ∧ nb ≤ 29) : cE l D aC ad shC yX4_isAsked cX4_isAsked 4 (.boolean) (rmL 1) [.ref (ad 23), vi kd, vi nb] z y (askL z kd nb (z 3 0).toNat 0) := by
  refine c_i [some (.ref (ad 23)), some (vi (kd)), some (vi (nb)), none] (by decide +kernel) rfl (Nat.le_of_ble_eq_true rfl) rfl hd ?_
  intro p e s m args below meth c A G hr
  refine i_iconst G dX4_isAsked_0 ?_
  refine i_istore_n (L' := [some (.ref (ad 23)), some (vi (kd)), some (vi (nb)), some (vi (0))]) G dX4_isAsked_1 (by decide) rfl ?_
  have lp2 : ∀ (n2 : Nat) (t : Int), (0 ≤ t) → (t + n2 = z 3 0) → (askL z kd nb n2 t = askL z kd nb (z 3 0).toNat 0) → JW p l e (rmL 1) s m args below meth c 4 D aC ad A shC (MQ below (cQi D aC ad shC (fun r_ z_ y_ => r_ = (askL z kd nb (z 3 0).toNat 0) ∧ z_ = z ∧ y_ = y) A) args s 0 0 A) 0 0 (zc z y) 2 [some (.ref (ad 23)), some (vi (kd)), some (vi (nb)), some (vi (t))] [] := by
    intro n2
    induction n2 with
    | zero => 
      intro t ht hm hF
      refine i_iload_n G dX4_isAsked_2 rfl ?_
      refine i_aload_n G dX4_isAsked_3 rfl ?_
      refine j_getz G F_X4_25 23 rfl rfl (by decide) dX4_isAsked_4 ?_
      have b4 : 0 ≤ z 3 0 ∧ z 3 0 ≤ 40 := hR 3 _
      refine i_icmp_ge (tgt := 46) G dX4_isAsked_7 (by decide) (by omega) (by omega) (fun h7 => ?_) (fun h7 => ?_)
      · skip
        refine i_iconst G dX4_isAsked_46 ?_
        refine j_retz G hr (by omega) dX4_isAsked_47 ?_
        refine ⟨?_, rfl, rfl⟩
        rw [← hF]
        rfl
      · skip
        exfalso; omega
    | succ n2 ih2 => 
      intro t ht hm hF
      refine i_iload_n G dX4_isAsked_2 rfl ?_
      refine i_aload_n G dX4_isAsked_3 rfl ?_
      refine j_getz G F_X4_25 23 rfl rfl (by decide) dX4_isAsked_4 ?_
      have b4 : 0 ≤ z 3 0 ∧ z 3 0 ≤ 40 := hR 3 _
      refine i_icmp_ge (tgt := 46) G dX4_isAsked_7 (by decide) (by omega) (by omega) (fun h7 => ?_) (fun h7 => ?_)
      · skip
        exfalso; omega
      · skip
        refine i_aload_n G dX4_isAsked_10 rfl ?_
        refine i_iload_n G dX4_isAsked_11 rfl ?_
        refine j_callE (q0 := 23) (As := [vi (t)]) (st := []) G K_X4_29 (c_isOpen l hd hR hY t (by omega)) rfl rfl rfl (rm_ok (by decide) (by decide)) ⟨Nat.le_refl _, Nat.le_refl _⟩ (Nat.le_of_ble_eq_true rfl) dX4_isAsked_12 ?_
        obtain ⟨r12, er12⟩ : ∃ x_ : Int, x_ = (if z 26 t = -1 then 1 else 0) := ⟨_, rfl⟩
        rw [← er12]
        have b12 : (r12 = 1 ∧ z 26 t = -1) ∨ (r12 = 0 ∧ ¬ z 26 t = -1) := by rw [er12]; split <;> omega
        refine i_if_eq (tgt := 40) G dX4_isAsked_15 (by decide) (by omega) (fun h15 => ?_) (fun h15 => ?_)
        · skip
          refine i_iinc (L' := [some (.ref (ad 23)), some (vi (kd)), some (vi (nb)), some (vi (t + 1))]) G dX4_isAsked_40 (by decide) rfl rfl ?_
          refine i_goto (tgt := 2) G dX4_isAsked_43 (by decide) ?_
          exact ih2 (t + 1) (by omega) (by omega) (by rw [← hF, askL, if_neg (by omega)])
        · skip
          refine i_aload_n G dX4_isAsked_18 rfl ?_
          refine i_getr G F_X4_9 23 rfl rfl dX4_isAsked_19 ?_
          refine i_iload_n G dX4_isAsked_22 rfl ?_
          refine j_cald_z G 24 rfl (by decide) (by decide) (by omega) (by omega) dX4_isAsked_23 ?_
          have b23 : 0 ≤ z 23 t ∧ z 23 t ≤ 65535 := hR 23 _
          refine i_iload_n G dX4_isAsked_24 rfl ?_
          refine i_icmp_ne (tgt := 40) G dX4_isAsked_25 (by decide) (by omega) (by omega) (fun h25 => ?_) (fun h25 => ?_)
          · skip
            refine i_iinc (L' := [some (.ref (ad 23)), some (vi (kd)), some (vi (nb)), some (vi (t + 1))]) G dX4_isAsked_40 (by decide) rfl rfl ?_
            refine i_goto (tgt := 2) G dX4_isAsked_43 (by decide) ?_
            exact ih2 (t + 1) (by omega) (by omega) (by rw [← hF, askL, if_neg (by omega)])
          · skip
            refine i_aload_n G dX4_isAsked_28 rfl ?_
            refine i_getr G F_X4_15 23 rfl rfl dX4_isAsked_29 ?_
            refine i_iload_n G dX4_isAsked_32 rfl ?_
            refine j_iald_z G 25 rfl (by decide) (by decide) (by omega) (by omega) dX4_isAsked_33 ?_
            have b33 : 0 ≤ z 24 t ∧ z 24 t ≤ 29 := hR 24 _
            refine i_iload_n G dX4_isAsked_34 rfl ?_
            refine i_icmp_ne (tgt := 40) G dX4_isAsked_35 (by decide) (by omega) (by omega) (fun h35 => ?_) (fun h35 => ?_)
            · skip
              refine i_iinc (L' := [some (.ref (ad 23)), some (vi (kd)), some (vi (nb)), some (vi (t + 1))]) G dX4_isAsked_40 (by decide) rfl rfl ?_
              refine i_goto (tgt := 2) G dX4_isAsked_43 (by decide) ?_
              exact ih2 (t + 1) (by omega) (by omega) (by rw [← hF, askL, if_neg (by omega)])
            · skip
              refine i_iconst G dX4_isAsked_38 ?_
              refine j_retz G hr (by omega) dX4_isAsked_39 ?_
              refine ⟨?_, rfl, rfl⟩
              rw [← hF, askL, if_pos (by omega)]
  have b0 : 0 ≤ z 3 0 ∧ z 3 0 ≤ 40 := hR 3 0
  exact lp2 (z 3 0).toNat 0 (by omega) (by omega) rfl
set_option maxHeartbeats 4000000 in
set_option maxRecDepth 100000 in
theorem c_areDoneByOneOf (l : Launch) {D : va_G} {aC : Nat → ClassId} {ad : Nat → Nat} (hd : wDi ad shC) {z y : wZ} (hR : Rng z) (hY : Rng y) (rn : Int) (hrn : 0 ≤ rn ∧ rn ≤ 4) : cE l D aC ad shC yX4_areDoneByOneOf cX4_areDoneByOneOf 3 (.boolean) (rmL 1) [.ref (ad 23), vi rn] z y (adL z rn (z 3 0).toNat 0) := by
  refine c_i [some (.ref (ad 23)), some (vi (rn)), none] (by decide +kernel) rfl (Nat.le_of_ble_eq_true rfl) rfl hd ?_
  intro p e s m args below meth c A G hr
  refine i_iconst G dX4_areDoneByOneOf_0 ?_
  refine i_istore_n (L' := [some (.ref (ad 23)), some (vi (rn)), some (vi (0))]) G dX4_areDoneByOneOf_1 (by decide) rfl ?_
  have lp2 : ∀ (n2 : Nat) (t : Int), (0 ≤ t) → (t + n2 = z 3 0) → (adL z rn n2 t = adL z rn (z 3 0).toNat 0) → JW p l e (rmL 1) s m args below meth c 3 D aC ad A shC (MQ below (cQi D aC ad shC (fun r_ z_ y_ => r_ = (adL z rn (z 3 0).toNat 0) ∧ z_ = z ∧ y_ = y) A) args s 0 0 A) 0 0 (zc z y) 2 [some (.ref (ad 23)), some (vi (rn)), some (vi (t))] [] := by
    intro n2
    induction n2 with
    | zero => 
      intro t ht hm hF
      refine i_iload_n G dX4_areDoneByOneOf_2 rfl ?_
      refine i_aload_n G dX4_areDoneByOneOf_3 rfl ?_
      refine j_getz G F_X4_25 23 rfl rfl (by decide) dX4_areDoneByOneOf_4 ?_
      have b4 : 0 ≤ z 3 0 ∧ z 3 0 ≤ 40 := hR 3 _
      refine i_icmp_ge (tgt := 45) G dX4_areDoneByOneOf_7 (by decide) (by omega) (by omega) (fun h7 => ?_) (fun h7 => ?_)
      · skip
        refine i_iconst G dX4_areDoneByOneOf_45 ?_
        refine j_retz G hr (by omega) dX4_areDoneByOneOf_46 ?_
        refine ⟨?_, rfl, rfl⟩
        rw [← hF]
        rfl
      · skip
        exfalso; omega
    | succ n2 ih2 => 
      intro t ht hm hF
      refine i_iload_n G dX4_areDoneByOneOf_2 rfl ?_
      refine i_aload_n G dX4_areDoneByOneOf_3 rfl ?_
      refine j_getz G F_X4_25 23 rfl rfl (by decide) dX4_areDoneByOneOf_4 ?_
      have b4 : 0 ≤ z 3 0 ∧ z 3 0 ≤ 40 := hR 3 _
      refine i_icmp_ge (tgt := 45) G dX4_areDoneByOneOf_7 (by decide) (by omega) (by omega) (fun h7 => ?_) (fun h7 => ?_)
      · skip
        exfalso; omega
      · skip
        refine i_aload_n G dX4_areDoneByOneOf_10 rfl ?_
        refine i_iload_n G dX4_areDoneByOneOf_11 rfl ?_
        refine j_callE (q0 := 23) (As := [vi (t)]) (st := []) G K_X4_29 (c_isOpen l hd hR hY t (by omega)) rfl rfl rfl (rm_ok (by decide) (by decide)) ⟨Nat.le_refl _, Nat.le_refl _⟩ (Nat.le_of_ble_eq_true rfl) dX4_areDoneByOneOf_12 ?_
        obtain ⟨r12, er12⟩ : ∃ x_ : Int, x_ = (if z 26 t = -1 then 1 else 0) := ⟨_, rfl⟩
        rw [← er12]
        have b12 : (r12 = 1 ∧ z 26 t = -1) ∨ (r12 = 0 ∧ ¬ z 26 t = -1) := by rw [er12]; split <;> omega
        refine i_if_ne (tgt := 39) G dX4_areDoneByOneOf_15 (by decide) (by omega) (fun h15 => ?_) (fun h15 => ?_)
        · skip
          refine i_iinc (L' := [some (.ref (ad 23)), some (vi (rn)), some (vi (t + 1))]) G dX4_areDoneByOneOf_39 (by decide) rfl rfl ?_
          refine i_goto (tgt := 2) G dX4_areDoneByOneOf_42 (by decide) ?_
          exact ih2 (t + 1) (by omega) (by omega) (by rw [← hF, adL, if_neg (by omega)])
        · skip
          refine i_aload_n G dX4_areDoneByOneOf_18 rfl ?_
          refine i_getr G F_X4_22 23 rfl rfl dX4_areDoneByOneOf_19 ?_
          refine i_iload_n G dX4_areDoneByOneOf_22 rfl ?_
          refine j_iald_z G 27 rfl (by decide) (by decide) (by omega) (by omega) dX4_areDoneByOneOf_23 ?_
          have b23 : -1 ≤ z 26 t ∧ z 26 t ≤ 3 := hR 26 _
          refine i_if_lt (tgt := 37) G dX4_areDoneByOneOf_24 (by decide) (by omega) (fun h24 => ?_) (fun h24 => ?_)
          · skip
            refine i_iconst G dX4_areDoneByOneOf_37 ?_
            refine j_retz G hr (by omega) dX4_areDoneByOneOf_38 ?_
            refine ⟨?_, rfl, rfl⟩
            rw [← hF, adL, if_pos (by omega)]
          · skip
            refine i_aload_n G dX4_areDoneByOneOf_27 rfl ?_
            refine i_getr G F_X4_22 23 rfl rfl dX4_areDoneByOneOf_28 ?_
            refine i_iload_n G dX4_areDoneByOneOf_31 rfl ?_
            refine j_iald_z G 27 rfl (by decide) (by decide) (by omega) (by omega) dX4_areDoneByOneOf_32 ?_
            have b32 : -1 ≤ z 26 t ∧ z 26 t ≤ 3 := hR 26 _
            refine i_iload_n G dX4_areDoneByOneOf_33 rfl ?_
            refine i_icmp_lt (tgt := 39) G dX4_areDoneByOneOf_34 (by decide) (by omega) (by omega) (fun h34 => ?_) (fun h34 => ?_)
            · skip
              refine i_iinc (L' := [some (.ref (ad 23)), some (vi (rn)), some (vi (t + 1))]) G dX4_areDoneByOneOf_39 (by decide) rfl rfl ?_
              refine i_goto (tgt := 2) G dX4_areDoneByOneOf_42 (by decide) ?_
              exact ih2 (t + 1) (by omega) (by omega) (by rw [← hF, adL, if_neg (by omega)])
            · skip
              refine i_iconst G dX4_areDoneByOneOf_37 ?_
              refine j_retz G hr (by omega) dX4_areDoneByOneOf_38 ?_
              refine ⟨?_, rfl, rfl⟩
              rw [← hF, adL, if_pos (by omega)]
  have b0 : 0 ≤ z 3 0 ∧ z 3 0 ≤ 40 := hR 3 0
  exact lp2 (z 3 0).toNat 0 (by omega) (by omega) rfl
set_option maxHeartbeats 4000000 in
set_option maxRecDepth 100000 in
theorem c_enlist (l : Launch) {D : va_G} {aC : Nat → ClassId} {ad : Nat → Nat} (hd : wDi ad shC) {z y : wZ} (hR : Rng z) (hY : Rng y) (f : Int) (tl : Int) (hrm : z 4 0 < 4) (hf : 0 ≤ f ∧ f ≤ 15) (htl : 0 ≤ tl ∧ tl ≤ 3) : cZi l D aC ad shC yX3_enlist cX3_enlist 4 (.int) (rmL 0) [.ref (ad 28), vi f, vi tl] z y (fun r z' => r = z 4 0 ∧ z' = enlF z f tl ∧ Rng z') := by
  refine c_i [some (.ref (ad 28)), some (vi (f)), some (vi (tl)), none] (by decide +kernel) rfl (Nat.le_of_ble_eq_true rfl) rfl hd ?_
  intro p e s m args below meth c A G hr
  refine i_aload_n G dX3_enlist_0 rfl ?_
  refine j_getz G F_X3_21 28 rfl rfl (by decide) dX3_enlist_1 ?_
  have b1 : 0 ≤ z 4 0 ∧ z 4 0 ≤ 4 := hR 4 _
  refine i_istore_n (L' := [some (.ref (ad 28)), some (vi (f)), some (vi (tl)), some (vi ((z 4 0)))]) G dX3_enlist_4 (by decide) rfl ?_
  refine i_aload_n G dX3_enlist_5 rfl ?_
  refine i_dup G rfl dX3_enlist_6 ?_
  refine j_getz G F_X3_21 28 rfl rfl (by decide) dX3_enlist_7 ?_
  have b7 : 0 ≤ z 4 0 ∧ z 4 0 ≤ 4 := hR 4 _
  refine i_iconst G dX3_enlist_10 ?_
  refine i_iadd G dX3_enlist_11 ?_
  refine j_putz G P_X3_21 28 rfl rfl (by decide) (by decide) (by decide) hR (by show (0 : Int) ≤ _ ∧ _ ≤ (4 : Int); omega) dX3_enlist_12 (fun z12 ez12 hRz12 => ?_)
  refine i_aload_n G dX3_enlist_15 rfl ?_
  refine i_getr G F_X3_9 28 rfl rfl dX3_enlist_16 ?_
  refine i_iload_n G dX3_enlist_19 rfl ?_
  refine i_iload_n G dX3_enlist_20 rfl ?_
  refine j_iast_z G 29 rfl (by decide) (by decide) (by omega) (by omega) (by decide) hRz12 (by show (0 : Int) ≤ _ ∧ _ ≤ (15 : Int); omega) dX3_enlist_21 (fun z21 ez21 hRz21 => ?_)
  refine i_aload_n G dX3_enlist_22 rfl ?_
  refine i_getr G F_X3_15 28 rfl rfl dX3_enlist_23 ?_
  refine i_iload_n G dX3_enlist_26 rfl ?_
  refine i_iload_n G dX3_enlist_27 rfl ?_
  refine j_iast_z G 30 rfl (by decide) (by decide) (by omega) (by omega) (by decide) hRz21 (by show (0 : Int) ≤ _ ∧ _ ≤ (3 : Int); omega) dX3_enlist_28 (fun z28 ez28 hRz28 => ?_)
  refine i_iload_n G dX3_enlist_29 rfl ?_
  refine j_reti G hr dX3_enlist_30 ?_
  refine ⟨rfl, rfl, ?_, hRz28⟩
  subst_vars
  rfl
set_option maxHeartbeats 4000000 in
set_option maxRecDepth 100000 in
theorem c_hasTool_0 (l : Launch) {D : va_G} {aC : Nat → ClassId} {ad : Nat → Nat} (hd : wDi ad shC) {z y : wZ} (hR : Rng z) (hY : Rng y) (r : Int) (hr0 : 0 ≤ r ∧ r ≤ 3) : cE l D aC ad shC yX3_hasTool cX3_hasTool 3 (.boolean) (rmL 0) [.ref (ad 28), vi r, vi 0] z y (hasT z r 0) := by
  refine c_i [some (.ref (ad 28)), some (vi (r)), some (vi (0))] (by decide +kernel) rfl (Nat.le_of_ble_eq_true rfl) rfl hd ?_
  intro p e s m args below meth c A G hr
  refine i_aload_n G dX3_hasTool_0 rfl ?_
  refine i_getr G F_X3_15 28 rfl rfl dX3_hasTool_1 ?_
  refine i_iload_n G dX3_hasTool_4 rfl ?_
  refine j_iald_z G 30 rfl (by decide) (by decide) (by omega) (by omega) dX3_hasTool_5 ?_
  have b5 : 0 ≤ z 28 r ∧ z 28 r ≤ 3 := hR 28 _
  refine i_iload_n G dX3_hasTool_6 rfl ?_
  refine i_iand (w := 0) G (tl_and (hR 28 r)).1 dX3_hasTool_7 ?_
  refine i_iload_n G dX3_hasTool_8 rfl ?_
  refine i_icmp_ne (tgt := 16) G dX3_hasTool_9 (by decide) (by omega) (by omega) (fun h9 => ?_) (fun h9 => ?_)
  · skip
    exfalso; omega
  · skip
    refine i_iconst G dX3_hasTool_12 ?_
    refine i_goto (tgt := 17) G dX3_hasTool_13 (by decide) ?_
    refine j_retz G hr (by omega) dX3_hasTool_17 ?_
    refine ⟨?_, rfl, rfl⟩
    unfold hasT
    simp
set_option maxHeartbeats 4000000 in
set_option maxRecDepth 100000 in
theorem c_hasTool_1 (l : Launch) {D : va_G} {aC : Nat → ClassId} {ad : Nat → Nat} (hd : wDi ad shC) {z y : wZ} (hR : Rng z) (hY : Rng y) (r : Int) (hr0 : 0 ≤ r ∧ r ≤ 3) : cE l D aC ad shC yX3_hasTool cX3_hasTool 3 (.boolean) (rmL 0) [.ref (ad 28), vi r, vi 1] z y (hasT z r 1) := by
  refine c_i [some (.ref (ad 28)), some (vi (r)), some (vi (1))] (by decide +kernel) rfl (Nat.le_of_ble_eq_true rfl) rfl hd ?_
  intro p e s m args below meth c A G hr
  refine i_aload_n G dX3_hasTool_0 rfl ?_
  refine i_getr G F_X3_15 28 rfl rfl dX3_hasTool_1 ?_
  refine i_iload_n G dX3_hasTool_4 rfl ?_
  refine j_iald_z G 30 rfl (by decide) (by decide) (by omega) (by omega) dX3_hasTool_5 ?_
  have b5 : 0 ≤ z 28 r ∧ z 28 r ≤ 3 := hR 28 _
  refine i_iload_n G dX3_hasTool_6 rfl ?_
  refine i_iand (w := (z 28 r % 2)) G (tl_and (hR 28 r)).2.1 dX3_hasTool_7 ?_
  refine i_iload_n G dX3_hasTool_8 rfl ?_
  refine i_icmp_ne (tgt := 16) G dX3_hasTool_9 (by decide) (by omega) (by omega) (fun h9 => ?_) (fun h9 => ?_)
  · skip
    refine i_iconst G dX3_hasTool_16 ?_
    refine j_retz G hr (by omega) dX3_hasTool_17 ?_
    refine ⟨?_, rfl, rfl⟩
    unfold hasT
    simp
    omega
  · skip
    refine i_iconst G dX3_hasTool_12 ?_
    refine i_goto (tgt := 17) G dX3_hasTool_13 (by decide) ?_
    refine j_retz G hr (by omega) dX3_hasTool_17 ?_
    refine ⟨?_, rfl, rfl⟩
    unfold hasT
    simp
    omega
set_option maxHeartbeats 4000000 in
set_option maxRecDepth 100000 in
theorem c_hasTool_2 (l : Launch) {D : va_G} {aC : Nat → ClassId} {ad : Nat → Nat} (hd : wDi ad shC) {z y : wZ} (hR : Rng z) (hY : Rng y) (r : Int) (hr0 : 0 ≤ r ∧ r ≤ 3) : cE l D aC ad shC yX3_hasTool cX3_hasTool 3 (.boolean) (rmL 0) [.ref (ad 28), vi r, vi 2] z y (hasT z r 2) := by
  refine c_i [some (.ref (ad 28)), some (vi (r)), some (vi (2))] (by decide +kernel) rfl (Nat.le_of_ble_eq_true rfl) rfl hd ?_
  intro p e s m args below meth c A G hr
  refine i_aload_n G dX3_hasTool_0 rfl ?_
  refine i_getr G F_X3_15 28 rfl rfl dX3_hasTool_1 ?_
  refine i_iload_n G dX3_hasTool_4 rfl ?_
  refine j_iald_z G 30 rfl (by decide) (by decide) (by omega) (by omega) dX3_hasTool_5 ?_
  have b5 : 0 ≤ z 28 r ∧ z 28 r ≤ 3 := hR 28 _
  refine i_iload_n G dX3_hasTool_6 rfl ?_
  refine i_iand (w := (z 28 r / 2 * 2)) G (tl_and (hR 28 r)).2.2 dX3_hasTool_7 ?_
  refine i_iload_n G dX3_hasTool_8 rfl ?_
  refine i_icmp_ne (tgt := 16) G dX3_hasTool_9 (by decide) (by omega) (by omega) (fun h9 => ?_) (fun h9 => ?_)
  · skip
    refine i_iconst G dX3_hasTool_16 ?_
    refine j_retz G hr (by omega) dX3_hasTool_17 ?_
    refine ⟨?_, rfl, rfl⟩
    unfold hasT
    simp
    omega
  · skip
    refine i_iconst G dX3_hasTool_12 ?_
    refine i_goto (tgt := 17) G dX3_hasTool_13 (by decide) ?_
    refine j_retz G hr (by omega) dX3_hasTool_17 ?_
    refine ⟨?_, rfl, rfl⟩
    unfold hasT
    simp
    omega
theorem hasT_in {z : wZ} (h : Rng z) (r tool : Int) : 0 ≤ hasT z r tool ∧ hasT z r tool ≤ 1 := by
  have h1 : 0 ≤ z 28 r ∧ z 28 r ≤ 3 := h 28 r
  unfold hasT; (repeat' split) <;> omega
theorem c_hasTool (l : Launch) {D : va_G} {aC : Nat → ClassId} {ad : Nat → Nat} (hd : wDi ad shC) {z y : wZ} (hR : Rng z) (hY : Rng y) (r tool : Int) (hr0 : 0 ≤ r ∧ r ≤ 3) (ht0 : 0 ≤ tool ∧ tool ≤ 2) : cE l D aC ad shC yX3_hasTool cX3_hasTool 3 (.boolean) (rmL 0) [.ref (ad 28), vi r, vi tool] z y (hasT z r tool) := by
  have h : tool = 0 ∨ tool = 1 ∨ tool = 2 := by omega
  rcases h with rfl | rfl | rfl
  · exact c_hasTool_0 l hd hR hY r hr0
  · exact c_hasTool_1 l hd hR hY r hr0
  · exact c_hasTool_2 l hd hR hY r hr0
set_option maxHeartbeats 4000000 in
set_option maxRecDepth 100000 in
theorem c_spend (l : Launch) {D : va_G} {aC : Nat → ClassId} {ad : Nat → Nat} (hd : wDi ad shC) {z y : wZ} (hR : Rng z) (hY : Rng y) (r : Int) (mn : Int) (hr0 : 0 ≤ r ∧ r ≤ 3) (hm : 0 ≤ mn ∧ mn ≤ z 8 0) (hw : z 29 r + mn ≤ 60000) : cZv l D aC ad shC yX3_spend cX3_spend 3 (rmL 0) [.ref (ad 28), vi r, vi mn] z y (fun z' => z' = spdF z r mn ∧ Rng z') := by
  refine c_v [some (.ref (ad 28)), some (vi (r)), some (vi (mn))] (by decide +kernel) rfl (Nat.le_of_ble_eq_true rfl) rfl hd ?_
  intro p e s m args below meth c A G hr
  refine i_aload_n G dX3_spend_0 rfl ?_
  refine i_dup G rfl dX3_spend_1 ?_
  refine j_getz G F_X3_25 28 rfl rfl (by decide) dX3_spend_2 ?_
  have b2 : 0 ≤ z 8 0 ∧ z 8 0 ≤ 480 := hR 8 _
  refine i_iload_n G dX3_spend_5 rfl ?_
  refine i_isub G dX3_spend_6 ?_
  refine j_putz G P_X3_25 28 rfl rfl (by decide) (by decide) (by decide) hR (by show (0 : Int) ≤ _ ∧ _ ≤ (480 : Int); omega) dX3_spend_7 (fun z7 ez7 hRz7 => ?_)
  refine i_aload_n G dX3_spend_10 rfl ?_
  refine i_getr G F_X3_18 28 rfl rfl dX3_spend_11 ?_
  refine i_iload_n G dX3_spend_14 rfl ?_
  refine i_dup2 G rfl rfl dX3_spend_15 ?_
  refine j_iald_z G 31 rfl (by decide) (by decide) (by omega) (by omega) dX3_spend_16 ?_
  have b16 : 0 ≤ z7 29 r ∧ z7 29 r ≤ 60000 := hRz7 29 _
  refine i_iload_n G dX3_spend_17 rfl ?_
  refine i_iadd G dX3_spend_18 ?_
  refine j_iast_z G 31 rfl (by decide) (by decide) (by omega) (by omega) (by decide) hRz7 (by show (0 : Int) ≤ _ ∧ _ ≤ (60000 : Int); subst ez7; have q1 : 0 ≤ z 29 r ∧ z 29 r ≤ 60000 := hR 29 r; show (0 : Int) ≤ z 29 r + mn ∧ z 29 r + mn ≤ 60000; omega) dX3_spend_19 (fun z19 ez19 hRz19 => ?_)
  refine j_retv G hr dX3_spend_20 ?_
  refine ⟨rfl, ?_, hRz19⟩
  subst_vars
  rfl
set_option maxHeartbeats 4000000 in
set_option maxRecDepth 100000 in
theorem c_draw (l : Launch) {D : va_G} {aC : Nat → ClassId} {ad : Nat → Nat} (hd : wDi ad shC) {z y : wZ} (hR : Rng z) (hY : Rng y) (td : Int) (hrm : z 5 0 < 10) (htd : 0 ≤ td ∧ td ≤ 50) : cZi l D aC ad shC yX1_draw cX1_draw 5 (.int) (rmL 0) [.ref (ad 32), .ref (ad 1), vi td] z y (fun r z' => r = z 5 0 ∧ z' = drwF z td ∧ Rng z') := by
  refine c_i [some (.ref (ad 32)), some (.ref (ad 1)), some (vi (td)), none, none] (by decide +kernel) rfl (Nat.le_of_ble_eq_true rfl) rfl hd ?_
  intro p e s m args below meth c A G hr
  refine i_aload_n G dX1_draw_0 rfl ?_
  refine j_getz G F_X1_19 32 rfl rfl (by decide) dX1_draw_1 ?_
  have b1 : 0 ≤ z 5 0 ∧ z 5 0 ≤ 10 := hR 5 _
  refine i_istore_n (L' := [some (.ref (ad 32)), some (.ref (ad 1)), some (vi (td)), some (vi ((z 5 0))), none]) G dX1_draw_4 (by decide) rfl ?_
  refine i_aload_n G dX1_draw_5 rfl ?_
  refine i_dup G rfl dX1_draw_6 ?_
  refine j_getz G F_X1_19 32 rfl rfl (by decide) dX1_draw_7 ?_
  have b7 : 0 ≤ z 5 0 ∧ z 5 0 ≤ 10 := hR 5 _
  refine i_iconst G dX1_draw_10 ?_
  refine i_iadd G dX1_draw_11 ?_
  refine j_putz G P_X1_19 32 rfl rfl (by decide) (by decide) (by decide) hR (by show (0 : Int) ≤ _ ∧ _ ≤ (10 : Int); omega) dX1_draw_12 (fun z12 ez12 hRz12 => ?_)
  refine i_aload_n G dX1_draw_15 rfl ?_
  refine i_getr G F_X1_15 32 rfl rfl dX1_draw_16 ?_
  refine i_iload_n G dX1_draw_19 rfl ?_
  refine i_iload_n G dX1_draw_20 rfl ?_
  refine j_iast_z G 34 rfl (by decide) (by decide) (by omega) (by omega) (by decide) hRz12 (by show (0 : Int) ≤ _ ∧ _ ≤ (50 : Int); omega) dX1_draw_21 (fun z21 ez21 hRz21 => ?_)
  refine i_iconst G dX1_draw_22 ?_
  refine i_istore (L' := [some (.ref (ad 32)), some (.ref (ad 1)), some (vi (td)), some (vi ((z 5 0))), some (vi (0))]) G dX1_draw_23 (by decide) rfl ?_
  have lp25 : ∀ (n25 : Nat) (t : Int) (z25_ : wZ), Rng z25_ → (0 ≤ t) → (z25_ 1 0 = z 1 0) → (t + n25 = z 1 0) → (drwL (z 5 0) n25 t z25_ = drwF z td) → JW p l e (rmL 0) s m args below meth c 5 D aC ad A shC (MQ below (cQi D aC ad shC (fun r_ z_ y_ => y_ = y ∧ (fun r z' => r = z 5 0 ∧ z' = drwF z td ∧ Rng z') r_ z_) A) args s 0 0 A) 0 0 (zc z25_ y) 25 [some (.ref (ad 32)), some (.ref (ad 1)), some (vi (td)), some (vi ((z 5 0))), some (vi (t))] [] := by
    intro n25
    induction n25 with
    | zero => 
      intro t z25_ hRz25_ ht h1 hn hF
      refine i_iload G dX1_draw_25 rfl ?_
      refine i_aload_n G dX1_draw_27 rfl ?_
      refine j_getz G F_X1_23 1 rfl rfl (by decide) dX1_draw_28 ?_
      have b28 : 0 ≤ z25_ 1 0 ∧ z25_ 1 0 ≤ 24 := hRz25_ 1 _
      refine i_icmp_ge (tgt := 70) G dX1_draw_31 (by decide) (by omega) (by omega) (fun h31 => ?_) (fun h31 => ?_)
      · skip
        refine i_iload_n G dX1_draw_70 rfl ?_
        refine j_reti G hr dX1_draw_71 ?_
        exact ⟨rfl, rfl, hF, hRz25_⟩
      · skip
        exfalso; omega
    | succ n25 ih25 => 
      intro t z25_ hRz25_ ht h1 hn hF
      refine i_iload G dX1_draw_25 rfl ?_
      refine i_aload_n G dX1_draw_27 rfl ?_
      refine j_getz G F_X1_23 1 rfl rfl (by decide) dX1_draw_28 ?_
      have b28 : 0 ≤ z25_ 1 0 ∧ z25_ 1 0 ≤ 24 := hRz25_ 1 _
      refine i_icmp_ge (tgt := 70) G dX1_draw_31 (by decide) (by omega) (by omega) (fun h31 => ?_) (fun h31 => ?_)
      · skip
        exfalso; omega
      · skip
        refine i_aload_n G dX1_draw_34 rfl ?_
        refine i_getr G F_X1_9 32 rfl rfl dX1_draw_35 ?_
        refine i_iload_n G dX1_draw_38 rfl ?_
        refine i_bipush G dX1_draw_39 (by decide) ?_
        refine i_imul G dX1_draw_41 ?_
        refine i_iload G dX1_draw_42 rfl ?_
        refine i_iadd G dX1_draw_44 ?_
        refine i_aload_n G dX1_draw_45 rfl ?_
        refine i_getr G F_X1_28 1 rfl rfl dX1_draw_46 ?_
        refine i_getr G F_X1_32 10 rfl rfl dX1_draw_49 ?_
        refine i_iload G dX1_draw_52 rfl ?_
        refine j_zald_z G 11 rfl (by decide) (by decide) (by omega) (by omega) dX1_draw_54 ?_
        have b54 : 0 ≤ z25_ 16 t ∧ z25_ 16 t ≤ 1 := hRz25_ 16 _
        refine i_if_ne (tgt := 62) G dX1_draw_55 (by decide) (by omega) (fun h55 => ?_) (fun h55 => ?_)
        · skip
          refine i_iconst G dX1_draw_62 ?_
          refine j_zast_z G 33 rfl (by decide) (by decide) (by omega) (by omega) (by omega) (by decide) hRz25_ (by show (0 : Int) ≤ _ ∧ _ ≤ (1 : Int); omega) dX1_draw_63 (fun z63 ez63 hRz63 => ?_)
          refine i_iinc (L' := [some (.ref (ad 32)), some (.ref (ad 1)), some (vi (td)), some (vi ((z 5 0))), some (vi (t + 1))]) G dX1_draw_64 (by decide) rfl rfl ?_
          refine i_goto (tgt := 25) G dX1_draw_67 (by decide) ?_
          exact ih25 (t + 1) z63 hRz63 (by omega) (by rw [ez63]; exact h1) (by omega) (by rw [← hF, drwL, ez63]; first | rw [if_pos (by omega)] | rw [if_neg (by omega)])
        · skip
          refine i_iconst G dX1_draw_58 ?_
          refine i_goto (tgt := 63) G dX1_draw_59 (by decide) ?_
          refine j_zast_z G 33 rfl (by decide) (by decide) (by omega) (by omega) (by omega) (by decide) hRz25_ (by show (0 : Int) ≤ _ ∧ _ ≤ (1 : Int); omega) dX1_draw_63 (fun z63 ez63 hRz63 => ?_)
          refine i_iinc (L' := [some (.ref (ad 32)), some (.ref (ad 1)), some (vi (td)), some (vi ((z 5 0))), some (vi (t + 1))]) G dX1_draw_64 (by decide) rfl rfl ?_
          refine i_goto (tgt := 25) G dX1_draw_67 (by decide) ?_
          exact ih25 (t + 1) z63 hRz63 (by omega) (by rw [ez63]; exact h1) (by omega) (by rw [← hF, drwL, ez63]; first | rw [if_pos (by omega)] | rw [if_neg (by omega)])
  have b0 : 0 ≤ z 1 0 ∧ z 1 0 ≤ 24 := hR 1 0
  exact lp25 (z 1 0).toNat 0 z21 hRz21 (by omega) (by subst_vars; rfl) (by omega) (by subst_vars; rfl)
set_option maxHeartbeats 4000000 in
set_option maxRecDepth 100000 in
theorem c_isDrawn (l : Launch) {D : va_G} {aC : Nat → ClassId} {ad : Nat → Nat} (hd : wDi ad shC) {z y : wZ} (hR : Rng z) (hY : Rng y) (mp : Int) (t : Int) (hm : 0 ≤ mp ∧ mp ≤ 9) (ht : 0 ≤ t ∧ t < 24) : cE l D aC ad shC yX1_isDrawn cX1_isDrawn 3 (.boolean) (rmL 0) [.ref (ad 32), vi mp, vi t] z y (z 30 (mp * 24 + t)) := by
  refine c_i [some (.ref (ad 32)), some (vi (mp)), some (vi (t))] (by decide +kernel) rfl (Nat.le_of_ble_eq_true rfl) rfl hd ?_
  intro p e s m args below meth c A G hr
  refine i_aload_n G dX1_isDrawn_0 rfl ?_
  refine i_getr G F_X1_9 32 rfl rfl dX1_isDrawn_1 ?_
  refine i_iload_n G dX1_isDrawn_4 rfl ?_
  refine i_bipush G dX1_isDrawn_5 (by decide) ?_
  refine i_imul G dX1_isDrawn_7 ?_
  refine i_iload_n G dX1_isDrawn_8 rfl ?_
  refine i_iadd G dX1_isDrawn_9 ?_
  refine j_zald_z G 33 rfl (by decide) (by decide) (by omega) (by omega) dX1_isDrawn_10 ?_
  have b10 : 0 ≤ z 30 ((mp * 24) + t) ∧ z 30 ((mp * 24) + t) ≤ 1 := hR 30 _
  refine j_retz G hr (by omega) dX1_isDrawn_11 ?_
  exact ⟨rfl, rfl, rfl⟩
