/-! the cheapest choices, as the reference finds them -/
def mpl (c : Int → Int) (k p b q : Int) : Int := if c (k * 4 + 2) = 0 then p + b + lenC c k else p + b + 1 + q
def mfa (c : Int → Int) (k p b q : Int) : Int := if c (k * 4 + 2) = 0 then 1 else bI (p + b + 1 ≤ (if (p + b + 1 + q) % 2 = 0 then p + b + 1 + q + 1 else p + b + 1 + q - 1) ∧ (if (p + b + 1 + q) % 2 = 0 then p + b + 1 + q + 1 else p + b + 1 + q - 1) ≤ p + b + lenC c k)
def ms0 (c : Int → Int) (G k p s b q : Int) : Int := if 0 < p ∧ gI G (mpl c k p b q) = gI G p then s else 0
def ms1 (c : Int → Int) (G k p s b q : Int) : Int := if c (k * 4 + 2) = 2 then orI (ms0 c G k p s b q) (bitI (mpl c k p b q)) else ms0 c G k p s b q
def msT (c : Int → Int) (G k p s b q : Int) : Int := if gI G (mpl c k p b q) = gI G (p + b + lenC c k) then ms1 c G k p s b q else 0
def mcT (c : Int → Int) (G k p s b q : Int) : Int := b * c (49 + 3) + (if c (k * 4 + 2) = 2 ∧ andI (ms0 c G k p s b q) (bitI (mpl c k p b q)) = 0 then c (49 + 2) else 0)
def mwV (c : Int → Int) (G k p s b q v : Int) : Int := if mfa c k p b q = 1 then mcT c G k p s b q + v else 10000000
def mwR (c : Int → Int) (G : Int) (le : Int → Int) (k p s i : Int) : Int := mwV c G k p s (i / (mostC c k + 1)) (i % (mostC c k + 1)) (le (256 * (k + 1) + 4 * (p + i / (mostC c k + 1) + lenC c k) + msT c G k p s (i / (mostC c k + 1)) (i % (mostC c k + 1))))
def bsM (c : Int → Int) (G : Int) : Nat → Int → Int → Int → Int
  | 0, _, p, _ => gfI p G * gcC c
  | m + 1, k, p, s => mnI (fun i => mwV c G k p s (i / (mostC c k + 1)) (i % (mostC c k + 1)) (bsM c G m (k + 1) (p + i / (mostC c k + 1) + lenC c k) (msT c G k p s (i / (mostC c k + 1)) (i % (mostC c k + 1))))) (2 * (mostC c k + 1)).toNat 10000000
def mwB (c : Int → Int) (G k p s i : Int) : Int := mwV c G k p s (i / (mostC c k + 1)) (i % (mostC c k + 1)) (bsM c G (c 0 - (k + 1)).toNat (k + 1) (p + i / (mostC c k + 1) + lenC c k) (msT c G k p s (i / (mostC c k + 1)) (i % (mostC c k + 1))))
theorem bsM_s {c : Int → Int} {G k p s : Int} (hk : k < c 0) : bsM c G (c 0 - k).toNat k p s = mnI (mwB c G k p s) (2 * (mostC c k + 1)).toNat 10000000 := by
  have e : (c 0 - k).toNat = (c 0 - (k + 1)).toNat + 1 := by omega
  rw [e]
  rfl
theorem ms0_rg {c : Int → Int} {G k p s b q : Int} (h : 0 ≤ s ∧ s ≤ 3) : 0 ≤ ms0 c G k p s b q ∧ ms0 c G k p s b q ≤ 3 := by
  unfold ms0
  split <;> omega
theorem ms1_rg {c : Int → Int} {G k p s b q : Int} (h : 0 ≤ s ∧ s ≤ 3) : 0 ≤ ms1 c G k p s b q ∧ ms1 c G k p s b q ≤ 3 := by
  have h1 := ms0_rg (c := c) (G := G) (k := k) (p := p) (b := b) (q := q) h
  have h2 := bit_rg (mpl c k p b q)
  unfold ms1
  split
  · exact orI_rg (by omega)
  · exact h1
theorem msT_rg {c : Int → Int} {G k p s b q : Int} (h : 0 ≤ s ∧ s ≤ 3) : 0 ≤ msT c G k p s b q ∧ msT c G k p s b q ≤ 3 := by
  have h1 := ms1_rg (c := c) (G := G) (k := k) (p := p) (b := b) (q := q) h
  unfold msT
  split <;> omega
theorem mcT_rg {c : Int → Int} (hC : CatOK c) {G k p s b q : Int} (hb : 0 ≤ b ∧ b ≤ 1) : 0 ≤ mcT c G k p s b q ∧ mcT c G k p s b q ≤ 198 := by
  have hX := hC.2.2
  unfold SetOK at hX
  have h4 : 0 ≤ b * c (49 + 3) ∧ b * c (49 + 3) ≤ 99 := by
    have hb3 : b = 0 ∨ b = 1 := by omega
    rcases hb3 with rfl | rfl <;> omega
  unfold mcT
  split <;> omega
theorem dm_b {w i : Int} (hw : 1 ≤ w) (hi : 0 ≤ i ∧ i < 2 * w) : (0 ≤ i / w ∧ i / w ≤ 1) ∧ (0 ≤ i % w ∧ i % w < w) ∧ i = i / w * w + i % w := by
  have h1 := Int.emod_nonneg i (show w ≠ 0 by omega)
  have h2 := Int.emod_lt_of_pos i (show 0 < w by omega)
  have h3 : i / w * w + i % w = i := by rw [Int.mul_comm]; exact Int.mul_ediv_add_emod i w
  have h4 : 0 ≤ i / w := Int.ediv_nonneg hi.1 (by omega)
  have h5 : i / w < 2 := Int.ediv_lt_of_lt_mul (by omega) hi.2
  exact ⟨by omega, by omega, h3.symm⟩
theorem dm_u {w b q : Int} (hw : 1 ≤ w) (hq : 0 ≤ q ∧ q < w) : (b * w + q) / w = b ∧ (b * w + q) % w = q := by
  constructor
  · rw [Int.add_comm, Int.add_mul_ediv_right _ _ (by omega), Int.ediv_eq_zero_of_lt hq.1 hq.2]
    omega
  · rw [Int.add_comm, Int.add_mul_emod_self_right, Int.emod_eq_of_lt hq.1 hq.2]
def LmOK (c : Int → Int) (G : Int) (l : Int → Int) (k : Int) : Prop := ∀ k' : Int, k ≤ k' → k' ≤ c 0 → ∀ p s : Int, 0 ≤ p → p ≤ 5 * k' → 0 ≤ s → s ≤ 3 → l (256 * k' + 4 * p + s) = bsM c G (c 0 - k').toNat k' p s
theorem bsM_rg {c : Int → Int} (hC : CatOK c) {G : Int} (hG : G = 4 ∨ G = 8 ∨ G = 16) : ∀ (m : Nat) (k p s : Int), 0 ≤ k → k + m = c 0 → (0 ≤ p ∧ p ≤ 5 * k) → 0 ≤ bsM c G m k p s ∧ bsM c G m k p s ≤ 10000000 := by
  have hN := hC.1
  have hX := hC.2.2
  unfold SetOK at hX
  intro m
  induction m with
  | zero =>
    intro k p s h0 h1 hp
    have hg := gf_b (q := p) hG (by omega)
    have h2 : 0 ≤ gcC c ∧ gcC c ≤ 198 := by unfold gcC; omega
    have h3 : 0 ≤ gfI p G * gcC c := Int.mul_nonneg hg.1 h2.1
    have h4 : gfI p G * gcC c ≤ 15 * 198 := Int.mul_le_mul hg.2.1 h2.2 h2.1 (by omega)
    show 0 ≤ gfI p G * gcC c ∧ gfI p G * gcC c ≤ 10000000
    omega
  | succ m ih =>
    intro k p s h0 h1 hp
    have hk : 0 ≤ k ∧ k < c 0 := by omega
    have hM := most_rg hC hk
    have hl := len_rg hC hk
    have hle := mnI_le (f := fun i => mwV c G k p s (i / (mostC c k + 1)) (i % (mostC c k + 1)) (bsM c G m (k + 1) (p + i / (mostC c k + 1) + lenC c k) (msT c G k p s (i / (mostC c k + 1)) (i % (mostC c k + 1))))) (z := 10000000) (2 * (mostC c k + 1)).toNat
    refine ⟨?_, hle.1⟩
    rcases mnI_at (f := fun i => mwV c G k p s (i / (mostC c k + 1)) (i % (mostC c k + 1)) (bsM c G m (k + 1) (p + i / (mostC c k + 1) + lenC c k) (msT c G k p s (i / (mostC c k + 1)) (i % (mostC c k + 1))))) (z := 10000000) (2 * (mostC c k + 1)).toNat with h | ⟨i, h2, h3, h4⟩
    · show 0 ≤ mnI _ _ _
      rw [h]
      omega
    · show 0 ≤ mnI _ _ _
      rw [h4]
      have hd := dm_b (w := mostC c k + 1) (i := i) (by omega) (by omega)
      have h5 := ih (k + 1) (p + i / (mostC c k + 1) + lenC c k) (msT c G k p s (i / (mostC c k + 1)) (i % (mostC c k + 1))) (by omega) (by omega) (by omega)
      have h6 := mcT_rg hC (G := G) (k := k) (p := p) (s := s) (b := i / (mostC c k + 1)) (q := i % (mostC c k + 1)) hd.1
      unfold mwV
      split <;> omega
theorem mwR_B {c : Int → Int} (hC : CatOK c) {G : Int} {l : Int → Int} {k p s i : Int} (hk : 0 ≤ k ∧ k < c 0) (hp : 0 ≤ p ∧ p ≤ 5 * k) (hs : 0 ≤ s ∧ s ≤ 3) (hi : 0 ≤ i ∧ i < 2 * (mostC c k + 1)) (hL : LmOK c G l (k + 1)) : mwR c G l k p s i = mwB c G k p s i := by
  have hM := most_rg hC hk
  have hl := len_rg hC hk
  have hd := dm_b (w := mostC c k + 1) (i := i) (by omega) hi
  have ht := msT_rg (c := c) (G := G) (k := k) (p := p) (b := i / (mostC c k + 1)) (q := i % (mostC c k + 1)) hs
  unfold mwR mwB
  rw [hL (k + 1) (by omega) (by omega) _ _ (by omega) (by omega) ht.1 ht.2]
theorem mwB_rg {c : Int → Int} (hC : CatOK c) {G : Int} (hG : G = 4 ∨ G = 8 ∨ G = 16) {k p s i : Int} (hk : 0 ≤ k ∧ k < c 0) (hp : 0 ≤ p ∧ p ≤ 5 * k) (hi : 0 ≤ i ∧ i < 2 * (mostC c k + 1)) : 0 ≤ mwB c G k p s i ∧ mwB c G k p s i ≤ 10000198 := by
  have hM := most_rg hC hk
  have hl := len_rg hC hk
  have hd := dm_b (w := mostC c k + 1) (i := i) (by omega) hi
  have h5 := bsM_rg hC hG (c 0 - (k + 1)).toNat (k + 1) (p + i / (mostC c k + 1) + lenC c k) (msT c G k p s (i / (mostC c k + 1)) (i % (mostC c k + 1))) (by omega) (by omega) (by omega)
  have h6 := mcT_rg hC (G := G) (k := k) (p := p) (s := s) (b := i / (mostC c k + 1)) (q := i % (mostC c k + 1)) hd.1
  unfold mwB mwV
  split <;> omega
theorem mfa_01 (c : Int → Int) (k p b q : Int) : mfa c k p b q = 0 ∨ mfa c k p b q = 1 := by
  unfold mfa
  split
  · exact Or.inr rfl
  · exact bI_01 _
set_option maxHeartbeats 4000000 in
set_option maxRecDepth 100000 in
theorem c_X8_stateOf (l : Launch) (D : va_G) (cyI : ClassId) (x : Int) (y : Int) (z : Int) : fp_M l yX8_stateOf wsX8_stateOf ({ frames := 0, cells := 0, slots := 0, locals := 0 } : Room) D cyI [] [.int (iI (x)), .int (iI (y)), .int (iI (z))] (some (.int (iI (256 * x + 4 * y + z)))) := by
  refine fp_start (cc := cX8_stateOf) (maxL := 3) (ret := (some .int)) (by decide) rfl (Nat.le_of_ble_eq_true rfl) ?_
  intro pg en sx mi ar bl mt cd ls hx hb hr hts hown hlocks hml hnm hP hK hD hl
  have hown : sx.vm.findClass RX8 = some mi.cls := hown
  have hl : lv_has ls 3 [(0, .int (iI (x))), (1, .int (iI (y))), (2, .int (iI (z)))] := hl
  refine fp_sipush hx hb dX8_stateOf_0 (by decide) ?_
  refine lv_iload_n hx hb dX8_stateOf_3 rfl (lv_at hl 0 rfl) ?_
  refine fp_imul hx hb dX8_stateOf_4 ?_
  refine fp_iconst hx hb dX8_stateOf_5 ?_
  refine lv_iload_n hx hb dX8_stateOf_6 rfl (lv_at hl 1 rfl) ?_
  refine fp_imul hx hb dX8_stateOf_7 ?_
  refine fp_iadd hx hb dX8_stateOf_8 ?_
  refine lv_iload_n hx hb dX8_stateOf_9 rfl (lv_at hl 2 rfl) ?_
  refine fp_iadd hx hb dX8_stateOf_10 ?_
  have hret : (256 * x + 4 * y + z : Int) = ((256 * x) + (4 * y)) + z := (by first | rfl | omega | (unfold bI; split <;> first | rfl | omega))
  exact fp_ret hx hb hr hlocks dX8_stateOf_11 (congrArg (fun z : Int => Value.int (iI z)) hret)
set_option maxHeartbeats 4000000 in
set_option maxRecDepth 100000 in
theorem c_X8_choicesOf (l : Launch) (D : va_G) (cyI : ClassId) (v : Nat) (a0 : Nat) (a1 : Nat) (a2 : Nat) (a3 : Nat) (e4 : Int) (a5 : Nat) (e6 : Int) (a7 : Nat) (e8 : Int) (e9 : Int) (e10 : Int) (a11 : Nat) (e12 : Int) (e13 : Int) (e14 : Int) (a15 : Nat) (m : Int → Int) (k : Int) (hC : CatOK (cM m)) (hk : 0 ≤ k ∧ k < m 5) : fp_M l yX8_choicesOf wsX8_choicesOf ({ frames := 1, cells := 0, slots := 0, locals := 21 } : Room) D cyI [(v, .inr (8, [.ref a0, .ref a1, .ref a2, .ref a3, .int (iI (e4)), .ref a5, .int (iI (e6)), .ref a7, .int (iI (e8)), .int (iI (e9)), .int (iI (e10)), .ref a11, .int (iI (e12)), .int (iI (e13)), .int (iI (e14)), .ref a15])), (a0, fA cyI 54 m)] [.ref v, .int (iI (k))] (some (.int (iI (2 * (mostC (cM m) k + 1))))) := by
  refine fp_start (cc := cX8_choicesOf) (maxL := 2) (ret := (some .int)) (by decide) rfl (Nat.le_of_ble_eq_true rfl) ?_
  intro pg en sx mi ar bl mt cd ls hx hb hr hts hown hlocks hml hnm hP hK hD hl
  have hown : sx.vm.findClass RX8 = some mi.cls := hown
  have hl : lv_has ls 2 [(0, .ref v), (1, .int (iI (k)))] := hl
  have hN := hC.1
  rw [cM_0] at hN
  have hL := lot_f hC (k := k) (by rw [cM_0]; exact hk)
  unfold LotOK at hL
  rw [cM_t (by omega), cM_p (by omega), cM_b (by omega), cM_q (by omega)] at hL
  have ep : cM m (k * 4 + 2) = m (18 + k) := cM_p (by omega)
  refine fp_iconst hx hb dX8_choicesOf_0 ?_
  refine lv_aload_n hx hb dX8_choicesOf_1 rfl (lv_at hl 0 rfl) ?_
  refine lv_iload_n hx hb dX8_choicesOf_2 rfl (lv_at hl 1 rfl) ?_
  refine fp_pV (As := [.int (iI (k))]) (rest := [.int (iI (2))]) (wsC := [(v, .inr (8, [.ref a0, .ref a1, .ref a2, .ref a3, .int (iI (e4)), .ref a5, .int (iI (e6)), .ref a7, .int (iI (e8)), .int (iI (e9)), .int (iI (e10)), .ref a11, .int (iI (e12)), .int (iI (e13)), .int (iI (e14)), .ref a15])), (a0, fA cyI 54 m)]) ⟨hx, hb, hml, hown, hts⟩ (c_X8_hasPlate l D cyI v a0 a1 a2 a3 e4 a5 e6 a7 e8 e9 e10 a11 e12 e13 e14 a15 m k hC (by omega)) (cwV 1 hts gX8_choicesOf_X8_hasPlate rfl rfl rfl (by decide +kernel) ⟨Nat.le_of_ble_eq_true rfl, Nat.le_of_ble_eq_true rfl⟩) hK hP hD [0, 1] (by decide) rfl rfl rfl rfl hl.1 rfl (Nat.le_of_ble_eq_true rfl) dX8_choicesOf_3 ⟨Nat.zero_le _, Nat.zero_le _⟩ ?_
  refine fp_if_eq (tgt := 19) hx hb (bI_r32 _) dX8_choicesOf_6 (by decide) (fun q6 => ?_) (fun q6 => ?_)
  · skip
    have w6 := bI_e q6
    refine fp_iconst hx hb dX8_choicesOf_19 ?_
    refine fp_imul hx hb dX8_choicesOf_20 ?_
    have hret : (2 * (mostC (cM m) k + 1) : Int) = 2 * 1 := (by unfold mostC; first | rw [if_neg (by omega)] | (rw [if_pos (by omega)]; rfl))
    exact fp_ret hx hb hr hlocks dX8_choicesOf_21 (congrArg (fun z : Int => Value.int (iI z)) hret)
  · skip
    have w6 := bI_ne q6
    refine lv_aload_n hx hb dX8_choicesOf_9 rfl (lv_at hl 0 rfl) ?_
    refine lv_iload_n hx hb dX8_choicesOf_10 rfl (lv_at hl 1 rfl) ?_
    refine fp_pV (As := [.int (iI (k))]) (rest := [.int (iI (2))]) (wsC := [(v, .inr (8, [.ref a0, .ref a1, .ref a2, .ref a3, .int (iI (e4)), .ref a5, .int (iI (e6)), .ref a7, .int (iI (e8)), .int (iI (e9)), .int (iI (e10)), .ref a11, .int (iI (e12)), .int (iI (e13)), .int (iI (e14)), .ref a15])), (a0, fA cyI 54 m)]) ⟨hx, hb, hml, hown, hts⟩ (c_X8_textOf l D cyI v a0 a1 a2 a3 e4 a5 e6 a7 e8 e9 e10 a11 e12 e13 e14 a15 m k (by omega)) (cwV 1 hts gX8_choicesOf_X8_textOf rfl rfl rfl (by decide +kernel) ⟨Nat.le_of_ble_eq_true rfl, Nat.le_of_ble_eq_true rfl⟩) hK hP hD [0, 1] (by decide) rfl rfl rfl rfl hl.1 rfl (Nat.le_of_ble_eq_true rfl) dX8_choicesOf_11 ⟨Nat.zero_le _, Nat.zero_le _⟩ ?_
    refine fp_iconst hx hb dX8_choicesOf_14 ?_
    refine fp_iadd hx hb dX8_choicesOf_15 ?_
    refine lv_goto (tgt := 20) hx hb dX8_choicesOf_16 (by decide) ?_
    refine fp_imul hx hb dX8_choicesOf_20 ?_
    have hret : (2 * (mostC (cM m) k + 1) : Int) = 2 * ((cM m (k * 4 + 1)) + 1) := (by unfold mostC; first | rw [if_neg (by omega)] | (rw [if_pos (by omega)]; rfl))
    exact fp_ret hx hb hr hlocks dX8_choicesOf_21 (congrArg (fun z : Int => Value.int (iI z)) hret)
theorem fl_X8_tries_111 : Cond.fieldLink RX8 111 "FacingPlatesModel" "pagesThen" "I" ∈ wsX8_tries := by decide +kernel
theorem fl_X8_tries_7 : Cond.fieldLink RX8 7 "FacingPlatesModel" "all" "[I" ∈ wsX8_tries := by decide +kernel
theorem fl_X8_tries_114 : Cond.fieldLink RX8 114 "FacingPlatesModel" "costThen" "I" ∈ wsX8_tries := by decide +kernel
theorem fl_X8_tries_117 : Cond.fieldLink RX8 117 "FacingPlatesModel" "sidesThen" "I" ∈ wsX8_tries := by decide +kernel
set_option maxHeartbeats 4000000 in
set_option maxRecDepth 100000 in
theorem c_X8_tries (l : Launch) (D : va_G) (cyI : ClassId) (v : Nat) (a0 : Nat) (a1 : Nat) (a2 : Nat) (a3 : Nat) (e4 : Int) (a5 : Nat) (e6 : Int) (a7 : Nat) (e8 : Int) (e9 : Int) (e10 : Int) (a11 : Nat) (e12 : Int) (e13 : Int) (e14 : Int) (a15 : Nat) (m : Int → Int) (k : Int) (p : Int) (s : Int) (b : Int) (q : Int) (hC : CatOK (cM m)) (hk : 0 ≤ k ∧ k < m 5) (hp : 0 ≤ p ∧ p ≤ 60) (hs9 : 0 ≤ s ∧ s ≤ 3) (hb9 : 0 ≤ b ∧ b ≤ 1) (hq9 : 0 ≤ q ∧ q ≤ mostC (cM m) k) : fp_MW l yX8_tries wsX8_tries ({ frames := 2, cells := 0, slots := 0, locals := 42 } : Room) D cyI [(v, .inr (8, [.ref a0, .ref a1, .ref a2, .ref a3, .int (iI (e4)), .ref a5, .int (iI (e6)), .ref a7, .int (iI (e8)), .int (iI (e9)), .int (iI (e10)), .ref a11, .int (iI (e12)), .int (iI (e13)), .int (iI (e14)), .ref a15])), (a0, fA cyI 54 m)] [.ref v, .int (iI (k)), .int (iI (p)), .int (iI (s)), .int (iI (b)), .int (iI (q))] (fun (u9 : Unit) => True) (fun (u9 : Unit) => some (.int (iI (mfa (cM m) k p b q)))) (fun (u9 : Unit) => [(v, .inr (8, [.ref a0, .ref a1, .ref a2, .ref a3, .int (iI (e4)), .ref a5, .int (iI (e6)), .ref a7, .int (iI (p + b + lenC (cM m) k)), .int (iI (msT (cM m) (cM m (49 + 0)) k p s b q)), .int (iI (mcT (cM m) (cM m (49 + 0)) k p s b q)), .ref a11, .int (iI (e12)), .int (iI (e13)), .int (iI (e14)), .ref a15])), (a0, fA cyI 54 m)]) := by
  refine fp_start (cc := cX8_tries) (maxL := 10) (ret := (some .boolean)) (by decide) rfl (Nat.le_of_ble_eq_true rfl) ?_
  intro pg en sx mi ar bl mt cd ls hx hb hr hts hown hlocks hml hnm hP hK hD hl
  have hown : sx.vm.findClass RX8 = some mi.cls := hown
  have hl : lv_has ls 10 [(0, .ref v), (1, .int (iI (k))), (2, .int (iI (p))), (3, .int (iI (s))), (4, .int (iI (b))), (5, .int (iI (q)))] := hl
  have hD := fp_self hD
  have hS : va_S (fp_A [(v, .inr (8, [.ref a0, .ref a1, .ref a2, .ref a3, .int (iI (e4)), .ref a5, .int (iI (e6)), .ref a7, .int (iI (e8)), .int (iI (e9)), .int (iI (e10)), .ref a11, .int (iI (e12)), .int (iI (e13)), .int (iI (e14)), .ref a15])), (a0, fA cyI 54 m)]) sx.heap sx.heap [] := va_S.rf
  have hN := hC.1
  rw [cM_0] at hN
  have hX := hC.2.2
  unfold SetOK at hX
  have eG : cM m (49 + 0) = m 0 := cM_s (by omega)
  rw [eG] at hX
  have hX0 := hX.1
  have hL := lot_f hC (k := k) (by rw [cM_0]; exact hk)
  unfold LotOK at hL
  rw [cM_t (by omega), cM_p (by omega), cM_b (by omega), cM_q (by omega)] at hL
  rw [cM_s (m := m) (j := 2) (by omega), cM_s (m := m) (j := 3) (by omega)] at hX
  have ep : cM m (k * 4 + 2) = m (18 + k) := cM_p (by omega)
  have hln := len_rg hC (k := k) (by rw [cM_0]; exact hk)
  have hM := most_rg hC (k := k) (by rw [cM_0]; exact hk)
  have hpl : p + 1 ≤ mpl (cM m) k p b q ∧ mpl (cM m) k p b q ≤ p + b + lenC (cM m) k := by
    unfold mpl
    have hmo : mostC (cM m) k = if cM m (k * 4 + 2) = 0 then 0 else cM m (k * 4 + 1) := rfl
    by_cases e : cM m (k * 4 + 2) = 0
    · rw [if_pos e]; omega
    · rw [if_neg e]; rw [if_neg e] at hmo; rw [bI_t e] at hln; omega
  have h0r := ms0_rg (c := cM m) (G := cM m (49 + 0)) (k := k) (p := p) (b := b) (q := q) hs9
  have h1r := ms1_rg (c := cM m) (G := cM m (49 + 0)) (k := k) (p := p) (b := b) (q := q) hs9
  have hbt := bit_rg (mpl (cM m) k p b q)
  have hbm : 0 ≤ b * m 3 ∧ b * m 3 ≤ 99 := by
    have hb2 : b = 0 ∨ b = 1 := by omega
    rcases hb2 with rfl | rfl <;> omega
  have hXg := hX0
  rw [← eG] at hXg
  have hg1 := gd_rg (q := mpl (cM m) k p b q) hXg (by omega)
  have hg3 := gd_rg (q := p + b + lenC (cM m) k) hXg (by omega)
  refine lv_iload_n hx hb dX8_tries_0 rfl (lv_at hl 2 rfl) ?_
  refine lv_iload hx hb dX8_tries_1 (lv_at hl 4 rfl) ?_
  refine fp_iadd hx hb dX8_tries_3 ?_
  refine fp_iconst hx hb dX8_tries_4 ?_
  refine fp_iadd hx hb dX8_tries_5 ?_
  refine lv_istore (lv' := [(6, .int (iI ((p + b) + 1))), (0, .ref v), (1, .int (iI (k))), (2, .int (iI (p))), (3, .int (iI (s))), (4, .int (iI (b))), (5, .int (iI (q)))]) hx hb dX8_tries_6 hl (by decide) rfl (fun ls hl => ?_)
  refine lv_aload_n hx hb dX8_tries_8 rfl (lv_at hl 1 rfl) ?_
  refine lv_iload_n hx hb dX8_tries_9 rfl (lv_at hl 3 rfl) ?_
  refine lv_iload hx hb dX8_tries_10 (lv_at hl 5 rfl) ?_
  refine fp_iadd hx hb dX8_tries_12 ?_
  refine lv_aload_n hx hb dX8_tries_13 rfl (lv_at hl 1 rfl) ?_
  refine lv_iload_n hx hb dX8_tries_14 rfl (lv_at hl 2 rfl) ?_
  refine fp_pV (As := [.int (iI (k))]) (rest := [.int (iI (p + b)), .ref v]) (wsC := [(v, .inr (8, [.ref a0, .ref a1, .ref a2, .ref a3, .int (iI (e4)), .ref a5, .int (iI (e6)), .ref a7, .int (iI (e8)), .int (iI (e9)), .int (iI (e10)), .ref a11, .int (iI (e12)), .int (iI (e13)), .int (iI (e14)), .ref a15])), (a0, fA cyI 54 m)]) ⟨hx, hb, hml, hown, hts⟩ (c_X8_lengthOf l D cyI v a0 a1 a2 a3 e4 a5 e6 a7 e8 e9 e10 a11 e12 e13 e14 a15 m k hC (by omega)) (cwV 1 hts gX8_tries_X8_lengthOf rfl rfl rfl (by decide +kernel) ⟨Nat.le_of_ble_eq_true rfl, Nat.le_of_ble_eq_true rfl⟩) hK hP hD [0, 1] (by decide) rfl rfl rfl rfl hl.1 rfl (Nat.le_of_ble_eq_true rfl) dX8_tries_15 ⟨Nat.zero_le _, Nat.zero_le _⟩ ?_
  refine fp_iadd hx hb dX8_tries_18 ?_
  refine va_put (D := D) (ci := 8) (ws := [(v, .inr (8, [.ref a0, .ref a1, .ref a2, .ref a3, .int (iI (e4)), .ref a5, .int (iI (e6)), .ref a7, .int (iI (e8)), .int (iI (e9)), .int (iI (e10)), .ref a11, .int (iI (e12)), .int (iI (e13)), .int (iI (e14)), .ref a15])), (a0, fA cyI 54 m)]) (v := .int (iI ((p + b) + (lenC (cM m) k)))) (ty := .int) (C := RX8) (T := TX8) (N := 16) hx hb hts (fun _ h => List.mem_cons_of_mem _ (List.mem_append_right _ h)) tyX8 tyX8_ok nmX8 hown hK.1 hP hD hS 0 rfl rfl 8 (by decide) (hts _ fl_X8_tries_111) (fun _ h9 => h9) rfl (by decide +kernel) rfl rfl (Nat.le_of_ble_eq_true rfl) dX8_tries_19 (fun H locs hP hD hS => ?_)
  have hP : va_P D vwCl [(v, .inr (8, [.ref a0, .ref a1, .ref a2, .ref a3, .int (iI (e4)), .ref a5, .int (iI (e6)), .ref a7, .int (iI ((p + b) + (lenC (cM m) k))), .int (iI (e9)), .int (iI (e10)), .ref a11, .int (iI (e12)), .int (iI (e13)), .int (iI (e14)), .ref a15])), (a0, fA cyI 54 m)] H := hP
  have hD : va_D (fp_A [(v, .inr (8, [.ref a0, .ref a1, .ref a2, .ref a3, .int (iI (e4)), .ref a5, .int (iI (e6)), .ref a7, .int (iI (e8)), .int (iI (e9)), .int (iI (e10)), .ref a11, .int (iI (e12)), .int (iI (e13)), .int (iI (e14)), .ref a15])), (a0, fA cyI 54 m)]) [(v, .inr (8, [.ref a0, .ref a1, .ref a2, .ref a3, .int (iI (e4)), .ref a5, .int (iI (e6)), .ref a7, .int (iI ((p + b) + (lenC (cM m) k))), .int (iI (e9)), .int (iI (e10)), .ref a11, .int (iI (e12)), .int (iI (e13)), .int (iI (e14)), .ref a15])), (a0, fA cyI 54 m)] := hD
  refine lv_aload_n hx hb dX8_tries_22 rfl (lv_at hl 1 rfl) ?_
  refine lv_iload hx hb dX8_tries_23 (lv_at hl 5 rfl) ?_
  refine lv_aload_n hx hb dX8_tries_25 rfl (lv_at hl 1 rfl) ?_
  refine va_get (D := D) (ci := 8) (ws := [(v, .inr (8, [.ref a0, .ref a1, .ref a2, .ref a3, .int (iI (e4)), .ref a5, .int (iI (e6)), .ref a7, .int (iI ((p + b) + (lenC (cM m) k))), .int (iI (e9)), .int (iI (e10)), .ref a11, .int (iI (e12)), .int (iI (e13)), .int (iI (e14)), .ref a15])), (a0, fA cyI 54 m)]) (v := .ref a0) (C := RX8) (T := TX8) (N := 16) hx hb hts (fun _ h => List.mem_cons_of_mem _ (List.mem_append_right _ h)) hown hK.1 hP 0 rfl rfl 0 (by decide) (hts _ fl_X8_tries_7) (fun _ h9 => h9) rfl dX8_tries_26 ?_
  refine fp_iconst hx hb dX8_tries_29 ?_
  refine fp_iald (wsC := [(v, .inr (8, [.ref a0, .ref a1, .ref a2, .ref a3, .int (iI (e4)), .ref a5, .int (iI (e6)), .ref a7, .int (iI ((p + b) + (lenC (cM m) k))), .int (iI (e9)), .int (iI (e10)), .ref a11, .int (iI (e12)), .int (iI (e13)), .int (iI (e14)), .ref a15])), (a0, fA cyI 54 m)]) hx hb hK hP 1 rfl (by omega) (by decide) dX8_tries_30 ?_
  refine fp_imul hx hb dX8_tries_31 ?_
  refine va_put (D := D) (ci := 8) (ws := [(v, .inr (8, [.ref a0, .ref a1, .ref a2, .ref a3, .int (iI (e4)), .ref a5, .int (iI (e6)), .ref a7, .int (iI ((p + b) + (lenC (cM m) k))), .int (iI (e9)), .int (iI (e10)), .ref a11, .int (iI (e12)), .int (iI (e13)), .int (iI (e14)), .ref a15])), (a0, fA cyI 54 m)]) (v := .int (iI (b * (m 3)))) (ty := .int) (C := RX8) (T := TX8) (N := 16) hx hb hts (fun _ h => List.mem_cons_of_mem _ (List.mem_append_right _ h)) tyX8 tyX8_ok nmX8 hown hK.1 hP hD hS 0 rfl rfl 10 (by decide) (hts _ fl_X8_tries_114) (fun _ h9 => h9) rfl (by decide +kernel) rfl rfl (Nat.le_of_ble_eq_true rfl) dX8_tries_32 (fun H locs hP hD hS => ?_)
  have hP : va_P D vwCl [(v, .inr (8, [.ref a0, .ref a1, .ref a2, .ref a3, .int (iI (e4)), .ref a5, .int (iI (e6)), .ref a7, .int (iI ((p + b) + (lenC (cM m) k))), .int (iI (e9)), .int (iI (b * (m 3))), .ref a11, .int (iI (e12)), .int (iI (e13)), .int (iI (e14)), .ref a15])), (a0, fA cyI 54 m)] H := hP
  have hD : va_D (fp_A [(v, .inr (8, [.ref a0, .ref a1, .ref a2, .ref a3, .int (iI (e4)), .ref a5, .int (iI (e6)), .ref a7, .int (iI (e8)), .int (iI (e9)), .int (iI (e10)), .ref a11, .int (iI (e12)), .int (iI (e13)), .int (iI (e14)), .ref a15])), (a0, fA cyI 54 m)]) [(v, .inr (8, [.ref a0, .ref a1, .ref a2, .ref a3, .int (iI (e4)), .ref a5, .int (iI (e6)), .ref a7, .int (iI ((p + b) + (lenC (cM m) k))), .int (iI (e9)), .int (iI (b * (m 3))), .ref a11, .int (iI (e12)), .int (iI (e13)), .int (iI (e14)), .ref a15])), (a0, fA cyI 54 m)] := hD
  refine lv_aload_n hx hb dX8_tries_35 rfl (lv_at hl 1 rfl) ?_
  refine lv_iload_n hx hb dX8_tries_36 rfl (lv_at hl 2 rfl) ?_
  refine fp_pV (As := [.int (iI (k))]) (rest := []) (wsC := [(v, .inr (8, [.ref a0, .ref a1, .ref a2, .ref a3, .int (iI (e4)), .ref a5, .int (iI (e6)), .ref a7, .int (iI ((p + b) + (lenC (cM m) k))), .int (iI (e9)), .int (iI (b * (m 3))), .ref a11, .int (iI (e12)), .int (iI (e13)), .int (iI (e14)), .ref a15])), (a0, fA cyI 54 m)]) ⟨hx, hb, hml, hown, hts⟩ (c_X8_hasPlate l D cyI v a0 a1 a2 a3 e4 a5 e6 a7 ((p + b) + (lenC (cM m) k)) e9 (b * (m 3)) a11 e12 e13 e14 a15 m k hC (by omega)) (cwV 1 hts gX8_tries_X8_hasPlate rfl rfl rfl (by decide +kernel) ⟨Nat.le_of_ble_eq_true rfl, Nat.le_of_ble_eq_true rfl⟩) hK hP hD [0, 1] (by decide) rfl rfl rfl rfl hl.1 rfl (Nat.le_of_ble_eq_true rfl) dX8_tries_37 ⟨Nat.zero_le _, Nat.zero_le _⟩ ?_
  have jn0 : ∀ (pl9 : Int), (pl9 = mpl (cM m) k p b q) → ∀ (H : Heap) (locs : List Loc), va_P D vwCl [(v, .inr (8, [.ref a0, .ref a1, .ref a2, .ref a3, .int (iI (e4)), .ref a5, .int (iI (e6)), .ref a7, .int (iI ((p + b) + (lenC (cM m) k))), .int (iI (e9)), .int (iI (b * (m 3))), .ref a11, .int (iI (e12)), .int (iI (e13)), .int (iI (e14)), .ref a15])), (a0, fA cyI 54 m)] H → va_D (fp_A [(v, .inr (8, [.ref a0, .ref a1, .ref a2, .ref a3, .int (iI (e4)), .ref a5, .int (iI (e6)), .ref a7, .int (iI (e8)), .int (iI (e9)), .int (iI (e10)), .ref a11, .int (iI (e12)), .int (iI (e13)), .int (iI (e14)), .ref a15])), (a0, fA cyI 54 m)]) [(v, .inr (8, [.ref a0, .ref a1, .ref a2, .ref a3, .int (iI (e4)), .ref a5, .int (iI (e6)), .ref a7, .int (iI ((p + b) + (lenC (cM m) k))), .int (iI (e9)), .int (iI (b * (m 3))), .ref a11, .int (iI (e12)), .int (iI (e13)), .int (iI (e14)), .ref a15])), (a0, fA cyI 54 m)] → va_S (fp_A [(v, .inr (8, [.ref a0, .ref a1, .ref a2, .ref a3, .int (iI (e4)), .ref a5, .int (iI (e6)), .ref a7, .int (iI (e8)), .int (iI (e9)), .int (iI (e10)), .ref a11, .int (iI (e12)), .int (iI (e13)), .int (iI (e14)), .ref a15])), (a0, fA cyI 54 m)]) sx.heap H locs → ∀ (ls : Array Slot), lv_has ls 10 [(0, .ref v), (1, .int (iI (k))), (2, .int (iI (p))), (3, .int (iI (s))), (4, .int (iI (b))), (5, .int (iI (q))), (6, .int (iI ((p + b) + 1)))] → W pg l en ({ frames := 2, cells := 0, slots := 0, locals := 42 } : Room) sx mi ar bl mt cd H locs 0 0 (MQ bl (fp_Qw D [(v, .inr (8, [.ref a0, .ref a1, .ref a2, .ref a3, .int (iI (e4)), .ref a5, .int (iI (e6)), .ref a7, .int (iI (e8)), .int (iI (e9)), .int (iI (e10)), .ref a11, .int (iI (e12)), .int (iI (e13)), .int (iI (e14)), .ref a15])), (a0, fA cyI 54 m)] (fun (u9 : Unit) => True) (fun (u9 : Unit) => some (.int (iI (mfa (cM m) k p b q)))) (fun (u9 : Unit) => [(v, .inr (8, [.ref a0, .ref a1, .ref a2, .ref a3, .int (iI (e4)), .ref a5, .int (iI (e6)), .ref a7, .int (iI (p + b + lenC (cM m) k)), .int (iI (msT (cM m) (cM m (49 + 0)) k p s b q)), .int (iI (mcT (cM m) (cM m (49 + 0)) k p s b q)), .ref a11, .int (iI (e12)), .int (iI (e13)), .int (iI (e14)), .ref a15])), (a0, fA cyI 54 m)])) ar sx 0 0 (fp_A [(v, .inr (8, [.ref a0, .ref a1, .ref a2, .ref a3, .int (iI (e4)), .ref a5, .int (iI (e6)), .ref a7, .int (iI (e8)), .int (iI (e9)), .int (iI (e10)), .ref a11, .int (iI (e12)), .int (iI (e13)), .int (iI (e14)), .ref a15])), (a0, fA cyI 54 m)])) (F0 mi 55 ls [.int (iI (pl9))]) := by
    intro pl9 jpl H locs hP hD hS ls hl
    rw [show (pl9 : Int) = mpl (cM m) k p b q from jpl]
    refine lv_istore (lv' := [(7, .int (iI (mpl (cM m) k p b q))), (0, .ref v), (1, .int (iI (k))), (2, .int (iI (p))), (3, .int (iI (s))), (4, .int (iI (b))), (5, .int (iI (q))), (6, .int (iI ((p + b) + 1)))]) hx hb dX8_tries_55 hl (by decide) rfl (fun ls hl => ?_)
    refine fp_iconst hx hb dX8_tries_57 ?_
    refine lv_istore (lv' := [(8, .int (iI (1))), (7, .int (iI (mpl (cM m) k p b q))), (0, .ref v), (1, .int (iI (k))), (2, .int (iI (p))), (3, .int (iI (s))), (4, .int (iI (b))), (5, .int (iI (q))), (6, .int (iI ((p + b) + 1)))]) hx hb dX8_tries_58 hl (by decide) rfl (fun ls hl => ?_)
    refine lv_aload_n hx hb dX8_tries_60 rfl (lv_at hl 2 rfl) ?_
    refine lv_iload_n hx hb dX8_tries_61 rfl (lv_at hl 3 rfl) ?_
    refine fp_pV (As := [.int (iI (k))]) (rest := []) (wsC := [(v, .inr (8, [.ref a0, .ref a1, .ref a2, .ref a3, .int (iI (e4)), .ref a5, .int (iI (e6)), .ref a7, .int (iI ((p + b) + (lenC (cM m) k))), .int (iI (e9)), .int (iI (b * (m 3))), .ref a11, .int (iI (e12)), .int (iI (e13)), .int (iI (e14)), .ref a15])), (a0, fA cyI 54 m)]) ⟨hx, hb, hml, hown, hts⟩ (c_X8_hasPlate l D cyI v a0 a1 a2 a3 e4 a5 e6 a7 ((p + b) + (lenC (cM m) k)) e9 (b * (m 3)) a11 e12 e13 e14 a15 m k hC (by omega)) (cwV 1 hts gX8_tries_X8_hasPlate rfl rfl rfl (by decide +kernel) ⟨Nat.le_of_ble_eq_true rfl, Nat.le_of_ble_eq_true rfl⟩) hK hP hD [0, 1] (by decide) rfl rfl rfl rfl hl.1 rfl (Nat.le_of_ble_eq_true rfl) dX8_tries_62 ⟨Nat.zero_le _, Nat.zero_le _⟩ ?_
    have jn1 : ∀ (fa : Int), (fa = mfa (cM m) k p b q) → ∀ (H : Heap) (locs : List Loc), va_P D vwCl [(v, .inr (8, [.ref a0, .ref a1, .ref a2, .ref a3, .int (iI (e4)), .ref a5, .int (iI (e6)), .ref a7, .int (iI ((p + b) + (lenC (cM m) k))), .int (iI (e9)), .int (iI (b * (m 3))), .ref a11, .int (iI (e12)), .int (iI (e13)), .int (iI (e14)), .ref a15])), (a0, fA cyI 54 m)] H → va_D (fp_A [(v, .inr (8, [.ref a0, .ref a1, .ref a2, .ref a3, .int (iI (e4)), .ref a5, .int (iI (e6)), .ref a7, .int (iI (e8)), .int (iI (e9)), .int (iI (e10)), .ref a11, .int (iI (e12)), .int (iI (e13)), .int (iI (e14)), .ref a15])), (a0, fA cyI 54 m)]) [(v, .inr (8, [.ref a0, .ref a1, .ref a2, .ref a3, .int (iI (e4)), .ref a5, .int (iI (e6)), .ref a7, .int (iI ((p + b) + (lenC (cM m) k))), .int (iI (e9)), .int (iI (b * (m 3))), .ref a11, .int (iI (e12)), .int (iI (e13)), .int (iI (e14)), .ref a15])), (a0, fA cyI 54 m)] → va_S (fp_A [(v, .inr (8, [.ref a0, .ref a1, .ref a2, .ref a3, .int (iI (e4)), .ref a5, .int (iI (e6)), .ref a7, .int (iI (e8)), .int (iI (e9)), .int (iI (e10)), .ref a11, .int (iI (e12)), .int (iI (e13)), .int (iI (e14)), .ref a15])), (a0, fA cyI 54 m)]) sx.heap H locs → ∀ (ls : Array Slot), lv_has ls 10 [(0, .ref v), (1, .int (iI (k))), (2, .int (iI (p))), (3, .int (iI (s))), (4, .int (iI (b))), (5, .int (iI (q))), (6, .int (iI ((p + b) + 1))), (7, .int (iI (mpl (cM m) k p b q))), (8, .int (iI (fa)))] → W pg l en ({ frames := 2, cells := 0, slots := 0, locals := 42 } : Room) sx mi ar bl mt cd H locs 0 0 (MQ bl (fp_Qw D [(v, .inr (8, [.ref a0, .ref a1, .ref a2, .ref a3, .int (iI (e4)), .ref a5, .int (iI (e6)), .ref a7, .int (iI (e8)), .int (iI (e9)), .int (iI (e10)), .ref a11, .int (iI (e12)), .int (iI (e13)), .int (iI (e14)), .ref a15])), (a0, fA cyI 54 m)] (fun (u9 : Unit) => True) (fun (u9 : Unit) => some (.int (iI (mfa (cM m) k p b q)))) (fun (u9 : Unit) => [(v, .inr (8, [.ref a0, .ref a1, .ref a2, .ref a3, .int (iI (e4)), .ref a5, .int (iI (e6)), .ref a7, .int (iI (p + b + lenC (cM m) k)), .int (iI (msT (cM m) (cM m (49 + 0)) k p s b q)), .int (iI (mcT (cM m) (cM m (49 + 0)) k p s b q)), .ref a11, .int (iI (e12)), .int (iI (e13)), .int (iI (e14)), .ref a15])), (a0, fA cyI 54 m)])) ar sx 0 0 (fp_A [(v, .inr (8, [.ref a0, .ref a1, .ref a2, .ref a3, .int (iI (e4)), .ref a5, .int (iI (e6)), .ref a7, .int (iI (e8)), .int (iI (e9)), .int (iI (e10)), .ref a11, .int (iI (e12)), .int (iI (e13)), .int (iI (e14)), .ref a15])), (a0, fA cyI 54 m)])) (F0 mi 104 ls []) := by
      intro fa jfa H locs hP hD hS ls hl
      rw [show (fa : Int) = mfa (cM m) k p b q from jfa] at hl
      refine lv_aload_n hx hb dX8_tries_104 rfl (lv_at hl 0 rfl) ?_
      refine lv_iload_n hx hb dX8_tries_105 rfl (lv_at hl 2 rfl) ?_
      have jn2 : ∀ (z0 : Int), (z0 = ms0 (cM m) (cM m (49 + 0)) k p s b q) → ∀ (H : Heap) (locs : List Loc), va_P D vwCl [(v, .inr (8, [.ref a0, .ref a1, .ref a2, .ref a3, .int (iI (e4)), .ref a5, .int (iI (e6)), .ref a7, .int (iI ((p + b) + (lenC (cM m) k))), .int (iI (e9)), .int (iI (b * (m 3))), .ref a11, .int (iI (e12)), .int (iI (e13)), .int (iI (e14)), .ref a15])), (a0, fA cyI 54 m)] H → va_D (fp_A [(v, .inr (8, [.ref a0, .ref a1, .ref a2, .ref a3, .int (iI (e4)), .ref a5, .int (iI (e6)), .ref a7, .int (iI (e8)), .int (iI (e9)), .int (iI (e10)), .ref a11, .int (iI (e12)), .int (iI (e13)), .int (iI (e14)), .ref a15])), (a0, fA cyI 54 m)]) [(v, .inr (8, [.ref a0, .ref a1, .ref a2, .ref a3, .int (iI (e4)), .ref a5, .int (iI (e6)), .ref a7, .int (iI ((p + b) + (lenC (cM m) k))), .int (iI (e9)), .int (iI (b * (m 3))), .ref a11, .int (iI (e12)), .int (iI (e13)), .int (iI (e14)), .ref a15])), (a0, fA cyI 54 m)] → va_S (fp_A [(v, .inr (8, [.ref a0, .ref a1, .ref a2, .ref a3, .int (iI (e4)), .ref a5, .int (iI (e6)), .ref a7, .int (iI (e8)), .int (iI (e9)), .int (iI (e10)), .ref a11, .int (iI (e12)), .int (iI (e13)), .int (iI (e14)), .ref a15])), (a0, fA cyI 54 m)]) sx.heap H locs → ∀ (ls : Array Slot), lv_has ls 10 [(0, .ref v), (1, .int (iI (k))), (2, .int (iI (p))), (3, .int (iI (s))), (4, .int (iI (b))), (5, .int (iI (q))), (6, .int (iI ((p + b) + 1))), (7, .int (iI (mpl (cM m) k p b q))), (8, .int (iI (mfa (cM m) k p b q)))] → W pg l en ({ frames := 2, cells := 0, slots := 0, locals := 42 } : Room) sx mi ar bl mt cd H locs 0 0 (MQ bl (fp_Qw D [(v, .inr (8, [.ref a0, .ref a1, .ref a2, .ref a3, .int (iI (e4)), .ref a5, .int (iI (e6)), .ref a7, .int (iI (e8)), .int (iI (e9)), .int (iI (e10)), .ref a11, .int (iI (e12)), .int (iI (e13)), .int (iI (e14)), .ref a15])), (a0, fA cyI 54 m)] (fun (u9 : Unit) => True) (fun (u9 : Unit) => some (.int (iI (mfa (cM m) k p b q)))) (fun (u9 : Unit) => [(v, .inr (8, [.ref a0, .ref a1, .ref a2, .ref a3, .int (iI (e4)), .ref a5, .int (iI (e6)), .ref a7, .int (iI (p + b + lenC (cM m) k)), .int (iI (msT (cM m) (cM m (49 + 0)) k p s b q)), .int (iI (mcT (cM m) (cM m (49 + 0)) k p s b q)), .ref a11, .int (iI (e12)), .int (iI (e13)), .int (iI (e14)), .ref a15])), (a0, fA cyI 54 m)])) ar sx 0 0 (fp_A [(v, .inr (8, [.ref a0, .ref a1, .ref a2, .ref a3, .int (iI (e4)), .ref a5, .int (iI (e6)), .ref a7, .int (iI (e8)), .int (iI (e9)), .int (iI (e10)), .ref a11, .int (iI (e12)), .int (iI (e13)), .int (iI (e14)), .ref a15])), (a0, fA cyI 54 m)])) (F0 mi 128 ls [.int (iI (z0)), .ref v]) := by
        intro z0 jz0 H locs hP hD hS ls hl
        rw [show (z0 : Int) = ms0 (cM m) (cM m (49 + 0)) k p s b q from jz0]
        refine va_put (D := D) (ci := 8) (ws := [(v, .inr (8, [.ref a0, .ref a1, .ref a2, .ref a3, .int (iI (e4)), .ref a5, .int (iI (e6)), .ref a7, .int (iI ((p + b) + (lenC (cM m) k))), .int (iI (e9)), .int (iI (b * (m 3))), .ref a11, .int (iI (e12)), .int (iI (e13)), .int (iI (e14)), .ref a15])), (a0, fA cyI 54 m)]) (v := .int (iI (ms0 (cM m) (cM m (49 + 0)) k p s b q))) (ty := .int) (C := RX8) (T := TX8) (N := 16) hx hb hts (fun _ h => List.mem_cons_of_mem _ (List.mem_append_right _ h)) tyX8 tyX8_ok nmX8 hown hK.1 hP hD hS 0 rfl rfl 9 (by decide) (hts _ fl_X8_tries_117) (fun _ h9 => h9) rfl (by decide +kernel) rfl rfl (Nat.le_of_ble_eq_true rfl) dX8_tries_128 (fun H locs hP hD hS => ?_)
        have hP : va_P D vwCl [(v, .inr (8, [.ref a0, .ref a1, .ref a2, .ref a3, .int (iI (e4)), .ref a5, .int (iI (e6)), .ref a7, .int (iI ((p + b) + (lenC (cM m) k))), .int (iI (ms0 (cM m) (cM m (49 + 0)) k p s b q)), .int (iI (b * (m 3))), .ref a11, .int (iI (e12)), .int (iI (e13)), .int (iI (e14)), .ref a15])), (a0, fA cyI 54 m)] H := hP
        have hD : va_D (fp_A [(v, .inr (8, [.ref a0, .ref a1, .ref a2, .ref a3, .int (iI (e4)), .ref a5, .int (iI (e6)), .ref a7, .int (iI (e8)), .int (iI (e9)), .int (iI (e10)), .ref a11, .int (iI (e12)), .int (iI (e13)), .int (iI (e14)), .ref a15])), (a0, fA cyI 54 m)]) [(v, .inr (8, [.ref a0, .ref a1, .ref a2, .ref a3, .int (iI (e4)), .ref a5, .int (iI (e6)), .ref a7, .int (iI ((p + b) + (lenC (cM m) k))), .int (iI (ms0 (cM m) (cM m (49 + 0)) k p s b q)), .int (iI (b * (m 3))), .ref a11, .int (iI (e12)), .int (iI (e13)), .int (iI (e14)), .ref a15])), (a0, fA cyI 54 m)] := hD
        have jn3 : ∀ (z1 : Int) (z2 : Int), (z1 = ms1 (cM m) (cM m (49 + 0)) k p s b q) → (z2 = mcT (cM m) (cM m (49 + 0)) k p s b q) → ∀ (H : Heap) (locs : List Loc), va_P D vwCl [(v, .inr (8, [.ref a0, .ref a1, .ref a2, .ref a3, .int (iI (e4)), .ref a5, .int (iI (e6)), .ref a7, .int (iI ((p + b) + (lenC (cM m) k))), .int (iI (z1)), .int (iI (z2)), .ref a11, .int (iI (e12)), .int (iI (e13)), .int (iI (e14)), .ref a15])), (a0, fA cyI 54 m)] H → va_D (fp_A [(v, .inr (8, [.ref a0, .ref a1, .ref a2, .ref a3, .int (iI (e4)), .ref a5, .int (iI (e6)), .ref a7, .int (iI (e8)), .int (iI (e9)), .int (iI (e10)), .ref a11, .int (iI (e12)), .int (iI (e13)), .int (iI (e14)), .ref a15])), (a0, fA cyI 54 m)]) [(v, .inr (8, [.ref a0, .ref a1, .ref a2, .ref a3, .int (iI (e4)), .ref a5, .int (iI (e6)), .ref a7, .int (iI ((p + b) + (lenC (cM m) k))), .int (iI (z1)), .int (iI (z2)), .ref a11, .int (iI (e12)), .int (iI (e13)), .int (iI (e14)), .ref a15])), (a0, fA cyI 54 m)] → va_S (fp_A [(v, .inr (8, [.ref a0, .ref a1, .ref a2, .ref a3, .int (iI (e4)), .ref a5, .int (iI (e6)), .ref a7, .int (iI (e8)), .int (iI (e9)), .int (iI (e10)), .ref a11, .int (iI (e12)), .int (iI (e13)), .int (iI (e14)), .ref a15])), (a0, fA cyI 54 m)]) sx.heap H locs → ∀ (ls : Array Slot), lv_has ls 10 [(0, .ref v), (1, .int (iI (k))), (2, .int (iI (p))), (3, .int (iI (s))), (4, .int (iI (b))), (5, .int (iI (q))), (6, .int (iI ((p + b) + 1))), (7, .int (iI (mpl (cM m) k p b q))), (8, .int (iI (mfa (cM m) k p b q)))] → W pg l en ({ frames := 2, cells := 0, slots := 0, locals := 42 } : Room) sx mi ar bl mt cd H locs 0 0 (MQ bl (fp_Qw D [(v, .inr (8, [.ref a0, .ref a1, .ref a2, .ref a3, .int (iI (e4)), .ref a5, .int (iI (e6)), .ref a7, .int (iI (e8)), .int (iI (e9)), .int (iI (e10)), .ref a11, .int (iI (e12)), .int (iI (e13)), .int (iI (e14)), .ref a15])), (a0, fA cyI 54 m)] (fun (u9 : Unit) => True) (fun (u9 : Unit) => some (.int (iI (mfa (cM m) k p b q)))) (fun (u9 : Unit) => [(v, .inr (8, [.ref a0, .ref a1, .ref a2, .ref a3, .int (iI (e4)), .ref a5, .int (iI (e6)), .ref a7, .int (iI (p + b + lenC (cM m) k)), .int (iI (msT (cM m) (cM m (49 + 0)) k p s b q)), .int (iI (mcT (cM m) (cM m (49 + 0)) k p s b q)), .ref a11, .int (iI (e12)), .int (iI (e13)), .int (iI (e14)), .ref a15])), (a0, fA cyI 54 m)])) ar sx 0 0 (fp_A [(v, .inr (8, [.ref a0, .ref a1, .ref a2, .ref a3, .int (iI (e4)), .ref a5, .int (iI (e6)), .ref a7, .int (iI (e8)), .int (iI (e9)), .int (iI (e10)), .ref a11, .int (iI (e12)), .int (iI (e13)), .int (iI (e14)), .ref a15])), (a0, fA cyI 54 m)])) (F0 mi 194 ls []) := by
          intro z1 z2 jz1 jz2 H locs hP hD hS ls hl
          rw [show (z1 : Int) = ms1 (cM m) (cM m (49 + 0)) k p s b q from jz1] at hP hD
          rw [show (z2 : Int) = mcT (cM m) (cM m (49 + 0)) k p s b q from jz2] at hP hD
          refine lv_aload_n hx hb dX8_tries_194 rfl (lv_at hl 0 rfl) ?_
          have jn4 : ∀ (z3 : Int), (z3 = msT (cM m) (cM m (49 + 0)) k p s b q) → ∀ (H : Heap) (locs : List Loc), va_P D vwCl [(v, .inr (8, [.ref a0, .ref a1, .ref a2, .ref a3, .int (iI (e4)), .ref a5, .int (iI (e6)), .ref a7, .int (iI ((p + b) + (lenC (cM m) k))), .int (iI (ms1 (cM m) (cM m (49 + 0)) k p s b q)), .int (iI (mcT (cM m) (cM m (49 + 0)) k p s b q)), .ref a11, .int (iI (e12)), .int (iI (e13)), .int (iI (e14)), .ref a15])), (a0, fA cyI 54 m)] H → va_D (fp_A [(v, .inr (8, [.ref a0, .ref a1, .ref a2, .ref a3, .int (iI (e4)), .ref a5, .int (iI (e6)), .ref a7, .int (iI (e8)), .int (iI (e9)), .int (iI (e10)), .ref a11, .int (iI (e12)), .int (iI (e13)), .int (iI (e14)), .ref a15])), (a0, fA cyI 54 m)]) [(v, .inr (8, [.ref a0, .ref a1, .ref a2, .ref a3, .int (iI (e4)), .ref a5, .int (iI (e6)), .ref a7, .int (iI ((p + b) + (lenC (cM m) k))), .int (iI (ms1 (cM m) (cM m (49 + 0)) k p s b q)), .int (iI (mcT (cM m) (cM m (49 + 0)) k p s b q)), .ref a11, .int (iI (e12)), .int (iI (e13)), .int (iI (e14)), .ref a15])), (a0, fA cyI 54 m)] → va_S (fp_A [(v, .inr (8, [.ref a0, .ref a1, .ref a2, .ref a3, .int (iI (e4)), .ref a5, .int (iI (e6)), .ref a7, .int (iI (e8)), .int (iI (e9)), .int (iI (e10)), .ref a11, .int (iI (e12)), .int (iI (e13)), .int (iI (e14)), .ref a15])), (a0, fA cyI 54 m)]) sx.heap H locs → ∀ (ls : Array Slot), lv_has ls 10 [(0, .ref v), (1, .int (iI (k))), (2, .int (iI (p))), (3, .int (iI (s))), (4, .int (iI (b))), (5, .int (iI (q))), (6, .int (iI ((p + b) + 1))), (7, .int (iI (mpl (cM m) k p b q))), (8, .int (iI (mfa (cM m) k p b q)))] → W pg l en ({ frames := 2, cells := 0, slots := 0, locals := 42 } : Room) sx mi ar bl mt cd H locs 0 0 (MQ bl (fp_Qw D [(v, .inr (8, [.ref a0, .ref a1, .ref a2, .ref a3, .int (iI (e4)), .ref a5, .int (iI (e6)), .ref a7, .int (iI (e8)), .int (iI (e9)), .int (iI (e10)), .ref a11, .int (iI (e12)), .int (iI (e13)), .int (iI (e14)), .ref a15])), (a0, fA cyI 54 m)] (fun (u9 : Unit) => True) (fun (u9 : Unit) => some (.int (iI (mfa (cM m) k p b q)))) (fun (u9 : Unit) => [(v, .inr (8, [.ref a0, .ref a1, .ref a2, .ref a3, .int (iI (e4)), .ref a5, .int (iI (e6)), .ref a7, .int (iI (p + b + lenC (cM m) k)), .int (iI (msT (cM m) (cM m (49 + 0)) k p s b q)), .int (iI (mcT (cM m) (cM m (49 + 0)) k p s b q)), .ref a11, .int (iI (e12)), .int (iI (e13)), .int (iI (e14)), .ref a15])), (a0, fA cyI 54 m)])) ar sx 0 0 (fp_A [(v, .inr (8, [.ref a0, .ref a1, .ref a2, .ref a3, .int (iI (e4)), .ref a5, .int (iI (e6)), .ref a7, .int (iI (e8)), .int (iI (e9)), .int (iI (e10)), .ref a11, .int (iI (e12)), .int (iI (e13)), .int (iI (e14)), .ref a15])), (a0, fA cyI 54 m)])) (F0 mi 220 ls [.int (iI (z3)), .ref v]) := by
            intro z3 jz3 H locs hP hD hS ls hl
            rw [show (z3 : Int) = msT (cM m) (cM m (49 + 0)) k p s b q from jz3]
            refine va_put (D := D) (ci := 8) (ws := [(v, .inr (8, [.ref a0, .ref a1, .ref a2, .ref a3, .int (iI (e4)), .ref a5, .int (iI (e6)), .ref a7, .int (iI ((p + b) + (lenC (cM m) k))), .int (iI (ms1 (cM m) (cM m (49 + 0)) k p s b q)), .int (iI (mcT (cM m) (cM m (49 + 0)) k p s b q)), .ref a11, .int (iI (e12)), .int (iI (e13)), .int (iI (e14)), .ref a15])), (a0, fA cyI 54 m)]) (v := .int (iI (msT (cM m) (cM m (49 + 0)) k p s b q))) (ty := .int) (C := RX8) (T := TX8) (N := 16) hx hb hts (fun _ h => List.mem_cons_of_mem _ (List.mem_append_right _ h)) tyX8 tyX8_ok nmX8 hown hK.1 hP hD hS 0 rfl rfl 9 (by decide) (hts _ fl_X8_tries_117) (fun _ h9 => h9) rfl (by decide +kernel) rfl rfl (Nat.le_of_ble_eq_true rfl) dX8_tries_220 (fun H locs hP hD hS => ?_)
            have hP : va_P D vwCl [(v, .inr (8, [.ref a0, .ref a1, .ref a2, .ref a3, .int (iI (e4)), .ref a5, .int (iI (e6)), .ref a7, .int (iI ((p + b) + (lenC (cM m) k))), .int (iI (msT (cM m) (cM m (49 + 0)) k p s b q)), .int (iI (mcT (cM m) (cM m (49 + 0)) k p s b q)), .ref a11, .int (iI (e12)), .int (iI (e13)), .int (iI (e14)), .ref a15])), (a0, fA cyI 54 m)] H := hP
            have hD : va_D (fp_A [(v, .inr (8, [.ref a0, .ref a1, .ref a2, .ref a3, .int (iI (e4)), .ref a5, .int (iI (e6)), .ref a7, .int (iI (e8)), .int (iI (e9)), .int (iI (e10)), .ref a11, .int (iI (e12)), .int (iI (e13)), .int (iI (e14)), .ref a15])), (a0, fA cyI 54 m)]) [(v, .inr (8, [.ref a0, .ref a1, .ref a2, .ref a3, .int (iI (e4)), .ref a5, .int (iI (e6)), .ref a7, .int (iI ((p + b) + (lenC (cM m) k))), .int (iI (msT (cM m) (cM m (49 + 0)) k p s b q)), .int (iI (mcT (cM m) (cM m (49 + 0)) k p s b q)), .ref a11, .int (iI (e12)), .int (iI (e13)), .int (iI (e14)), .ref a15])), (a0, fA cyI 54 m)] := hD
            refine lv_iload hx hb dX8_tries_223 (lv_at hl 8 rfl) ?_
            have hP : va_P D vwCl [(v, .inr (8, [.ref a0, .ref a1, .ref a2, .ref a3, .int (iI (e4)), .ref a5, .int (iI (e6)), .ref a7, .int (iI (p + b + lenC (cM m) k)), .int (iI (msT (cM m) (cM m (49 + 0)) k p s b q)), .int (iI (mcT (cM m) (cM m (49 + 0)) k p s b q)), .ref a11, .int (iI (e12)), .int (iI (e13)), .int (iI (e14)), .ref a15])), (a0, fA cyI 54 m)] H := by
              rw [(show ((p + b) + (lenC (cM m) k) : Int) = p + b + lenC (cM m) k from (by first | rfl | omega)).symm]
              exact hP
            have hret : (mfa (cM m) k p b q : Int) = mfa (cM m) k p b q := rfl
            exact fp_wzret () hx hb hr hlocks (mfa_01 (cM m) k p b q) hS hP trivial (congrArg (fun z : Int => some (Value.int (iI z))) hret) dX8_tries_225
          refine lv_aload_n hx hb dX8_tries_195 rfl (lv_at hl 0 rfl) ?_
          refine lv_iload hx hb dX8_tries_196 (lv_at hl 7 rfl) ?_
          refine fp_pV (As := [.int (iI (mpl (cM m) k p b q))]) (rest := [.ref v]) (wsC := [(v, .inr (8, [.ref a0, .ref a1, .ref a2, .ref a3, .int (iI (e4)), .ref a5, .int (iI (e6)), .ref a7, .int (iI ((p + b) + (lenC (cM m) k))), .int (iI (ms1 (cM m) (cM m (49 + 0)) k p s b q)), .int (iI (mcT (cM m) (cM m (49 + 0)) k p s b q)), .ref a11, .int (iI (e12)), .int (iI (e13)), .int (iI (e14)), .ref a15])), (a0, fA cyI 54 m)]) ⟨hx, hb, hml, hown, hts⟩ (c_X8_gatheringOf l D cyI v a0 a1 a2 a3 e4 a5 e6 a7 ((p + b) + (lenC (cM m) k)) (ms1 (cM m) (cM m (49 + 0)) k p s b q) (mcT (cM m) (cM m (49 + 0)) k p s b q) a11 e12 e13 e14 a15 m (mpl (cM m) k p b q) hC (by omega)) (cwV 1 hts gX8_tries_X8_gatheringOf rfl rfl rfl (by decide +kernel) ⟨Nat.le_of_ble_eq_true rfl, Nat.le_of_ble_eq_true rfl⟩) hK hP hD [0, 1] (by decide) rfl rfl rfl rfl hl.1 rfl (Nat.le_of_ble_eq_true rfl) dX8_tries_198 ⟨Nat.zero_le _, Nat.zero_le _⟩ ?_
          refine lv_aload_n hx hb dX8_tries_201 rfl (lv_at hl 0 rfl) ?_
          refine lv_aload_n hx hb dX8_tries_202 rfl (lv_at hl 0 rfl) ?_
          refine va_get (D := D) (ci := 8) (ws := [(v, .inr (8, [.ref a0, .ref a1, .ref a2, .ref a3, .int (iI (e4)), .ref a5, .int (iI (e6)), .ref a7, .int (iI ((p + b) + (lenC (cM m) k))), .int (iI (ms1 (cM m) (cM m (49 + 0)) k p s b q)), .int (iI (mcT (cM m) (cM m (49 + 0)) k p s b q)), .ref a11, .int (iI (e12)), .int (iI (e13)), .int (iI (e14)), .ref a15])), (a0, fA cyI 54 m)]) (v := .int (iI ((p + b) + (lenC (cM m) k)))) (C := RX8) (T := TX8) (N := 16) hx hb hts (fun _ h => List.mem_cons_of_mem _ (List.mem_append_right _ h)) hown hK.1 hP 0 rfl rfl 8 (by decide) (hts _ fl_X8_tries_111) (fun _ h9 => h9) rfl dX8_tries_203 ?_
          refine fp_pV (As := [.int (iI ((p + b) + (lenC (cM m) k)))]) (rest := [.int (iI (((mpl (cM m) k p b q) - 1) / cM m (49 + 0))), .ref v]) (wsC := [(v, .inr (8, [.ref a0, .ref a1, .ref a2, .ref a3, .int (iI (e4)), .ref a5, .int (iI (e6)), .ref a7, .int (iI ((p + b) + (lenC (cM m) k))), .int (iI (ms1 (cM m) (cM m (49 + 0)) k p s b q)), .int (iI (mcT (cM m) (cM m (49 + 0)) k p s b q)), .ref a11, .int (iI (e12)), .int (iI (e13)), .int (iI (e14)), .ref a15])), (a0, fA cyI 54 m)]) ⟨hx, hb, hml, hown, hts⟩ (c_X8_gatheringOf l D cyI v a0 a1 a2 a3 e4 a5 e6 a7 ((p + b) + (lenC (cM m) k)) (ms1 (cM m) (cM m (49 + 0)) k p s b q) (mcT (cM m) (cM m (49 + 0)) k p s b q) a11 e12 e13 e14 a15 m ((p + b) + (lenC (cM m) k)) hC (by omega)) (cwV 1 hts gX8_tries_X8_gatheringOf rfl rfl rfl (by decide +kernel) ⟨Nat.le_of_ble_eq_true rfl, Nat.le_of_ble_eq_true rfl⟩) hK hP hD [0, 1] (by decide) rfl rfl rfl rfl hl.1 rfl (Nat.le_of_ble_eq_true rfl) dX8_tries_206 ⟨Nat.zero_le _, Nat.zero_le _⟩ ?_
          refine fp_icmp_ne (tgt := 219) hx hb (by omega) dX8_tries_209 (by decide) (fun q209 => ?_) (fun q209 => ?_)
          · skip
            refine fp_iconst hx hb dX8_tries_219 ?_
            exact jn4 0 (by unfold msT gI; first | rw [if_pos (by omega)] | rw [if_neg (by omega)]) H locs hP hD hS ls (lv_sub hl [0, 1, 2, 3, 4, 5, 6, 7, 8] rfl)
          · skip
            refine lv_aload_n hx hb dX8_tries_212 rfl (lv_at hl 0 rfl) ?_
            refine va_get (D := D) (ci := 8) (ws := [(v, .inr (8, [.ref a0, .ref a1, .ref a2, .ref a3, .int (iI (e4)), .ref a5, .int (iI (e6)), .ref a7, .int (iI ((p + b) + (lenC (cM m) k))), .int (iI (ms1 (cM m) (cM m (49 + 0)) k p s b q)), .int (iI (mcT (cM m) (cM m (49 + 0)) k p s b q)), .ref a11, .int (iI (e12)), .int (iI (e13)), .int (iI (e14)), .ref a15])), (a0, fA cyI 54 m)]) (v := .int (iI (ms1 (cM m) (cM m (49 + 0)) k p s b q))) (C := RX8) (T := TX8) (N := 16) hx hb hts (fun _ h => List.mem_cons_of_mem _ (List.mem_append_right _ h)) hown hK.1 hP 0 rfl rfl 9 (by decide) (hts _ fl_X8_tries_117) (fun _ h9 => h9) rfl dX8_tries_213 ?_
            refine lv_goto (tgt := 220) hx hb dX8_tries_216 (by decide) ?_
            exact jn4 (ms1 (cM m) (cM m (49 + 0)) k p s b q) (by unfold msT gI; first | rw [if_pos (by omega)] | rw [if_neg (by omega)]) H locs hP hD hS ls (lv_sub hl [0, 1, 2, 3, 4, 5, 6, 7, 8] rfl)
        refine lv_aload_n hx hb dX8_tries_131 rfl (lv_at hl 0 rfl) ?_
        refine va_get (D := D) (ci := 8) (ws := [(v, .inr (8, [.ref a0, .ref a1, .ref a2, .ref a3, .int (iI (e4)), .ref a5, .int (iI (e6)), .ref a7, .int (iI ((p + b) + (lenC (cM m) k))), .int (iI (ms0 (cM m) (cM m (49 + 0)) k p s b q)), .int (iI (b * (m 3))), .ref a11, .int (iI (e12)), .int (iI (e13)), .int (iI (e14)), .ref a15])), (a0, fA cyI 54 m)]) (v := .ref a0) (C := RX8) (T := TX8) (N := 16) hx hb hts (fun _ h => List.mem_cons_of_mem _ (List.mem_append_right _ h)) hown hK.1 hP 0 rfl rfl 0 (by decide) (hts _ fl_X8_tries_7) (fun _ h9 => h9) rfl dX8_tries_132 ?_
        refine fp_bipush hx hb dX8_tries_135 (by decide) ?_
        refine lv_iload_n hx hb dX8_tries_137 rfl (lv_at hl 1 rfl) ?_
        refine fp_iadd hx hb dX8_tries_138 ?_
        refine fp_iald (wsC := [(v, .inr (8, [.ref a0, .ref a1, .ref a2, .ref a3, .int (iI (e4)), .ref a5, .int (iI (e6)), .ref a7, .int (iI ((p + b) + (lenC (cM m) k))), .int (iI (ms0 (cM m) (cM m (49 + 0)) k p s b q)), .int (iI (b * (m 3))), .ref a11, .int (iI (e12)), .int (iI (e13)), .int (iI (e14)), .ref a15])), (a0, fA cyI 54 m)]) hx hb hK hP 1 rfl (by omega) (by decide) dX8_tries_139 ?_
        refine fp_iconst hx hb dX8_tries_140 ?_
        refine fp_icmp_ne (tgt := 194) hx hb (by omega) dX8_tries_141 (by decide) (fun q141 => ?_) (fun q141 => ?_)
        · skip
          have hz2 : b * m 3 = mcT (cM m) (cM m (49 + 0)) k p s b q := by unfold mcT; rw [cM_s (m := m) (j := 3) (by omega), if_neg (fun z => q141 (ep ▸ z.1)), Int.add_zero]
          exact jn3 (ms0 (cM m) (cM m (49 + 0)) k p s b q) (b * (m 3)) (by unfold ms1; first | rw [if_pos (by omega)] | rw [if_neg (by omega)]) hz2 H locs hP hD hS ls (lv_sub hl [0, 1, 2, 3, 4, 5, 6, 7, 8] rfl)
        · skip
          refine fp_iconst hx hb dX8_tries_144 ?_
          refine lv_aload_n hx hb dX8_tries_145 rfl (lv_at hl 0 rfl) ?_
          refine lv_iload hx hb dX8_tries_146 (lv_at hl 7 rfl) ?_
          refine fp_pV (As := [.int (iI (mpl (cM m) k p b q))]) (rest := [.int (iI (1))]) (wsC := [(v, .inr (8, [.ref a0, .ref a1, .ref a2, .ref a3, .int (iI (e4)), .ref a5, .int (iI (e6)), .ref a7, .int (iI ((p + b) + (lenC (cM m) k))), .int (iI (ms0 (cM m) (cM m (49 + 0)) k p s b q)), .int (iI (b * (m 3))), .ref a11, .int (iI (e12)), .int (iI (e13)), .int (iI (e14)), .ref a15])), (a0, fA cyI 54 m)]) ⟨hx, hb, hml, hown, hts⟩ (c_X8_sideOf l D cyI v a0 a1 a2 a3 e4 a5 e6 a7 ((p + b) + (lenC (cM m) k)) (ms0 (cM m) (cM m (49 + 0)) k p s b q) (b * (m 3)) a11 e12 e13 e14 a15 m (mpl (cM m) k p b q) hC (by omega)) (cwV 1 hts gX8_tries_X8_sideOf rfl rfl rfl (by decide +kernel) ⟨Nat.le_of_ble_eq_true rfl, Nat.le_of_ble_eq_true rfl⟩) hK hP hD [0, 1] (by decide) rfl rfl rfl rfl hl.1 rfl (Nat.le_of_ble_eq_true rfl) dX8_tries_148 ⟨Nat.zero_le _, Nat.zero_le _⟩ ?_
          refine fp_ishl1 hx hb (by have := bI_01 (2 ≤ mpl (cM m) k p b q % 4); omega) dX8_tries_151 ?_
          have ebt : bI (2 ≤ mpl (cM m) k p b q % 4) + 1 = bitI (mpl (cM m) k p b q) := by unfold bitI; omega
          rw [show ((bI (2 ≤ (mpl (cM m) k p b q) % 4)) + 1 : Int) = bitI (mpl (cM m) k p b q) from ebt]
          refine lv_istore (lv' := [(9, .int (iI (bitI (mpl (cM m) k p b q)))), (0, .ref v), (1, .int (iI (k))), (2, .int (iI (p))), (3, .int (iI (s))), (4, .int (iI (b))), (5, .int (iI (q))), (6, .int (iI ((p + b) + 1))), (7, .int (iI (mpl (cM m) k p b q))), (8, .int (iI (mfa (cM m) k p b q)))]) hx hb dX8_tries_152 hl (by decide) rfl (fun ls hl => ?_)
          refine lv_aload_n hx hb dX8_tries_154 rfl (lv_at hl 1 rfl) ?_
          refine lv_dup hx hb dX8_tries_155 rfl ?_
          refine va_get (D := D) (ci := 8) (ws := [(v, .inr (8, [.ref a0, .ref a1, .ref a2, .ref a3, .int (iI (e4)), .ref a5, .int (iI (e6)), .ref a7, .int (iI ((p + b) + (lenC (cM m) k))), .int (iI (ms0 (cM m) (cM m (49 + 0)) k p s b q)), .int (iI (b * (m 3))), .ref a11, .int (iI (e12)), .int (iI (e13)), .int (iI (e14)), .ref a15])), (a0, fA cyI 54 m)]) (v := .int (iI (b * (m 3)))) (C := RX8) (T := TX8) (N := 16) hx hb hts (fun _ h => List.mem_cons_of_mem _ (List.mem_append_right _ h)) hown hK.1 hP 0 rfl rfl 10 (by decide) (hts _ fl_X8_tries_114) (fun _ h9 => h9) rfl dX8_tries_156 ?_
          have jn7 : ∀ (ad : Int), (ad = if andI (ms0 (cM m) (cM m (49 + 0)) k p s b q) (bitI (mpl (cM m) k p b q)) = 0 then m 2 else 0) → ∀ (H : Heap) (locs : List Loc), va_P D vwCl [(v, .inr (8, [.ref a0, .ref a1, .ref a2, .ref a3, .int (iI (e4)), .ref a5, .int (iI (e6)), .ref a7, .int (iI ((p + b) + (lenC (cM m) k))), .int (iI (ms0 (cM m) (cM m (49 + 0)) k p s b q)), .int (iI (b * (m 3))), .ref a11, .int (iI (e12)), .int (iI (e13)), .int (iI (e14)), .ref a15])), (a0, fA cyI 54 m)] H → va_D (fp_A [(v, .inr (8, [.ref a0, .ref a1, .ref a2, .ref a3, .int (iI (e4)), .ref a5, .int (iI (e6)), .ref a7, .int (iI (e8)), .int (iI (e9)), .int (iI (e10)), .ref a11, .int (iI (e12)), .int (iI (e13)), .int (iI (e14)), .ref a15])), (a0, fA cyI 54 m)]) [(v, .inr (8, [.ref a0, .ref a1, .ref a2, .ref a3, .int (iI (e4)), .ref a5, .int (iI (e6)), .ref a7, .int (iI ((p + b) + (lenC (cM m) k))), .int (iI (ms0 (cM m) (cM m (49 + 0)) k p s b q)), .int (iI (b * (m 3))), .ref a11, .int (iI (e12)), .int (iI (e13)), .int (iI (e14)), .ref a15])), (a0, fA cyI 54 m)] → va_S (fp_A [(v, .inr (8, [.ref a0, .ref a1, .ref a2, .ref a3, .int (iI (e4)), .ref a5, .int (iI (e6)), .ref a7, .int (iI (e8)), .int (iI (e9)), .int (iI (e10)), .ref a11, .int (iI (e12)), .int (iI (e13)), .int (iI (e14)), .ref a15])), (a0, fA cyI 54 m)]) sx.heap H locs → ∀ (ls : Array Slot), lv_has ls 10 [(0, .ref v), (1, .int (iI (k))), (2, .int (iI (p))), (3, .int (iI (s))), (4, .int (iI (b))), (5, .int (iI (q))), (6, .int (iI ((p + b) + 1))), (7, .int (iI (mpl (cM m) k p b q))), (8, .int (iI (mfa (cM m) k p b q))), (9, .int (iI (bitI (mpl (cM m) k p b q))))] → W pg l en ({ frames := 2, cells := 0, slots := 0, locals := 42 } : Room) sx mi ar bl mt cd H locs 0 0 (MQ bl (fp_Qw D [(v, .inr (8, [.ref a0, .ref a1, .ref a2, .ref a3, .int (iI (e4)), .ref a5, .int (iI (e6)), .ref a7, .int (iI (e8)), .int (iI (e9)), .int (iI (e10)), .ref a11, .int (iI (e12)), .int (iI (e13)), .int (iI (e14)), .ref a15])), (a0, fA cyI 54 m)] (fun (u9 : Unit) => True) (fun (u9 : Unit) => some (.int (iI (mfa (cM m) k p b q)))) (fun (u9 : Unit) => [(v, .inr (8, [.ref a0, .ref a1, .ref a2, .ref a3, .int (iI (e4)), .ref a5, .int (iI (e6)), .ref a7, .int (iI (p + b + lenC (cM m) k)), .int (iI (msT (cM m) (cM m (49 + 0)) k p s b q)), .int (iI (mcT (cM m) (cM m (49 + 0)) k p s b q)), .ref a11, .int (iI (e12)), .int (iI (e13)), .int (iI (e14)), .ref a15])), (a0, fA cyI 54 m)])) ar sx 0 0 (fp_A [(v, .inr (8, [.ref a0, .ref a1, .ref a2, .ref a3, .int (iI (e4)), .ref a5, .int (iI (e6)), .ref a7, .int (iI (e8)), .int (iI (e9)), .int (iI (e10)), .ref a11, .int (iI (e12)), .int (iI (e13)), .int (iI (e14)), .ref a15])), (a0, fA cyI 54 m)])) (F0 mi 179 ls [.int (iI (ad)), .int (iI (b * (m 3))), .ref v]) := by
            intro ad jad H locs hP hD hS ls hl
            refine fp_iadd hx hb dX8_tries_179 ?_
            have hz2 : b * m 3 + ad = mcT (cM m) (cM m (49 + 0)) k p s b q := by
              unfold mcT
              rw [cM_s (m := m) (j := 3) (by omega), cM_s (m := m) (j := 2) (by omega), jad]
              by_cases e : andI (ms0 (cM m) (cM m (49 + 0)) k p s b q) (bitI (mpl (cM m) k p b q)) = 0
              · rw [if_pos e, if_pos ⟨by omega, e⟩]
              · rw [if_neg e, if_neg (fun z => e z.2)]
            refine va_put (D := D) (ci := 8) (ws := [(v, .inr (8, [.ref a0, .ref a1, .ref a2, .ref a3, .int (iI (e4)), .ref a5, .int (iI (e6)), .ref a7, .int (iI ((p + b) + (lenC (cM m) k))), .int (iI (ms0 (cM m) (cM m (49 + 0)) k p s b q)), .int (iI (b * (m 3))), .ref a11, .int (iI (e12)), .int (iI (e13)), .int (iI (e14)), .ref a15])), (a0, fA cyI 54 m)]) (v := .int (iI ((b * (m 3)) + ad))) (ty := .int) (C := RX8) (T := TX8) (N := 16) hx hb hts (fun _ h => List.mem_cons_of_mem _ (List.mem_append_right _ h)) tyX8 tyX8_ok nmX8 hown hK.1 hP hD hS 0 rfl rfl 10 (by decide) (hts _ fl_X8_tries_114) (fun _ h9 => h9) rfl (by decide +kernel) rfl rfl (Nat.le_of_ble_eq_true rfl) dX8_tries_180 (fun H locs hP hD hS => ?_)
            have hP : va_P D vwCl [(v, .inr (8, [.ref a0, .ref a1, .ref a2, .ref a3, .int (iI (e4)), .ref a5, .int (iI (e6)), .ref a7, .int (iI ((p + b) + (lenC (cM m) k))), .int (iI (ms0 (cM m) (cM m (49 + 0)) k p s b q)), .int (iI ((b * (m 3)) + ad)), .ref a11, .int (iI (e12)), .int (iI (e13)), .int (iI (e14)), .ref a15])), (a0, fA cyI 54 m)] H := hP
            have hD : va_D (fp_A [(v, .inr (8, [.ref a0, .ref a1, .ref a2, .ref a3, .int (iI (e4)), .ref a5, .int (iI (e6)), .ref a7, .int (iI (e8)), .int (iI (e9)), .int (iI (e10)), .ref a11, .int (iI (e12)), .int (iI (e13)), .int (iI (e14)), .ref a15])), (a0, fA cyI 54 m)]) [(v, .inr (8, [.ref a0, .ref a1, .ref a2, .ref a3, .int (iI (e4)), .ref a5, .int (iI (e6)), .ref a7, .int (iI ((p + b) + (lenC (cM m) k))), .int (iI (ms0 (cM m) (cM m (49 + 0)) k p s b q)), .int (iI ((b * (m 3)) + ad)), .ref a11, .int (iI (e12)), .int (iI (e13)), .int (iI (e14)), .ref a15])), (a0, fA cyI 54 m)] := hD
            refine lv_aload_n hx hb dX8_tries_183 rfl (lv_at hl 0 rfl) ?_
            refine lv_dup hx hb dX8_tries_184 rfl ?_
            refine va_get (D := D) (ci := 8) (ws := [(v, .inr (8, [.ref a0, .ref a1, .ref a2, .ref a3, .int (iI (e4)), .ref a5, .int (iI (e6)), .ref a7, .int (iI ((p + b) + (lenC (cM m) k))), .int (iI (ms0 (cM m) (cM m (49 + 0)) k p s b q)), .int (iI ((b * (m 3)) + ad)), .ref a11, .int (iI (e12)), .int (iI (e13)), .int (iI (e14)), .ref a15])), (a0, fA cyI 54 m)]) (v := .int (iI (ms0 (cM m) (cM m (49 + 0)) k p s b q))) (C := RX8) (T := TX8) (N := 16) hx hb hts (fun _ h => List.mem_cons_of_mem _ (List.mem_append_right _ h)) hown hK.1 hP 0 rfl rfl 9 (by decide) (hts _ fl_X8_tries_117) (fun _ h9 => h9) rfl dX8_tries_185 ?_
            refine lv_iload hx hb dX8_tries_188 (lv_at hl 9 rfl) ?_
            refine fp_ior hx hb (by omega) dX8_tries_190 ?_
            refine va_put (D := D) (ci := 8) (ws := [(v, .inr (8, [.ref a0, .ref a1, .ref a2, .ref a3, .int (iI (e4)), .ref a5, .int (iI (e6)), .ref a7, .int (iI ((p + b) + (lenC (cM m) k))), .int (iI (ms0 (cM m) (cM m (49 + 0)) k p s b q)), .int (iI ((b * (m 3)) + ad)), .ref a11, .int (iI (e12)), .int (iI (e13)), .int (iI (e14)), .ref a15])), (a0, fA cyI 54 m)]) (v := .int (iI (orI (ms0 (cM m) (cM m (49 + 0)) k p s b q) (bitI (mpl (cM m) k p b q))))) (ty := .int) (C := RX8) (T := TX8) (N := 16) hx hb hts (fun _ h => List.mem_cons_of_mem _ (List.mem_append_right _ h)) tyX8 tyX8_ok nmX8 hown hK.1 hP hD hS 0 rfl rfl 9 (by decide) (hts _ fl_X8_tries_117) (fun _ h9 => h9) rfl (by decide +kernel) rfl rfl (Nat.le_of_ble_eq_true rfl) dX8_tries_191 (fun H locs hP hD hS => ?_)
            have hP : va_P D vwCl [(v, .inr (8, [.ref a0, .ref a1, .ref a2, .ref a3, .int (iI (e4)), .ref a5, .int (iI (e6)), .ref a7, .int (iI ((p + b) + (lenC (cM m) k))), .int (iI (orI (ms0 (cM m) (cM m (49 + 0)) k p s b q) (bitI (mpl (cM m) k p b q)))), .int (iI ((b * (m 3)) + ad)), .ref a11, .int (iI (e12)), .int (iI (e13)), .int (iI (e14)), .ref a15])), (a0, fA cyI 54 m)] H := hP
            have hD : va_D (fp_A [(v, .inr (8, [.ref a0, .ref a1, .ref a2, .ref a3, .int (iI (e4)), .ref a5, .int (iI (e6)), .ref a7, .int (iI (e8)), .int (iI (e9)), .int (iI (e10)), .ref a11, .int (iI (e12)), .int (iI (e13)), .int (iI (e14)), .ref a15])), (a0, fA cyI 54 m)]) [(v, .inr (8, [.ref a0, .ref a1, .ref a2, .ref a3, .int (iI (e4)), .ref a5, .int (iI (e6)), .ref a7, .int (iI ((p + b) + (lenC (cM m) k))), .int (iI (orI (ms0 (cM m) (cM m (49 + 0)) k p s b q) (bitI (mpl (cM m) k p b q)))), .int (iI ((b * (m 3)) + ad)), .ref a11, .int (iI (e12)), .int (iI (e13)), .int (iI (e14)), .ref a15])), (a0, fA cyI 54 m)] := hD
            exact jn3 (orI (ms0 (cM m) (cM m (49 + 0)) k p s b q) (bitI (mpl (cM m) k p b q))) ((b * (m 3)) + ad) (by unfold ms1; first | rw [if_pos (by omega)] | rw [if_neg (by omega)]) hz2 H locs hP hD hS ls (lv_sub hl [0, 1, 2, 3, 4, 5, 6, 7, 8] rfl)
          refine lv_aload_n hx hb dX8_tries_159 rfl (lv_at hl 1 rfl) ?_
          refine va_get (D := D) (ci := 8) (ws := [(v, .inr (8, [.ref a0, .ref a1, .ref a2, .ref a3, .int (iI (e4)), .ref a5, .int (iI (e6)), .ref a7, .int (iI ((p + b) + (lenC (cM m) k))), .int (iI (ms0 (cM m) (cM m (49 + 0)) k p s b q)), .int (iI (b * (m 3))), .ref a11, .int (iI (e12)), .int (iI (e13)), .int (iI (e14)), .ref a15])), (a0, fA cyI 54 m)]) (v := .int (iI (ms0 (cM m) (cM m (49 + 0)) k p s b q))) (C := RX8) (T := TX8) (N := 16) hx hb hts (fun _ h => List.mem_cons_of_mem _ (List.mem_append_right _ h)) hown hK.1 hP 0 rfl rfl 9 (by decide) (hts _ fl_X8_tries_117) (fun _ h9 => h9) rfl dX8_tries_160 ?_
          refine lv_iload hx hb dX8_tries_163 (lv_at hl 0 rfl) ?_
          refine fp_iand hx hb (by omega) dX8_tries_165 ?_
          refine fp_if_ne (tgt := 178) hx hb (by have := andI_rg (a := ms0 (cM m) (cM m (49 + 0)) k p s b q) (b := bitI (mpl (cM m) k p b q)) (by omega); omega) dX8_tries_166 (by decide) (fun q166 => ?_) (fun q166 => ?_)
          · skip
            refine fp_iconst hx hb dX8_tries_178 ?_
            exact jn7 0 (by first | rw [if_pos (by omega)] | rw [if_neg (by omega)]) H locs hP hD hS ls (lv_sub hl [1, 2, 3, 4, 5, 6, 7, 8, 9, 0] rfl)
          · skip
            refine lv_aload_n hx hb dX8_tries_169 rfl (lv_at hl 1 rfl) ?_
            refine va_get (D := D) (ci := 8) (ws := [(v, .inr (8, [.ref a0, .ref a1, .ref a2, .ref a3, .int (iI (e4)), .ref a5, .int (iI (e6)), .ref a7, .int (iI ((p + b) + (lenC (cM m) k))), .int (iI (ms0 (cM m) (cM m (49 + 0)) k p s b q)), .int (iI (b * (m 3))), .ref a11, .int (iI (e12)), .int (iI (e13)), .int (iI (e14)), .ref a15])), (a0, fA cyI 54 m)]) (v := .ref a0) (C := RX8) (T := TX8) (N := 16) hx hb hts (fun _ h => List.mem_cons_of_mem _ (List.mem_append_right _ h)) hown hK.1 hP 0 rfl rfl 0 (by decide) (hts _ fl_X8_tries_7) (fun _ h9 => h9) rfl dX8_tries_170 ?_
            refine fp_iconst hx hb dX8_tries_173 ?_
            refine fp_iald (wsC := [(v, .inr (8, [.ref a0, .ref a1, .ref a2, .ref a3, .int (iI (e4)), .ref a5, .int (iI (e6)), .ref a7, .int (iI ((p + b) + (lenC (cM m) k))), .int (iI (ms0 (cM m) (cM m (49 + 0)) k p s b q)), .int (iI (b * (m 3))), .ref a11, .int (iI (e12)), .int (iI (e13)), .int (iI (e14)), .ref a15])), (a0, fA cyI 54 m)]) hx hb hK hP 1 rfl (by omega) (by decide) dX8_tries_174 ?_
            refine lv_goto (tgt := 179) hx hb dX8_tries_175 (by decide) ?_
            exact jn7 (m 2) (by first | rw [if_pos (by omega)] | rw [if_neg (by omega)]) H locs hP hD hS ls (lv_sub hl [1, 2, 3, 4, 5, 6, 7, 8, 9, 0] rfl)
      refine fp_if_le (tgt := 127) hx hb (by omega) dX8_tries_106 (by decide) (fun q106 => ?_) (fun q106 => ?_)
      · skip
        refine fp_iconst hx hb dX8_tries_127 ?_
        exact jn2 0 (by unfold ms0 gI; first | rw [if_pos (by omega)] | rw [if_neg (by omega)]) H locs hP hD hS ls (lv_sub hl [0, 1, 2, 3, 4, 5, 6, 7, 8] rfl)
      · skip
        have hg0 := gd_rg (q := p) hXg (by omega)
        refine lv_aload_n hx hb dX8_tries_109 rfl (lv_at hl 0 rfl) ?_
        refine lv_iload hx hb dX8_tries_110 (lv_at hl 7 rfl) ?_
        refine fp_pV (As := [.int (iI (mpl (cM m) k p b q))]) (rest := [.ref v]) (wsC := [(v, .inr (8, [.ref a0, .ref a1, .ref a2, .ref a3, .int (iI (e4)), .ref a5, .int (iI (e6)), .ref a7, .int (iI ((p + b) + (lenC (cM m) k))), .int (iI (e9)), .int (iI (b * (m 3))), .ref a11, .int (iI (e12)), .int (iI (e13)), .int (iI (e14)), .ref a15])), (a0, fA cyI 54 m)]) ⟨hx, hb, hml, hown, hts⟩ (c_X8_gatheringOf l D cyI v a0 a1 a2 a3 e4 a5 e6 a7 ((p + b) + (lenC (cM m) k)) e9 (b * (m 3)) a11 e12 e13 e14 a15 m (mpl (cM m) k p b q) hC (by omega)) (cwV 1 hts gX8_tries_X8_gatheringOf rfl rfl rfl (by decide +kernel) ⟨Nat.le_of_ble_eq_true rfl, Nat.le_of_ble_eq_true rfl⟩) hK hP hD [0, 1] (by decide) rfl rfl rfl rfl hl.1 rfl (Nat.le_of_ble_eq_true rfl) dX8_tries_112 ⟨Nat.zero_le _, Nat.zero_le _⟩ ?_
        refine lv_aload_n hx hb dX8_tries_115 rfl (lv_at hl 0 rfl) ?_
        refine lv_iload_n hx hb dX8_tries_116 rfl (lv_at hl 2 rfl) ?_
        refine fp_pV (As := [.int (iI (p))]) (rest := [.int (iI (((mpl (cM m) k p b q) - 1) / cM m (49 + 0))), .ref v]) (wsC := [(v, .inr (8, [.ref a0, .ref a1, .ref a2, .ref a3, .int (iI (e4)), .ref a5, .int (iI (e6)), .ref a7, .int (iI ((p + b) + (lenC (cM m) k))), .int (iI (e9)), .int (iI (b * (m 3))), .ref a11, .int (iI (e12)), .int (iI (e13)), .int (iI (e14)), .ref a15])), (a0, fA cyI 54 m)]) ⟨hx, hb, hml, hown, hts⟩ (c_X8_gatheringOf l D cyI v a0 a1 a2 a3 e4 a5 e6 a7 ((p + b) + (lenC (cM m) k)) e9 (b * (m 3)) a11 e12 e13 e14 a15 m p hC (by omega)) (cwV 1 hts gX8_tries_X8_gatheringOf rfl rfl rfl (by decide +kernel) ⟨Nat.le_of_ble_eq_true rfl, Nat.le_of_ble_eq_true rfl⟩) hK hP hD [0, 1] (by decide) rfl rfl rfl rfl hl.1 rfl (Nat.le_of_ble_eq_true rfl) dX8_tries_117 ⟨Nat.zero_le _, Nat.zero_le _⟩ ?_
        refine fp_icmp_ne (tgt := 127) hx hb (by omega) dX8_tries_120 (by decide) (fun q120 => ?_) (fun q120 => ?_)
        · skip
          refine fp_iconst hx hb dX8_tries_127 ?_
          exact jn2 0 (by unfold ms0 gI; first | rw [if_pos (by omega)] | rw [if_neg (by omega)]) H locs hP hD hS ls (lv_sub hl [0, 1, 2, 3, 4, 5, 6, 7, 8] rfl)
        · skip
          refine lv_iload_n hx hb dX8_tries_123 rfl (lv_at hl 3 rfl) ?_
          refine lv_goto (tgt := 128) hx hb dX8_tries_124 (by decide) ?_
          exact jn2 s (by unfold ms0 gI; first | rw [if_pos (by omega)] | rw [if_neg (by omega)]) H locs hP hD hS ls (lv_sub hl [0, 1, 2, 3, 4, 5, 6, 7, 8] rfl)
    refine fp_if_eq (tgt := 104) hx hb (bI_r32 _) dX8_tries_65 (by decide) (fun q65 => ?_) (fun q65 => ?_)
    · skip
      have w65 := bI_e q65
      exact jn1 1 (by unfold mfa; first | (rw [if_pos (by omega)]) | (rw [if_neg (by omega), ← jot])) H locs hP hD hS ls (lv_sub hl [2, 3, 4, 5, 6, 7, 8, 1, 0] rfl)
    · skip
      have w65 := bI_ne q65
      have hpe : mpl (cM m) k p b q = p + b + 1 + q := by unfold mpl; rw [if_neg w65]
      refine lv_iload hx hb dX8_tries_68 (lv_at hl 1 rfl) ?_
      refine fp_iconst hx hb dX8_tries_70 ?_
      refine fp_irem hx hb (by omega) dX8_tries_71 ?_
      have jn12 : ∀ (ot : Int), (ot = if (p + b + 1 + q) % 2 = 0 then p + b + 1 + q + 1 else p + b + 1 + q - 1) → ∀ (H : Heap) (locs : List Loc), va_P D vwCl [(v, .inr (8, [.ref a0, .ref a1, .ref a2, .ref a3, .int (iI (e4)), .ref a5, .int (iI (e6)), .ref a7, .int (iI ((p + b) + (lenC (cM m) k))), .int (iI (e9)), .int (iI (b * (m 3))), .ref a11, .int (iI (e12)), .int (iI (e13)), .int (iI (e14)), .ref a15])), (a0, fA cyI 54 m)] H → va_D (fp_A [(v, .inr (8, [.ref a0, .ref a1, .ref a2, .ref a3, .int (iI (e4)), .ref a5, .int (iI (e6)), .ref a7, .int (iI (e8)), .int (iI (e9)), .int (iI (e10)), .ref a11, .int (iI (e12)), .int (iI (e13)), .int (iI (e14)), .ref a15])), (a0, fA cyI 54 m)]) [(v, .inr (8, [.ref a0, .ref a1, .ref a2, .ref a3, .int (iI (e4)), .ref a5, .int (iI (e6)), .ref a7, .int (iI ((p + b) + (lenC (cM m) k))), .int (iI (e9)), .int (iI (b * (m 3))), .ref a11, .int (iI (e12)), .int (iI (e13)), .int (iI (e14)), .ref a15])), (a0, fA cyI 54 m)] → va_S (fp_A [(v, .inr (8, [.ref a0, .ref a1, .ref a2, .ref a3, .int (iI (e4)), .ref a5, .int (iI (e6)), .ref a7, .int (iI (e8)), .int (iI (e9)), .int (iI (e10)), .ref a11, .int (iI (e12)), .int (iI (e13)), .int (iI (e14)), .ref a15])), (a0, fA cyI 54 m)]) sx.heap H locs → ∀ (ls : Array Slot), lv_has ls 10 [(0, .ref v), (1, .int (iI (k))), (2, .int (iI (p))), (3, .int (iI (s))), (4, .int (iI (b))), (5, .int (iI (q))), (6, .int (iI ((p + b) + 1))), (7, .int (iI (mpl (cM m) k p b q))), (8, .int (iI (1)))] → W pg l en ({ frames := 2, cells := 0, slots := 0, locals := 42 } : Room) sx mi ar bl mt cd H locs 0 0 (MQ bl (fp_Qw D [(v, .inr (8, [.ref a0, .ref a1, .ref a2, .ref a3, .int (iI (e4)), .ref a5, .int (iI (e6)), .ref a7, .int (iI (e8)), .int (iI (e9)), .int (iI (e10)), .ref a11, .int (iI (e12)), .int (iI (e13)), .int (iI (e14)), .ref a15])), (a0, fA cyI 54 m)] (fun (u9 : Unit) => True) (fun (u9 : Unit) => some (.int (iI (mfa (cM m) k p b q)))) (fun (u9 : Unit) => [(v, .inr (8, [.ref a0, .ref a1, .ref a2, .ref a3, .int (iI (e4)), .ref a5, .int (iI (e6)), .ref a7, .int (iI (p + b + lenC (cM m) k)), .int (iI (msT (cM m) (cM m (49 + 0)) k p s b q)), .int (iI (mcT (cM m) (cM m (49 + 0)) k p s b q)), .ref a11, .int (iI (e12)), .int (iI (e13)), .int (iI (e14)), .ref a15])), (a0, fA cyI 54 m)])) ar sx 0 0 (fp_A [(v, .inr (8, [.ref a0, .ref a1, .ref a2, .ref a3, .int (iI (e4)), .ref a5, .int (iI (e6)), .ref a7, .int (iI (e8)), .int (iI (e9)), .int (iI (e10)), .ref a11, .int (iI (e12)), .int (iI (e13)), .int (iI (e14)), .ref a15])), (a0, fA cyI 54 m)])) (F0 mi 86 ls [.int (iI (ot))]) := by
        intro ot jot H locs hP hD hS ls hl
        have hotr : p + b + q ≤ ot ∧ ot ≤ p + b + q + 2 := by rw [jot]; split <;> omega
        refine lv_istore (lv' := [(9, .int (iI (ot))), (0, .ref v), (1, .int (iI (k))), (2, .int (iI (p))), (3, .int (iI (s))), (4, .int (iI (b))), (5, .int (iI (q))), (6, .int (iI ((p + b) + 1))), (7, .int (iI (mpl (cM m) k p b q))), (8, .int (iI (1)))]) hx hb dX8_tries_86 hl (by decide) rfl (fun ls hl => ?_)
        refine lv_iload hx hb dX8_tries_88 (lv_at hl 0 rfl) ?_
        refine fp_i2l hx hb (by omega) dX8_tries_90 ?_
        refine lv_iload hx hb dX8_tries_91 (lv_at hl 7 rfl) ?_
        refine fp_i2l hx hb (by omega) dX8_tries_93 ?_
        refine lv_aload_n hx hb dX8_tries_94 rfl (lv_at hl 1 rfl) ?_
        refine va_get (D := D) (ci := 8) (ws := [(v, .inr (8, [.ref a0, .ref a1, .ref a2, .ref a3, .int (iI (e4)), .ref a5, .int (iI (e6)), .ref a7, .int (iI ((p + b) + (lenC (cM m) k))), .int (iI (e9)), .int (iI (b * (m 3))), .ref a11, .int (iI (e12)), .int (iI (e13)), .int (iI (e14)), .ref a15])), (a0, fA cyI 54 m)]) (v := .int (iI ((p + b) + (lenC (cM m) k)))) (C := RX8) (T := TX8) (N := 16) hx hb hts (fun _ h => List.mem_cons_of_mem _ (List.mem_append_right _ h)) hown hK.1 hP 0 rfl rfl 8 (by decide) (hts _ fl_X8_tries_111) (fun _ h9 => h9) rfl dX8_tries_95 ?_
        refine fp_i2l hx hb (by omega) dX8_tries_98 ?_
        refine fp_pS (As := [.long (lI (ot)), .long (lI ((p + b) + 1)), .long (lI ((p + b) + (lenC (cM m) k)))]) (rest := []) (wsC := [(v, .inr (8, [.ref a0, .ref a1, .ref a2, .ref a3, .int (iI (e4)), .ref a5, .int (iI (e6)), .ref a7, .int (iI ((p + b) + (lenC (cM m) k))), .int (iI (e9)), .int (iI (b * (m 3))), .ref a11, .int (iI (e12)), .int (iI (e13)), .int (iI (e14)), .ref a15])), (a0, fA cyI 54 m)]) ⟨hx, hb, hml, hown, hts⟩ (c_X8_in l D cyI ot ((p + b) + 1) ((p + b) + (lenC (cM m) k)) (by omega)) (va_cwS 3 hts gX8_tries_X8_in rfl rfl rfl (by decide +kernel) ⟨Nat.le_of_ble_eq_true rfl, Nat.le_of_ble_eq_true rfl⟩) hK hP hD [] (by decide) rfl rfl hl.1 rfl (Nat.le_of_ble_eq_true rfl) dX8_tries_99 ⟨Nat.zero_le _, Nat.zero_le _⟩ ?_
        refine lv_istore (lv' := [(8, .int (iI (bI (((p + b) + 1) ≤ ot ∧ ot ≤ ((p + b) + (lenC (cM m) k)))))), (9, .int (iI (ot))), (0, .ref v), (1, .int (iI (k))), (2, .int (iI (p))), (3, .int (iI (s))), (4, .int (iI (b))), (5, .int (iI (q))), (6, .int (iI ((p + b) + 1))), (7, .int (iI (mpl (cM m) k p b q)))]) hx hb dX8_tries_102 hl (by decide) rfl (fun ls hl => ?_)
        exact jn1 (bI (((p + b) + 1) ≤ ot ∧ ot ≤ ((p + b) + (lenC (cM m) k)))) (by unfold mfa; first | (rw [if_pos (by omega)]) | (rw [if_neg (by omega), ← jot])) H locs hP hD hS ls (lv_sub hl [2, 3, 4, 5, 6, 7, 8, 9, 0] rfl)
      refine fp_if_ne (tgt := 82) hx hb (by omega) dX8_tries_72 (by decide) (fun q72 => ?_) (fun q72 => ?_)
      · skip
        refine lv_iload hx hb dX8_tries_82 (lv_at hl 1 rfl) ?_
        refine fp_iconst hx hb dX8_tries_84 ?_
        refine fp_isub hx hb dX8_tries_85 ?_
        exact jn12 ((mpl (cM m) k p b q) - 1) (by rw [← hpe]; first | rw [if_pos (by omega)] | rw [if_neg (by omega)]) H locs hP hD hS ls (lv_sub hl [2, 3, 4, 5, 6, 7, 8, 1, 0] rfl)
      · skip
        refine lv_iload hx hb dX8_tries_75 (lv_at hl 1 rfl) ?_
        refine fp_iconst hx hb dX8_tries_77 ?_
        refine fp_iadd hx hb dX8_tries_78 ?_
        refine lv_goto (tgt := 86) hx hb dX8_tries_79 (by decide) ?_
        exact jn12 ((mpl (cM m) k p b q) + 1) (by rw [← hpe]; first | rw [if_pos (by omega)] | rw [if_neg (by omega)]) H locs hP hD hS ls (lv_sub hl [2, 3, 4, 5, 6, 7, 8, 1, 0] rfl)
  refine fp_if_eq (tgt := 51) hx hb (bI_r32 _) dX8_tries_40 (by decide) (fun q40 => ?_) (fun q40 => ?_)
  · skip
    have w40 := bI_e q40
    refine lv_aload_n hx hb dX8_tries_51 rfl (lv_at hl 1 rfl) ?_
    refine va_get (D := D) (ci := 8) (ws := [(v, .inr (8, [.ref a0, .ref a1, .ref a2, .ref a3, .int (iI (e4)), .ref a5, .int (iI (e6)), .ref a7, .int (iI ((p + b) + (lenC (cM m) k))), .int (iI (e9)), .int (iI (b * (m 3))), .ref a11, .int (iI (e12)), .int (iI (e13)), .int (iI (e14)), .ref a15])), (a0, fA cyI 54 m)]) (v := .int (iI ((p + b) + (lenC (cM m) k)))) (C := RX8) (T := TX8) (N := 16) hx hb hts (fun _ h => List.mem_cons_of_mem _ (List.mem_append_right _ h)) hown hK.1 hP 0 rfl rfl 8 (by decide) (hts _ fl_X8_tries_111) (fun _ h9 => h9) rfl dX8_tries_52 ?_
    exact jn0 ((p + b) + (lenC (cM m) k)) (by unfold mpl; first | (rw [if_pos (by omega)]) | (rw [if_neg (by omega)])) H locs hP hD hS ls (lv_sub hl [1, 2, 3, 4, 5, 6, 0] rfl)
  · skip
    have w40 := bI_ne q40
    refine lv_iload hx hb dX8_tries_43 (lv_at hl 0 rfl) ?_
    refine lv_iload hx hb dX8_tries_45 (lv_at hl 6 rfl) ?_
    refine fp_iadd hx hb dX8_tries_47 ?_
    refine lv_goto (tgt := 55) hx hb dX8_tries_48 (by decide) ?_
    exact jn0 (((p + b) + 1) + q) (by unfold mpl; first | (rw [if_pos (by omega)]) | (rw [if_neg (by omega)])) H locs hP hD hS ls (lv_sub hl [1, 2, 3, 4, 5, 6, 0] rfl)
