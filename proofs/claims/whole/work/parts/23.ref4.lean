/-! the reference's table, row by row -/
def RowD (c : Int → Int) (G : Int) (l : Int → Int) (k p s : Int) : Prop := LmOK c G l (k + 1) ∧ ∀ p' s' : Int, 0 ≤ p' → p' ≤ 5 * k → 0 ≤ s' → s' ≤ 3 → (p' < p ∨ (p' = p ∧ s' < s)) → l (256 * k + 4 * p' + s') = bsM c G (c 0 - k).toNat k p' s'
theorem RowD_0 {c : Int → Int} {G : Int} {l : Int → Int} {k : Int} (h : LmOK c G l (k + 1)) : RowD c G l k 0 0 := ⟨h, fun p' s' a1 _ a3 _ a5 => by omega⟩
theorem RowD_p {c : Int → Int} {G : Int} {l : Int → Int} {k p s : Int} (h : RowD c G l k p s) (hs : 4 ≤ s) : RowD c G l k (p + 1) 0 :=
  ⟨h.1, fun p' s' a1 a2 a3 a4 a5 => h.2 p' s' a1 a2 a3 a4 (by omega)⟩
theorem RowD_e {c : Int → Int} {G : Int} {l : Int → Int} {k p s : Int} (h : RowD c G l k p s) (hp : 5 * k < p) : LmOK c G l k := by
  intro k' h1 h2 p' s' a1 a2 a3 a4
  by_cases e : k' = k
  · subst e
    exact h.2 p' s' a1 a2 a3 a4 (Or.inl (by omega))
  · exact h.1 k' (by omega) h2 p' s' a1 a2 a3 a4
theorem RowD_s {c : Int → Int} {G : Int} {l : Int → Int} {k p s v : Int} (h : RowD c G l k p s) (hk : 0 ≤ k ∧ k ≤ 12) (hc : c 0 ≤ 12) (hp : 0 ≤ p ∧ p ≤ 63) (hs : 0 ≤ s ∧ s ≤ 3) (hv : v = bsM c G (c 0 - k).toNat k p s) : RowD c G (upI l (256 * k + 4 * p + s) v) k p (s + 1) := by
  refine ⟨fun k' h1 h2 p' s' a1 a2 a3 a4 => ?_, fun p' s' a1 a2 a3 a4 a5 => ?_⟩
  · rw [upI_n (by omega)]
    exact h.1 k' h1 h2 p' s' a1 a2 a3 a4
  · by_cases e : p' = p ∧ s' = s
    · rw [upI_s (by omega), e.1, e.2]
      exact hv
    · rw [upI_n (by omega)]
      exact h.2 p' s' a1 a2 a3 a4 (by omega)
theorem Lm_rg {c : Int → Int} (hC : CatOK c) {G : Int} (hG : G = 4 ∨ G = 8 ∨ G = 16) {l : Int → Int} {k k' p s : Int} (h : LmOK c G l k) (hk : k ≤ k' ∧ 0 ≤ k' ∧ k' ≤ c 0) (hp : 0 ≤ p ∧ p ≤ 5 * k') (hs : 0 ≤ s ∧ s ≤ 3) : 0 ≤ l (256 * k' + 4 * p + s) ∧ l (256 * k' + 4 * p + s) ≤ 10000000 := by
  rw [h k' hk.1 hk.2.2 p s hp.1 hp.2 hs.1 hs.2]
  exact bsM_rg hC hG (c 0 - k').toNat k' p s hk.2.1 (by omega) hp
theorem mn_bsM {c : Int → Int} (hC : CatOK c) {G : Int} {l : Int → Int} {k p s : Int} (hk : 0 ≤ k ∧ k < c 0) (hp : 0 ≤ p ∧ p ≤ 5 * k) (hs : 0 ≤ s ∧ s ≤ 3) (hL : LmOK c G l (k + 1)) : mnI (mwR c G l k p s) (2 * (mostC c k + 1)).toNat 10000000 = bsM c G (c 0 - k).toNat k p s := by
  have hM := most_rg hC hk
  rw [bsM_s hk.2]
  exact mnI_c _ (fun i a b => mwR_B hC hk hp hs (by omega) hL)
theorem mwR_rg {c : Int → Int} (hC : CatOK c) {G : Int} (hG : G = 4 ∨ G = 8 ∨ G = 16) {l : Int → Int} {k p s i : Int} (hk : 0 ≤ k ∧ k < c 0) (hp : 0 ≤ p ∧ p ≤ 5 * k) (hs : 0 ≤ s ∧ s ≤ 3) (hi : 0 ≤ i ∧ i < 2 * (mostC c k + 1)) (hL : LmOK c G l (k + 1)) : 0 ≤ mwR c G l k p s i ∧ mwR c G l k p s i ≤ 10000198 := by
  rw [mwR_B hC hk hp hs hi hL]
  exact mwB_rg hC hG hk hp hi
theorem mnI_up {f : Int → Int} {z : Int} (n : Nat) (h : ∀ i : Int, 0 ≤ i → i < n → 0 ≤ f i) (hz : 0 ≤ z) : 0 ≤ mnI f n z ∧ mnI f n z ≤ z := by
  have h1 := mnI_le (f := f) (z := z) n
  refine ⟨?_, h1.1⟩
  rcases mnI_at (f := f) (z := z) n with h2 | ⟨i, h2, h3, h4⟩
  · omega
  · rw [h4]; exact h i h2 h3
theorem ck_X8_costWith_130 : Cond.constant RX8 130 (10000000) ∈ wsX8_costWith := by decide +kernel
theorem fl_X8_costWith_114 : Cond.fieldLink RX8 114 "FacingPlatesModel" "costThen" "I" ∈ wsX8_costWith := by decide +kernel
theorem fl_X8_costWith_25 : Cond.fieldLink RX8 25 "FacingPlatesModel" "least" "[I" ∈ wsX8_costWith := by decide +kernel
theorem fl_X8_costWith_111 : Cond.fieldLink RX8 111 "FacingPlatesModel" "pagesThen" "I" ∈ wsX8_costWith := by decide +kernel
theorem fl_X8_costWith_117 : Cond.fieldLink RX8 117 "FacingPlatesModel" "sidesThen" "I" ∈ wsX8_costWith := by decide +kernel
set_option maxHeartbeats 4000000 in
set_option maxRecDepth 100000 in
theorem c_X8_costWith (l : Launch) (D : va_G) (cyI : ClassId) (v : Nat) (a0 : Nat) (a1 : Nat) (a2 : Nat) (a3 : Nat) (e4 : Int) (a5 : Nat) (e6 : Int) (a7 : Nat) (e8 : Int) (e9 : Int) (e10 : Int) (a11 : Nat) (e12 : Int) (e13 : Int) (e14 : Int) (a15 : Nat) (m : Int → Int) (le : Int → Int) (k : Int) (p : Int) (s : Int) (ch : Int) (hC : CatOK (cM m)) (hk : 0 ≤ k ∧ k < m 5) (hp : 0 ≤ p ∧ p ≤ 5 * k) (hs9 : 0 ≤ s ∧ s ≤ 3) (hc9 : 0 ≤ ch ∧ ch < 2 * (mostC (cM m) k + 1)) (hle9 : ∀ p9 s9 : Int, 0 ≤ p9 → p9 ≤ 5 * (k + 1) → 0 ≤ s9 → s9 ≤ 3 → 0 ≤ le (256 * (k + 1) + 4 * p9 + s9) ∧ le (256 * (k + 1) + 4 * p9 + s9) ≤ 10000000) : fp_MW l yX8_costWith wsX8_costWith ({ frames := 3, cells := 0, slots := 0, locals := 71 } : Room) D cyI [(v, .inr (8, [.ref a0, .ref a1, .ref a2, .ref a3, .int (iI (e4)), .ref a5, .int (iI (e6)), .ref a7, .int (iI (e8)), .int (iI (e9)), .int (iI (e10)), .ref a11, .int (iI (e12)), .int (iI (e13)), .int (iI (e14)), .ref a15])), (a0, fA cyI 54 m), (a7, fA cyI 3328 le)] [.ref v, .int (iI (k)), .int (iI (p)), .int (iI (s)), .int (iI (ch))] (fun (u9 : Unit) => True) (fun (u9 : Unit) => some (.int (iI (mwR (cM m) (cM m (49 + 0)) le k p s ch)))) (fun (u9 : Unit) => [(v, .inr (8, [.ref a0, .ref a1, .ref a2, .ref a3, .int (iI (e4)), .ref a5, .int (iI (e6)), .ref a7, .int (iI (p + ch / (mostC (cM m) k + 1) + lenC (cM m) k)), .int (iI (msT (cM m) (cM m (49 + 0)) k p s (ch / (mostC (cM m) k + 1)) (ch % (mostC (cM m) k + 1)))), .int (iI (mcT (cM m) (cM m (49 + 0)) k p s (ch / (mostC (cM m) k + 1)) (ch % (mostC (cM m) k + 1)))), .ref a11, .int (iI (e12)), .int (iI (e13)), .int (iI (e14)), .ref a15])), (a0, fA cyI 54 m), (a7, fA cyI 3328 le)]) := by
  refine fp_start (cc := cX8_costWith) (maxL := 7) (ret := (some .int)) (by decide) rfl (Nat.le_of_ble_eq_true rfl) ?_
  intro pg en sx mi ar bl mt cd ls hx hb hr hts hown hlocks hml hnm hP hK hD hl
  have hown : sx.vm.findClass RX8 = some mi.cls := hown
  have hl : lv_has ls 7 [(0, .ref v), (1, .int (iI (k))), (2, .int (iI (p))), (3, .int (iI (s))), (4, .int (iI (ch)))] := hl
  have hD := fp_self hD
  have hS : va_S (fp_A [(v, .inr (8, [.ref a0, .ref a1, .ref a2, .ref a3, .int (iI (e4)), .ref a5, .int (iI (e6)), .ref a7, .int (iI (e8)), .int (iI (e9)), .int (iI (e10)), .ref a11, .int (iI (e12)), .int (iI (e13)), .int (iI (e14)), .ref a15])), (a0, fA cyI 54 m), (a7, fA cyI 3328 le)]) sx.heap sx.heap [] := va_S.rf
  have hN := hC.1
  rw [cM_0] at hN
  have hX := hC.2.2
  unfold SetOK at hX
  have eG : cM m (49 + 0) = m 0 := cM_s (by omega)
  rw [eG] at hX
  have hX0 := hX.1
  have hL := lot_f hC (k := k) (by rw [cM_0]; exact hk)
  unfold LotOK at hL
  rw [cM_t (by omega), cM_p (by omega), cM_b (by omega), cM_q (by omega)] at hL
  have hln := len_rg hC (k := k) (by rw [cM_0]; exact hk)
  have hM := most_rg hC (k := k) (by rw [cM_0]; exact hk)
  have hd := dm_b (w := mostC (cM m) k + 1) (i := ch) (by omega) (by omega)
  have ew : 2 * (mostC (cM m) k + 1) / 2 = mostC (cM m) k + 1 := by omega
  have hmt := msT_rg (c := cM m) (G := cM m (49 + 0)) (k := k) (p := p) (b := ch / (mostC (cM m) k + 1)) (q := ch % (mostC (cM m) k + 1)) hs9
  have hmc := mcT_rg hC (G := cM m (49 + 0)) (k := k) (p := p) (s := s) (b := ch / (mostC (cM m) k + 1)) (q := ch % (mostC (cM m) k + 1)) hd.1
  have hlv := hle9 (p + ch / (mostC (cM m) k + 1) + lenC (cM m) k) (msT (cM m) (cM m (49 + 0)) k p s (ch / (mostC (cM m) k + 1)) (ch % (mostC (cM m) k + 1))) (by omega) (by omega) hmt.1 hmt.2
  have hfa := mfa_01 (cM m) k p (ch / (mostC (cM m) k + 1)) (ch % (mostC (cM m) k + 1))
  refine lv_aload_n hx hb dX8_costWith_0 rfl (lv_at hl 0 rfl) ?_
  refine lv_iload_n hx hb dX8_costWith_1 rfl (lv_at hl 1 rfl) ?_
  refine fp_pV (As := [.int (iI (k))]) (rest := []) (wsC := [(v, .inr (8, [.ref a0, .ref a1, .ref a2, .ref a3, .int (iI (e4)), .ref a5, .int (iI (e6)), .ref a7, .int (iI (e8)), .int (iI (e9)), .int (iI (e10)), .ref a11, .int (iI (e12)), .int (iI (e13)), .int (iI (e14)), .ref a15])), (a0, fA cyI 54 m), (a7, fA cyI 3328 le)]) ⟨hx, hb, hml, hown, hts⟩ (c_X8_choicesOf l D cyI v a0 a1 a2 a3 e4 a5 e6 a7 e8 e9 e10 a11 e12 e13 e14 a15 m k hC (by omega)) (cwV 1 hts gX8_costWith_X8_choicesOf rfl rfl rfl (by decide +kernel) ⟨Nat.le_of_ble_eq_true rfl, Nat.le_of_ble_eq_true rfl⟩) hK hP hD [0, 1] (by decide) rfl rfl rfl rfl hl.1 rfl (Nat.le_of_ble_eq_true rfl) dX8_costWith_2 ⟨Nat.zero_le _, Nat.zero_le _⟩ ?_
  refine fp_iconst hx hb dX8_costWith_5 ?_
  refine fp_idiv hx hb (by omega) dX8_costWith_6 ?_
  rw [show ((2 * (mostC (cM m) k + 1)) / 2 : Int) = mostC (cM m) k + 1 from ew]
  refine lv_istore (lv' := [(5, .int (iI (mostC (cM m) k + 1))), (0, .ref v), (1, .int (iI (k))), (2, .int (iI (p))), (3, .int (iI (s))), (4, .int (iI (ch)))]) hx hb dX8_costWith_7 hl (by decide) rfl (fun ls hl => ?_)
  refine lv_aload_n hx hb dX8_costWith_9 rfl (lv_at hl 1 rfl) ?_
  refine lv_iload_n hx hb dX8_costWith_10 rfl (lv_at hl 2 rfl) ?_
  refine lv_iload_n hx hb dX8_costWith_11 rfl (lv_at hl 3 rfl) ?_
  refine lv_iload_n hx hb dX8_costWith_12 rfl (lv_at hl 4 rfl) ?_
  refine lv_iload hx hb dX8_costWith_13 (lv_at hl 5 rfl) ?_
  refine lv_iload hx hb dX8_costWith_15 (lv_at hl 0 rfl) ?_
  refine fp_idiv hx hb (by omega) dX8_costWith_17 ?_
  refine lv_iload hx hb dX8_costWith_18 (lv_at hl 5 rfl) ?_
  refine lv_iload hx hb dX8_costWith_20 (lv_at hl 0 rfl) ?_
  refine fp_irem hx hb (by omega) dX8_costWith_22 ?_
  refine fp_wV (As := [.int (iI (k)), .int (iI (p)), .int (iI (s)), .int (iI (ch / (mostC (cM m) k + 1))), .int (iI (ch % (mostC (cM m) k + 1)))]) (rest := []) (wsC := [(v, .inr (8, [.ref a0, .ref a1, .ref a2, .ref a3, .int (iI (e4)), .ref a5, .int (iI (e6)), .ref a7, .int (iI (e8)), .int (iI (e9)), .int (iI (e10)), .ref a11, .int (iI (e12)), .int (iI (e13)), .int (iI (e14)), .ref a15])), (a0, fA cyI 54 m), (a7, fA cyI 3328 le)]) ⟨hx, hb, hml, hown, hts⟩ (c_X8_tries l D cyI v a0 a1 a2 a3 e4 a5 e6 a7 e8 e9 e10 a11 e12 e13 e14 a15 m k p s (ch / (mostC (cM m) k + 1)) (ch % (mostC (cM m) k + 1)) hC (by omega) (by omega) (by omega) (by omega) (by omega)) (cwV 5 hts gX8_costWith_X8_tries rfl rfl rfl (by decide +kernel) ⟨Nat.le_of_ble_eq_true rfl, Nat.le_of_ble_eq_true rfl⟩) (fun _ => rfl) hK hP hD hS [0, 1] (by decide) rfl rfl rfl rfl hl.1 rfl (Nat.le_of_ble_eq_true rfl) dX8_costWith_23 ⟨Nat.zero_le _, Nat.zero_le _⟩ (fun u9v H locs hu hP hD hS => ?_)
  refine W.eq (g2 := F0 mi 26 ls [.int (iI (mfa (cM m) k p (ch / (mostC (cM m) k + 1)) (ch % (mostC (cM m) k + 1))))]) rfl ?_
  have hP : va_P D vwCl [(v, .inr (8, [.ref a0, .ref a1, .ref a2, .ref a3, .int (iI (e4)), .ref a5, .int (iI (e6)), .ref a7, .int (iI (p + (ch / (mostC (cM m) k + 1)) + lenC (cM m) k)), .int (iI (msT (cM m) (cM m (49 + 0)) k p s (ch / (mostC (cM m) k + 1)) (ch % (mostC (cM m) k + 1)))), .int (iI (mcT (cM m) (cM m (49 + 0)) k p s (ch / (mostC (cM m) k + 1)) (ch % (mostC (cM m) k + 1)))), .ref a11, .int (iI (e12)), .int (iI (e13)), .int (iI (e14)), .ref a15])), (a0, fA cyI 54 m), (a7, fA cyI 3328 le)] H := hP
  have hD : va_D (fp_A [(v, .inr (8, [.ref a0, .ref a1, .ref a2, .ref a3, .int (iI (e4)), .ref a5, .int (iI (e6)), .ref a7, .int (iI (e8)), .int (iI (e9)), .int (iI (e10)), .ref a11, .int (iI (e12)), .int (iI (e13)), .int (iI (e14)), .ref a15])), (a0, fA cyI 54 m), (a7, fA cyI 3328 le)]) [(v, .inr (8, [.ref a0, .ref a1, .ref a2, .ref a3, .int (iI (e4)), .ref a5, .int (iI (e6)), .ref a7, .int (iI (p + (ch / (mostC (cM m) k + 1)) + lenC (cM m) k)), .int (iI (msT (cM m) (cM m (49 + 0)) k p s (ch / (mostC (cM m) k + 1)) (ch % (mostC (cM m) k + 1)))), .int (iI (mcT (cM m) (cM m (49 + 0)) k p s (ch / (mostC (cM m) k + 1)) (ch % (mostC (cM m) k + 1)))), .ref a11, .int (iI (e12)), .int (iI (e13)), .int (iI (e14)), .ref a15])), (a0, fA cyI 54 m), (a7, fA cyI 3328 le)] := hD
  refine lv_istore (lv' := [(6, .int (iI (mfa (cM m) k p (ch / (mostC (cM m) k + 1)) (ch % (mostC (cM m) k + 1))))), (5, .int (iI (mostC (cM m) k + 1))), (0, .ref v), (1, .int (iI (k))), (2, .int (iI (p))), (3, .int (iI (s))), (4, .int (iI (ch)))]) hx hb dX8_costWith_26 hl (by decide) rfl (fun ls hl => ?_)
  refine lv_iload hx hb dX8_costWith_28 (lv_at hl 0 rfl) ?_
  refine fp_if_eq (tgt := 60) hx hb (by omega) dX8_costWith_30 (by decide) (fun q30 => ?_) (fun q30 => ?_)
  · skip
    refine fp_ldc hx hb (10000000) rfl hown (hts _ ck_X8_costWith_130) dX8_costWith_60 ?_
    have hP : va_P D vwCl [(v, .inr (8, [.ref a0, .ref a1, .ref a2, .ref a3, .int (iI (e4)), .ref a5, .int (iI (e6)), .ref a7, .int (iI (p + ch / (mostC (cM m) k + 1) + lenC (cM m) k)), .int (iI (msT (cM m) (cM m (49 + 0)) k p s (ch / (mostC (cM m) k + 1)) (ch % (mostC (cM m) k + 1)))), .int (iI (mcT (cM m) (cM m (49 + 0)) k p s (ch / (mostC (cM m) k + 1)) (ch % (mostC (cM m) k + 1)))), .ref a11, .int (iI (e12)), .int (iI (e13)), .int (iI (e14)), .ref a15])), (a0, fA cyI 54 m), (a7, fA cyI 3328 le)] H := by
      rw [(show (p + (ch / (mostC (cM m) k + 1)) + lenC (cM m) k : Int) = p + ch / (mostC (cM m) k + 1) + lenC (cM m) k from (by first | rfl | omega)).symm]
      exact hP
    have hret : (mwR (cM m) (cM m (49 + 0)) le k p s ch : Int) = 10000000 := (by unfold mwR mwV; first | rw [if_neg (by omega)] | rw [if_pos (by omega)])
    exact fp_wret () hx hb hr hlocks hS hP trivial (congrArg (fun z : Int => some (Value.int (iI z))) hret) dX8_costWith_62
  · skip
    refine lv_aload_n hx hb dX8_costWith_33 rfl (lv_at hl 2 rfl) ?_
    refine va_get (D := D) (ci := 8) (ws := [(v, .inr (8, [.ref a0, .ref a1, .ref a2, .ref a3, .int (iI (e4)), .ref a5, .int (iI (e6)), .ref a7, .int (iI (p + (ch / (mostC (cM m) k + 1)) + lenC (cM m) k)), .int (iI (msT (cM m) (cM m (49 + 0)) k p s (ch / (mostC (cM m) k + 1)) (ch % (mostC (cM m) k + 1)))), .int (iI (mcT (cM m) (cM m (49 + 0)) k p s (ch / (mostC (cM m) k + 1)) (ch % (mostC (cM m) k + 1)))), .ref a11, .int (iI (e12)), .int (iI (e13)), .int (iI (e14)), .ref a15])), (a0, fA cyI 54 m), (a7, fA cyI 3328 le)]) (v := .int (iI (mcT (cM m) (cM m (49 + 0)) k p s (ch / (mostC (cM m) k + 1)) (ch % (mostC (cM m) k + 1))))) (C := RX8) (T := TX8) (N := 16) hx hb hts (fun _ h => List.mem_cons_of_mem _ (List.mem_append_right _ h)) hown hK.1 hP 0 rfl rfl 10 (by decide) (hts _ fl_X8_costWith_114) (fun _ h9 => h9) rfl dX8_costWith_34 ?_
    refine lv_aload_n hx hb dX8_costWith_37 rfl (lv_at hl 2 rfl) ?_
    refine va_get (D := D) (ci := 8) (ws := [(v, .inr (8, [.ref a0, .ref a1, .ref a2, .ref a3, .int (iI (e4)), .ref a5, .int (iI (e6)), .ref a7, .int (iI (p + (ch / (mostC (cM m) k + 1)) + lenC (cM m) k)), .int (iI (msT (cM m) (cM m (49 + 0)) k p s (ch / (mostC (cM m) k + 1)) (ch % (mostC (cM m) k + 1)))), .int (iI (mcT (cM m) (cM m (49 + 0)) k p s (ch / (mostC (cM m) k + 1)) (ch % (mostC (cM m) k + 1)))), .ref a11, .int (iI (e12)), .int (iI (e13)), .int (iI (e14)), .ref a15])), (a0, fA cyI 54 m), (a7, fA cyI 3328 le)]) (v := .ref a7) (C := RX8) (T := TX8) (N := 16) hx hb hts (fun _ h => List.mem_cons_of_mem _ (List.mem_append_right _ h)) hown hK.1 hP 0 rfl rfl 7 (by decide) (hts _ fl_X8_costWith_25) (fun _ h9 => h9) rfl dX8_costWith_38 ?_
    refine lv_iload_n hx hb dX8_costWith_41 rfl (lv_at hl 3 rfl) ?_
    refine fp_iconst hx hb dX8_costWith_42 ?_
    refine fp_iadd hx hb dX8_costWith_43 ?_
    refine lv_aload_n hx hb dX8_costWith_44 rfl (lv_at hl 2 rfl) ?_
    refine va_get (D := D) (ci := 8) (ws := [(v, .inr (8, [.ref a0, .ref a1, .ref a2, .ref a3, .int (iI (e4)), .ref a5, .int (iI (e6)), .ref a7, .int (iI (p + (ch / (mostC (cM m) k + 1)) + lenC (cM m) k)), .int (iI (msT (cM m) (cM m (49 + 0)) k p s (ch / (mostC (cM m) k + 1)) (ch % (mostC (cM m) k + 1)))), .int (iI (mcT (cM m) (cM m (49 + 0)) k p s (ch / (mostC (cM m) k + 1)) (ch % (mostC (cM m) k + 1)))), .ref a11, .int (iI (e12)), .int (iI (e13)), .int (iI (e14)), .ref a15])), (a0, fA cyI 54 m), (a7, fA cyI 3328 le)]) (v := .int (iI (p + (ch / (mostC (cM m) k + 1)) + lenC (cM m) k))) (C := RX8) (T := TX8) (N := 16) hx hb hts (fun _ h => List.mem_cons_of_mem _ (List.mem_append_right _ h)) hown hK.1 hP 0 rfl rfl 8 (by decide) (hts _ fl_X8_costWith_111) (fun _ h9 => h9) rfl dX8_costWith_45 ?_
    refine lv_aload_n hx hb dX8_costWith_48 rfl (lv_at hl 2 rfl) ?_
    refine va_get (D := D) (ci := 8) (ws := [(v, .inr (8, [.ref a0, .ref a1, .ref a2, .ref a3, .int (iI (e4)), .ref a5, .int (iI (e6)), .ref a7, .int (iI (p + (ch / (mostC (cM m) k + 1)) + lenC (cM m) k)), .int (iI (msT (cM m) (cM m (49 + 0)) k p s (ch / (mostC (cM m) k + 1)) (ch % (mostC (cM m) k + 1)))), .int (iI (mcT (cM m) (cM m (49 + 0)) k p s (ch / (mostC (cM m) k + 1)) (ch % (mostC (cM m) k + 1)))), .ref a11, .int (iI (e12)), .int (iI (e13)), .int (iI (e14)), .ref a15])), (a0, fA cyI 54 m), (a7, fA cyI 3328 le)]) (v := .int (iI (msT (cM m) (cM m (49 + 0)) k p s (ch / (mostC (cM m) k + 1)) (ch % (mostC (cM m) k + 1))))) (C := RX8) (T := TX8) (N := 16) hx hb hts (fun _ h => List.mem_cons_of_mem _ (List.mem_append_right _ h)) hown hK.1 hP 0 rfl rfl 9 (by decide) (hts _ fl_X8_costWith_117) (fun _ h9 => h9) rfl dX8_costWith_49 ?_
    refine fp_pS (As := [.int (iI (k + 1)), .int (iI (p + (ch / (mostC (cM m) k + 1)) + lenC (cM m) k)), .int (iI (msT (cM m) (cM m (49 + 0)) k p s (ch / (mostC (cM m) k + 1)) (ch % (mostC (cM m) k + 1))))]) (rest := [.ref a7, .int (iI (mcT (cM m) (cM m (49 + 0)) k p s (ch / (mostC (cM m) k + 1)) (ch % (mostC (cM m) k + 1))))]) (wsC := [(v, .inr (8, [.ref a0, .ref a1, .ref a2, .ref a3, .int (iI (e4)), .ref a5, .int (iI (e6)), .ref a7, .int (iI (p + (ch / (mostC (cM m) k + 1)) + lenC (cM m) k)), .int (iI (msT (cM m) (cM m (49 + 0)) k p s (ch / (mostC (cM m) k + 1)) (ch % (mostC (cM m) k + 1)))), .int (iI (mcT (cM m) (cM m (49 + 0)) k p s (ch / (mostC (cM m) k + 1)) (ch % (mostC (cM m) k + 1)))), .ref a11, .int (iI (e12)), .int (iI (e13)), .int (iI (e14)), .ref a15])), (a0, fA cyI 54 m), (a7, fA cyI 3328 le)]) ⟨hx, hb, hml, hown, hts⟩ (c_X8_stateOf l D cyI (k + 1) (p + (ch / (mostC (cM m) k + 1)) + lenC (cM m) k) (msT (cM m) (cM m (49 + 0)) k p s (ch / (mostC (cM m) k + 1)) (ch % (mostC (cM m) k + 1)))) (va_cwS 3 hts gX8_costWith_X8_stateOf rfl rfl rfl (by decide +kernel) ⟨Nat.le_of_ble_eq_true rfl, Nat.le_of_ble_eq_true rfl⟩) hK hP hD [] (by decide) rfl rfl hl.1 rfl (Nat.le_of_ble_eq_true rfl) dX8_costWith_52 ⟨Nat.zero_le _, Nat.zero_le _⟩ ?_
    refine fp_iald (wsC := [(v, .inr (8, [.ref a0, .ref a1, .ref a2, .ref a3, .int (iI (e4)), .ref a5, .int (iI (e6)), .ref a7, .int (iI (p + (ch / (mostC (cM m) k + 1)) + lenC (cM m) k)), .int (iI (msT (cM m) (cM m (49 + 0)) k p s (ch / (mostC (cM m) k + 1)) (ch % (mostC (cM m) k + 1)))), .int (iI (mcT (cM m) (cM m (49 + 0)) k p s (ch / (mostC (cM m) k + 1)) (ch % (mostC (cM m) k + 1)))), .ref a11, .int (iI (e12)), .int (iI (e13)), .int (iI (e14)), .ref a15])), (a0, fA cyI 54 m), (a7, fA cyI 3328 le)]) hx hb hK hP 2 rfl (by omega) (by decide) dX8_costWith_55 ?_
    refine fp_iadd hx hb dX8_costWith_56 ?_
    refine lv_goto (tgt := 62) hx hb dX8_costWith_57 (by decide) ?_
    have hP : va_P D vwCl [(v, .inr (8, [.ref a0, .ref a1, .ref a2, .ref a3, .int (iI (e4)), .ref a5, .int (iI (e6)), .ref a7, .int (iI (p + ch / (mostC (cM m) k + 1) + lenC (cM m) k)), .int (iI (msT (cM m) (cM m (49 + 0)) k p s (ch / (mostC (cM m) k + 1)) (ch % (mostC (cM m) k + 1)))), .int (iI (mcT (cM m) (cM m (49 + 0)) k p s (ch / (mostC (cM m) k + 1)) (ch % (mostC (cM m) k + 1)))), .ref a11, .int (iI (e12)), .int (iI (e13)), .int (iI (e14)), .ref a15])), (a0, fA cyI 54 m), (a7, fA cyI 3328 le)] H := by
      rw [(show (p + (ch / (mostC (cM m) k + 1)) + lenC (cM m) k : Int) = p + ch / (mostC (cM m) k + 1) + lenC (cM m) k from (by first | rfl | omega)).symm]
      exact hP
    have hret : (mwR (cM m) (cM m (49 + 0)) le k p s ch : Int) = (mcT (cM m) (cM m (49 + 0)) k p s (ch / (mostC (cM m) k + 1)) (ch % (mostC (cM m) k + 1))) + (le (256 * (k + 1) + 4 * (p + (ch / (mostC (cM m) k + 1)) + lenC (cM m) k) + (msT (cM m) (cM m (49 + 0)) k p s (ch / (mostC (cM m) k + 1)) (ch % (mostC (cM m) k + 1))))) := (by unfold mwR mwV; first | rw [if_neg (by omega)] | rw [if_pos (by omega)])
    exact fp_wret () hx hb hr hlocks hS hP trivial (congrArg (fun z : Int => some (Value.int (iI z))) hret) dX8_costWith_62
theorem fl_X8_findsLeast_7 : Cond.fieldLink RX8 7 "FacingPlatesModel" "all" "[I" ∈ wsX8_findsLeast := by decide +kernel
theorem ck_X8_findsLeast_130 : Cond.constant RX8 130 (10000000) ∈ wsX8_findsLeast := by decide +kernel
theorem fl_X8_findsLeast_25 : Cond.fieldLink RX8 25 "FacingPlatesModel" "least" "[I" ∈ wsX8_findsLeast := by decide +kernel
set_option maxHeartbeats 4000000 in
set_option maxRecDepth 100000 in
theorem c_X8_findsLeast (l : Launch) (D : va_G) (cyI : ClassId) (v : Nat) (a0 : Nat) (a1 : Nat) (a2 : Nat) (a3 : Nat) (e4 : Int) (a5 : Nat) (e6 : Int) (a7 : Nat) (e8 : Int) (e9 : Int) (e10 : Int) (a11 : Nat) (e12 : Int) (e13 : Int) (e14 : Int) (a15 : Nat) (m : Int → Int) (le : Int → Int) (hC : CatOK (cM m)) : fp_MW l yX8_findsLeast wsX8_findsLeast ({ frames := 4, cells := 0, slots := 0, locals := 97 } : Room) D cyI [(v, .inr (8, [.ref a0, .ref a1, .ref a2, .ref a3, .int (iI (e4)), .ref a5, .int (iI (e6)), .ref a7, .int (iI (e8)), .int (iI (e9)), .int (iI (e10)), .ref a11, .int (iI (e12)), .int (iI (e13)), .int (iI (e14)), .ref a15])), (a0, fA cyI 54 m), (a7, fA cyI 3328 le)] [.ref v] (fun (u9 : (Int → Int) × (Int) × (Int) × (Int)) => (LmOK (cM m) (cM m (49 + 0)) u9.1 0)) (fun (u9 : (Int → Int) × (Int) × (Int) × (Int)) => none) (fun (u9 : (Int → Int) × (Int) × (Int) × (Int)) => [(v, .inr (8, [.ref a0, .ref a1, .ref a2, .ref a3, .int (iI (e4)), .ref a5, .int (iI (e6)), .ref a7, .int (iI (u9.2.1)), .int (iI (u9.2.2.1)), .int (iI (u9.2.2.2)), .ref a11, .int (iI (e12)), .int (iI (e13)), .int (iI (e14)), .ref a15])), (a0, fA cyI 54 m), (a7, fA cyI 3328 u9.1)]) := by
  refine fp_start (cc := cX8_findsLeast) (maxL := 8) (ret := none) (by decide) rfl (Nat.le_of_ble_eq_true rfl) ?_
  intro pg en sx mi ar bl mt cd ls hx hb hr hts hown hlocks hml hnm hP hK hD hl
  have hown : sx.vm.findClass RX8 = some mi.cls := hown
  have hl : lv_has ls 8 [(0, .ref v)] := hl
  have hD := fp_self hD
  have hS : va_S (fp_A [(v, .inr (8, [.ref a0, .ref a1, .ref a2, .ref a3, .int (iI (e4)), .ref a5, .int (iI (e6)), .ref a7, .int (iI (e8)), .int (iI (e9)), .int (iI (e10)), .ref a11, .int (iI (e12)), .int (iI (e13)), .int (iI (e14)), .ref a15])), (a0, fA cyI 54 m), (a7, fA cyI 3328 le)]) sx.heap sx.heap [] := va_S.rf
  have hN := hC.1
  rw [cM_0] at hN
  have hX := hC.2.2
  unfold SetOK at hX
  have eG : cM m (49 + 0) = m 0 := cM_s (by omega)
  rw [eG] at hX
  have hX0 := hX.1
  have hG : cM m (49 + 0) = 4 ∨ cM m (49 + 0) = 8 ∨ cM m (49 + 0) = 16 := by rw [eG]; exact hX0
  have e0 : cM m 0 = m 5 := cM_0 m
  refine lv_aload_n hx hb dX8_findsLeast_0 rfl (lv_at hl 0 rfl) ?_
  refine va_get (D := D) (ci := 8) (ws := [(v, .inr (8, [.ref a0, .ref a1, .ref a2, .ref a3, .int (iI (e4)), .ref a5, .int (iI (e6)), .ref a7, .int (iI (e8)), .int (iI (e9)), .int (iI (e10)), .ref a11, .int (iI (e12)), .int (iI (e13)), .int (iI (e14)), .ref a15])), (a0, fA cyI 54 m), (a7, fA cyI 3328 le)]) (v := .ref a0) (C := RX8) (T := TX8) (N := 16) hx hb hts (fun _ h => List.mem_cons_of_mem _ (List.mem_append_right _ h)) hown hK.1 hP 0 rfl rfl 0 (by decide) (hts _ fl_X8_findsLeast_7) (fun _ h9 => h9) rfl dX8_findsLeast_1 ?_
  refine fp_iconst hx hb dX8_findsLeast_4 ?_
  refine fp_iald (wsC := [(v, .inr (8, [.ref a0, .ref a1, .ref a2, .ref a3, .int (iI (e4)), .ref a5, .int (iI (e6)), .ref a7, .int (iI (e8)), .int (iI (e9)), .int (iI (e10)), .ref a11, .int (iI (e12)), .int (iI (e13)), .int (iI (e14)), .ref a15])), (a0, fA cyI 54 m), (a7, fA cyI 3328 le)]) hx hb hK hP 1 rfl (by omega) (by omega) dX8_findsLeast_5 ?_
  refine lv_istore_n (lv' := [(1, .int (iI (m 5))), (0, .ref v)]) hx hb dX8_findsLeast_6 rfl hl (by decide) rfl (fun ls hl => ?_)
  refine fp_iconst hx hb dX8_findsLeast_7 ?_
  refine lv_istore_n (lv' := [(2, .int (iI (0))), (1, .int (iI (m 5))), (0, .ref v)]) hx hb dX8_findsLeast_8 rfl hl (by decide) rfl (fun ls hl => ?_)
  have hl := lv_sub hl (l' := [(0, .ref v), (1, .int (iI (m 5))), (2, .int (iI (0)))]) [2, 1, 0] rfl
  have lp0 : ∀ (nf : Nat) (p : Int) (l2 : Int → Int), (0 ≤ p ∧ p ≤ 64) → (RowD (cM m) (cM m (49 + 0)) l2 (m 5) p 0) → (64 + 1 ≤ p + (nf : Int)) → ∀ (H : Heap) (locs : List Loc), va_P D vwCl [(v, .inr (8, [.ref a0, .ref a1, .ref a2, .ref a3, .int (iI (e4)), .ref a5, .int (iI (e6)), .ref a7, .int (iI (e8)), .int (iI (e9)), .int (iI (e10)), .ref a11, .int (iI (e12)), .int (iI (e13)), .int (iI (e14)), .ref a15])), (a0, fA cyI 54 m), (a7, fA cyI 3328 l2)] H → va_D (fp_A [(v, .inr (8, [.ref a0, .ref a1, .ref a2, .ref a3, .int (iI (e4)), .ref a5, .int (iI (e6)), .ref a7, .int (iI (e8)), .int (iI (e9)), .int (iI (e10)), .ref a11, .int (iI (e12)), .int (iI (e13)), .int (iI (e14)), .ref a15])), (a0, fA cyI 54 m), (a7, fA cyI 3328 le)]) [(v, .inr (8, [.ref a0, .ref a1, .ref a2, .ref a3, .int (iI (e4)), .ref a5, .int (iI (e6)), .ref a7, .int (iI (e8)), .int (iI (e9)), .int (iI (e10)), .ref a11, .int (iI (e12)), .int (iI (e13)), .int (iI (e14)), .ref a15])), (a0, fA cyI 54 m), (a7, fA cyI 3328 l2)] → va_S (fp_A [(v, .inr (8, [.ref a0, .ref a1, .ref a2, .ref a3, .int (iI (e4)), .ref a5, .int (iI (e6)), .ref a7, .int (iI (e8)), .int (iI (e9)), .int (iI (e10)), .ref a11, .int (iI (e12)), .int (iI (e13)), .int (iI (e14)), .ref a15])), (a0, fA cyI 54 m), (a7, fA cyI 3328 le)]) sx.heap H locs → ∀ (ls : Array Slot), lv_has ls 8 [(0, .ref v), (1, .int (iI (m 5))), (2, .int (iI (p)))] → W pg l en ({ frames := 4, cells := 0, slots := 0, locals := 97 } : Room) sx mi ar bl mt cd H locs 0 0 (MQ bl (fp_Qw D [(v, .inr (8, [.ref a0, .ref a1, .ref a2, .ref a3, .int (iI (e4)), .ref a5, .int (iI (e6)), .ref a7, .int (iI (e8)), .int (iI (e9)), .int (iI (e10)), .ref a11, .int (iI (e12)), .int (iI (e13)), .int (iI (e14)), .ref a15])), (a0, fA cyI 54 m), (a7, fA cyI 3328 le)] (fun (u9 : (Int → Int) × (Int) × (Int) × (Int)) => (LmOK (cM m) (cM m (49 + 0)) u9.1 0)) (fun (u9 : (Int → Int) × (Int) × (Int) × (Int)) => none) (fun (u9 : (Int → Int) × (Int) × (Int) × (Int)) => [(v, .inr (8, [.ref a0, .ref a1, .ref a2, .ref a3, .int (iI (e4)), .ref a5, .int (iI (e6)), .ref a7, .int (iI (u9.2.1)), .int (iI (u9.2.2.1)), .int (iI (u9.2.2.2)), .ref a11, .int (iI (e12)), .int (iI (e13)), .int (iI (e14)), .ref a15])), (a0, fA cyI 54 m), (a7, fA cyI 3328 u9.1)])) ar sx 0 0 (fp_A [(v, .inr (8, [.ref a0, .ref a1, .ref a2, .ref a3, .int (iI (e4)), .ref a5, .int (iI (e6)), .ref a7, .int (iI (e8)), .int (iI (e9)), .int (iI (e10)), .ref a11, .int (iI (e12)), .int (iI (e13)), .int (iI (e14)), .ref a15])), (a0, fA cyI 54 m), (a7, fA cyI 3328 le)])) (F0 mi 9 ls []) := by
    intro nf
    induction nf with
    | zero =>
      intro p l2 ip jd hfuel
      exact absurd hfuel (by omega)
    | succ nf ih0 =>
      intro p l2 ip jd hfuel H locs hP hD hS ls hl
      refine lv_iload_n hx hb dX8_findsLeast_9 rfl (lv_at hl 2 rfl) ?_
      refine fp_bipush hx hb dX8_findsLeast_10 (by decide) ?_
      refine fp_icmp_ge (tgt := 56) hx hb (by omega) dX8_findsLeast_12 (by decide) (fun q12 => ?_) (fun q12 => ?_)
      · skip
        refine lv_iload_n hx hb dX8_findsLeast_56 rfl (lv_at hl 1 rfl) ?_
        refine fp_iconst hx hb dX8_findsLeast_57 ?_
        refine fp_isub hx hb dX8_findsLeast_58 ?_
        refine lv_istore_n (lv' := [(2, .int (iI ((m 5) - 1))), (0, .ref v), (1, .int (iI (m 5)))]) hx hb dX8_findsLeast_59 rfl hl (by decide) rfl (fun ls hl => ?_)
        have hl := lv_sub hl (l' := [(0, .ref v), (1, .int (iI (m 5))), (2, .int (iI ((m 5) - 1)))]) [1, 2, 0] rfl
        have lp2 : ∀ (nf : Nat) (k : Int) (l2 : Int → Int) (z8 : Int) (z9 : Int) (z10 : Int), (-1 ≤ k ∧ k < m 5) → (LmOK (cM m) (cM m (49 + 0)) l2 (k + 1)) → (k + 2 ≤ (nf : Int)) → ∀ (H : Heap) (locs : List Loc), va_P D vwCl [(v, .inr (8, [.ref a0, .ref a1, .ref a2, .ref a3, .int (iI (e4)), .ref a5, .int (iI (e6)), .ref a7, .int (iI (z8)), .int (iI (z9)), .int (iI (z10)), .ref a11, .int (iI (e12)), .int (iI (e13)), .int (iI (e14)), .ref a15])), (a0, fA cyI 54 m), (a7, fA cyI 3328 l2)] H → va_D (fp_A [(v, .inr (8, [.ref a0, .ref a1, .ref a2, .ref a3, .int (iI (e4)), .ref a5, .int (iI (e6)), .ref a7, .int (iI (e8)), .int (iI (e9)), .int (iI (e10)), .ref a11, .int (iI (e12)), .int (iI (e13)), .int (iI (e14)), .ref a15])), (a0, fA cyI 54 m), (a7, fA cyI 3328 le)]) [(v, .inr (8, [.ref a0, .ref a1, .ref a2, .ref a3, .int (iI (e4)), .ref a5, .int (iI (e6)), .ref a7, .int (iI (z8)), .int (iI (z9)), .int (iI (z10)), .ref a11, .int (iI (e12)), .int (iI (e13)), .int (iI (e14)), .ref a15])), (a0, fA cyI 54 m), (a7, fA cyI 3328 l2)] → va_S (fp_A [(v, .inr (8, [.ref a0, .ref a1, .ref a2, .ref a3, .int (iI (e4)), .ref a5, .int (iI (e6)), .ref a7, .int (iI (e8)), .int (iI (e9)), .int (iI (e10)), .ref a11, .int (iI (e12)), .int (iI (e13)), .int (iI (e14)), .ref a15])), (a0, fA cyI 54 m), (a7, fA cyI 3328 le)]) sx.heap H locs → ∀ (ls : Array Slot), lv_has ls 8 [(0, .ref v), (1, .int (iI (m 5))), (2, .int (iI (k)))] → W pg l en ({ frames := 4, cells := 0, slots := 0, locals := 97 } : Room) sx mi ar bl mt cd H locs 0 0 (MQ bl (fp_Qw D [(v, .inr (8, [.ref a0, .ref a1, .ref a2, .ref a3, .int (iI (e4)), .ref a5, .int (iI (e6)), .ref a7, .int (iI (e8)), .int (iI (e9)), .int (iI (e10)), .ref a11, .int (iI (e12)), .int (iI (e13)), .int (iI (e14)), .ref a15])), (a0, fA cyI 54 m), (a7, fA cyI 3328 le)] (fun (u9 : (Int → Int) × (Int) × (Int) × (Int)) => (LmOK (cM m) (cM m (49 + 0)) u9.1 0)) (fun (u9 : (Int → Int) × (Int) × (Int) × (Int)) => none) (fun (u9 : (Int → Int) × (Int) × (Int) × (Int)) => [(v, .inr (8, [.ref a0, .ref a1, .ref a2, .ref a3, .int (iI (e4)), .ref a5, .int (iI (e6)), .ref a7, .int (iI (u9.2.1)), .int (iI (u9.2.2.1)), .int (iI (u9.2.2.2)), .ref a11, .int (iI (e12)), .int (iI (e13)), .int (iI (e14)), .ref a15])), (a0, fA cyI 54 m), (a7, fA cyI 3328 u9.1)])) ar sx 0 0 (fp_A [(v, .inr (8, [.ref a0, .ref a1, .ref a2, .ref a3, .int (iI (e4)), .ref a5, .int (iI (e6)), .ref a7, .int (iI (e8)), .int (iI (e9)), .int (iI (e10)), .ref a11, .int (iI (e12)), .int (iI (e13)), .int (iI (e14)), .ref a15])), (a0, fA cyI 54 m), (a7, fA cyI 3328 le)])) (F0 mi 60 ls []) := by
          intro nf
          induction nf with
          | zero =>
            intro k l2 z8 z9 z10 ik jL hfuel
            exact absurd hfuel (by omega)
          | succ nf ih2 =>
            intro k l2 z8 z9 z10 ik jL hfuel H locs hP hD hS ls hl
            refine lv_iload_n hx hb dX8_findsLeast_60 rfl (lv_at hl 2 rfl) ?_
            refine fp_if_lt (tgt := 165) hx hb (by omega) dX8_findsLeast_61 (by decide) (fun q61 => ?_) (fun q61 => ?_)
            · skip
              have hLz : LmOK (cM m) (cM m (49 + 0)) l2 0 := by
                have ek : k + 1 = 0 := by omega
                rw [ek] at jL
                exact jL
              exact fp_wvret (l2, z8, z9, z10) hx hb hr hlocks hS hP hLz rfl dX8_findsLeast_165
            · skip
              refine fp_iconst hx hb dX8_findsLeast_64 ?_
              refine lv_istore_n (lv' := [(3, .int (iI (0))), (0, .ref v), (1, .int (iI (m 5))), (2, .int (iI (k)))]) hx hb dX8_findsLeast_65 rfl hl (by decide) rfl (fun ls hl => ?_)
              have hl := lv_sub hl (l' := [(0, .ref v), (1, .int (iI (m 5))), (2, .int (iI (k))), (3, .int (iI (0)))]) [1, 2, 3, 0] rfl
              have lp4 : ∀ (nf : Nat) (p : Int) (l2 : Int → Int) (z8 : Int) (z9 : Int) (z10 : Int), (0 ≤ p ∧ p ≤ 5 * k + 1) → (RowD (cM m) (cM m (49 + 0)) l2 k p 0) → ((5 * k + 1) + 1 ≤ p + (nf : Int)) → ∀ (H : Heap) (locs : List Loc), va_P D vwCl [(v, .inr (8, [.ref a0, .ref a1, .ref a2, .ref a3, .int (iI (e4)), .ref a5, .int (iI (e6)), .ref a7, .int (iI (z8)), .int (iI (z9)), .int (iI (z10)), .ref a11, .int (iI (e12)), .int (iI (e13)), .int (iI (e14)), .ref a15])), (a0, fA cyI 54 m), (a7, fA cyI 3328 l2)] H → va_D (fp_A [(v, .inr (8, [.ref a0, .ref a1, .ref a2, .ref a3, .int (iI (e4)), .ref a5, .int (iI (e6)), .ref a7, .int (iI (e8)), .int (iI (e9)), .int (iI (e10)), .ref a11, .int (iI (e12)), .int (iI (e13)), .int (iI (e14)), .ref a15])), (a0, fA cyI 54 m), (a7, fA cyI 3328 le)]) [(v, .inr (8, [.ref a0, .ref a1, .ref a2, .ref a3, .int (iI (e4)), .ref a5, .int (iI (e6)), .ref a7, .int (iI (z8)), .int (iI (z9)), .int (iI (z10)), .ref a11, .int (iI (e12)), .int (iI (e13)), .int (iI (e14)), .ref a15])), (a0, fA cyI 54 m), (a7, fA cyI 3328 l2)] → va_S (fp_A [(v, .inr (8, [.ref a0, .ref a1, .ref a2, .ref a3, .int (iI (e4)), .ref a5, .int (iI (e6)), .ref a7, .int (iI (e8)), .int (iI (e9)), .int (iI (e10)), .ref a11, .int (iI (e12)), .int (iI (e13)), .int (iI (e14)), .ref a15])), (a0, fA cyI 54 m), (a7, fA cyI 3328 le)]) sx.heap H locs → ∀ (ls : Array Slot), lv_has ls 8 [(0, .ref v), (1, .int (iI (m 5))), (2, .int (iI (k))), (3, .int (iI (p)))] → W pg l en ({ frames := 4, cells := 0, slots := 0, locals := 97 } : Room) sx mi ar bl mt cd H locs 0 0 (MQ bl (fp_Qw D [(v, .inr (8, [.ref a0, .ref a1, .ref a2, .ref a3, .int (iI (e4)), .ref a5, .int (iI (e6)), .ref a7, .int (iI (e8)), .int (iI (e9)), .int (iI (e10)), .ref a11, .int (iI (e12)), .int (iI (e13)), .int (iI (e14)), .ref a15])), (a0, fA cyI 54 m), (a7, fA cyI 3328 le)] (fun (u9 : (Int → Int) × (Int) × (Int) × (Int)) => (LmOK (cM m) (cM m (49 + 0)) u9.1 0)) (fun (u9 : (Int → Int) × (Int) × (Int) × (Int)) => none) (fun (u9 : (Int → Int) × (Int) × (Int) × (Int)) => [(v, .inr (8, [.ref a0, .ref a1, .ref a2, .ref a3, .int (iI (e4)), .ref a5, .int (iI (e6)), .ref a7, .int (iI (u9.2.1)), .int (iI (u9.2.2.1)), .int (iI (u9.2.2.2)), .ref a11, .int (iI (e12)), .int (iI (e13)), .int (iI (e14)), .ref a15])), (a0, fA cyI 54 m), (a7, fA cyI 3328 u9.1)])) ar sx 0 0 (fp_A [(v, .inr (8, [.ref a0, .ref a1, .ref a2, .ref a3, .int (iI (e4)), .ref a5, .int (iI (e6)), .ref a7, .int (iI (e8)), .int (iI (e9)), .int (iI (e10)), .ref a11, .int (iI (e12)), .int (iI (e13)), .int (iI (e14)), .ref a15])), (a0, fA cyI 54 m), (a7, fA cyI 3328 le)])) (F0 mi 66 ls []) := by
                intro nf
                induction nf with
                | zero =>
                  intro p l2 z8 z9 z10 ip jd hfuel
                  exact absurd hfuel (by omega)
                | succ nf ih4 =>
                  intro p l2 z8 z9 z10 ip jd hfuel H locs hP hD hS ls hl
                  refine lv_iload_n hx hb dX8_findsLeast_66 rfl (lv_at hl 3 rfl) ?_
                  refine fp_iconst hx hb dX8_findsLeast_67 ?_
                  refine lv_iload_n hx hb dX8_findsLeast_68 rfl (lv_at hl 2 rfl) ?_
                  refine fp_imul hx hb dX8_findsLeast_69 ?_
                  refine fp_icmp_gt (tgt := 159) hx hb (by omega) dX8_findsLeast_70 (by decide) (fun q70 => ?_) (fun q70 => ?_)
                  · skip
                    refine fp_iinc (k := 2) (lv' := [(2, .int (iI (k + (-1)))), (0, .ref v), (1, .int (iI (m 5))), (3, .int (iI (p)))]) hx hb dX8_findsLeast_159 hl rfl (by decide) rfl (fun ls hl => ?_)
                    refine lv_goto (tgt := 60) hx hb dX8_findsLeast_162 (by decide) ?_
                    have hL3 : LmOK (cM m) (cM m (49 + 0)) l2 (k + (-1) + 1) := by rw [show k + (-1) + 1 = k by omega]; exact RowD_e jd (by omega)
                    exact ih2 (k + (-1)) l2 z8 z9 z10 (by omega) hL3 (by omega) H locs hP hD hS ls (lv_sub hl [1, 2, 0] rfl)
                  · skip
                    refine fp_iconst hx hb dX8_findsLeast_73 ?_
                    refine lv_istore (lv' := [(4, .int (iI (0))), (0, .ref v), (1, .int (iI (m 5))), (2, .int (iI (k))), (3, .int (iI (p)))]) hx hb dX8_findsLeast_74 hl (by decide) rfl (fun ls hl => ?_)
                    have hl := lv_sub hl (l' := [(0, .ref v), (1, .int (iI (m 5))), (2, .int (iI (k))), (3, .int (iI (p))), (4, .int (iI (0)))]) [1, 2, 3, 4, 0] rfl
                    have lp6 : ∀ (nf : Nat) (s : Int) (l2 : Int → Int) (z8 : Int) (z9 : Int) (z10 : Int), (0 ≤ s ∧ s ≤ 4) → (RowD (cM m) (cM m (49 + 0)) l2 k p s) → (4 + 1 ≤ s + (nf : Int)) → ∀ (H : Heap) (locs : List Loc), va_P D vwCl [(v, .inr (8, [.ref a0, .ref a1, .ref a2, .ref a3, .int (iI (e4)), .ref a5, .int (iI (e6)), .ref a7, .int (iI (z8)), .int (iI (z9)), .int (iI (z10)), .ref a11, .int (iI (e12)), .int (iI (e13)), .int (iI (e14)), .ref a15])), (a0, fA cyI 54 m), (a7, fA cyI 3328 l2)] H → va_D (fp_A [(v, .inr (8, [.ref a0, .ref a1, .ref a2, .ref a3, .int (iI (e4)), .ref a5, .int (iI (e6)), .ref a7, .int (iI (e8)), .int (iI (e9)), .int (iI (e10)), .ref a11, .int (iI (e12)), .int (iI (e13)), .int (iI (e14)), .ref a15])), (a0, fA cyI 54 m), (a7, fA cyI 3328 le)]) [(v, .inr (8, [.ref a0, .ref a1, .ref a2, .ref a3, .int (iI (e4)), .ref a5, .int (iI (e6)), .ref a7, .int (iI (z8)), .int (iI (z9)), .int (iI (z10)), .ref a11, .int (iI (e12)), .int (iI (e13)), .int (iI (e14)), .ref a15])), (a0, fA cyI 54 m), (a7, fA cyI 3328 l2)] → va_S (fp_A [(v, .inr (8, [.ref a0, .ref a1, .ref a2, .ref a3, .int (iI (e4)), .ref a5, .int (iI (e6)), .ref a7, .int (iI (e8)), .int (iI (e9)), .int (iI (e10)), .ref a11, .int (iI (e12)), .int (iI (e13)), .int (iI (e14)), .ref a15])), (a0, fA cyI 54 m), (a7, fA cyI 3328 le)]) sx.heap H locs → ∀ (ls : Array Slot), lv_has ls 8 [(0, .ref v), (1, .int (iI (m 5))), (2, .int (iI (k))), (3, .int (iI (p))), (4, .int (iI (s)))] → W pg l en ({ frames := 4, cells := 0, slots := 0, locals := 97 } : Room) sx mi ar bl mt cd H locs 0 0 (MQ bl (fp_Qw D [(v, .inr (8, [.ref a0, .ref a1, .ref a2, .ref a3, .int (iI (e4)), .ref a5, .int (iI (e6)), .ref a7, .int (iI (e8)), .int (iI (e9)), .int (iI (e10)), .ref a11, .int (iI (e12)), .int (iI (e13)), .int (iI (e14)), .ref a15])), (a0, fA cyI 54 m), (a7, fA cyI 3328 le)] (fun (u9 : (Int → Int) × (Int) × (Int) × (Int)) => (LmOK (cM m) (cM m (49 + 0)) u9.1 0)) (fun (u9 : (Int → Int) × (Int) × (Int) × (Int)) => none) (fun (u9 : (Int → Int) × (Int) × (Int) × (Int)) => [(v, .inr (8, [.ref a0, .ref a1, .ref a2, .ref a3, .int (iI (e4)), .ref a5, .int (iI (e6)), .ref a7, .int (iI (u9.2.1)), .int (iI (u9.2.2.1)), .int (iI (u9.2.2.2)), .ref a11, .int (iI (e12)), .int (iI (e13)), .int (iI (e14)), .ref a15])), (a0, fA cyI 54 m), (a7, fA cyI 3328 u9.1)])) ar sx 0 0 (fp_A [(v, .inr (8, [.ref a0, .ref a1, .ref a2, .ref a3, .int (iI (e4)), .ref a5, .int (iI (e6)), .ref a7, .int (iI (e8)), .int (iI (e9)), .int (iI (e10)), .ref a11, .int (iI (e12)), .int (iI (e13)), .int (iI (e14)), .ref a15])), (a0, fA cyI 54 m), (a7, fA cyI 3328 le)])) (F0 mi 76 ls []) := by
                      intro nf
                      induction nf with
                      | zero =>
                        intro s l2 z8 z9 z10 is9 jd2 hfuel
                        exact absurd hfuel (by omega)
                      | succ nf ih6 =>
                        intro s l2 z8 z9 z10 is9 jd2 hfuel H locs hP hD hS ls hl
                        refine lv_iload hx hb dX8_findsLeast_76 (lv_at hl 4 rfl) ?_
                        refine fp_iconst hx hb dX8_findsLeast_78 ?_
                        refine fp_icmp_ge (tgt := 153) hx hb (by omega) dX8_findsLeast_79 (by decide) (fun q79 => ?_) (fun q79 => ?_)
                        · skip
                          refine fp_iinc (k := 3) (lv' := [(3, .int (iI (p + 1))), (0, .ref v), (1, .int (iI (m 5))), (2, .int (iI (k))), (4, .int (iI (s)))]) hx hb dX8_findsLeast_153 hl rfl (by decide) rfl (fun ls hl => ?_)
                          refine lv_goto (tgt := 66) hx hb dX8_findsLeast_156 (by decide) ?_
                          exact ih4 (p + 1) l2 z8 z9 z10 (by omega) (RowD_p jd2 (by omega)) (by omega) H locs hP hD hS ls (lv_sub hl [1, 2, 3, 0] rfl)
                        · skip
                          have hk : 0 ≤ k ∧ k < m 5 := by omega
                          have hM := most_rg hC (k := k) (by rw [cM_0]; exact hk)
                          refine fp_ldc hx hb (10000000) rfl hown (hts _ ck_X8_findsLeast_130) dX8_findsLeast_82 ?_
                          refine lv_istore (lv' := [(5, .int (iI (10000000))), (0, .ref v), (1, .int (iI (m 5))), (2, .int (iI (k))), (3, .int (iI (p))), (4, .int (iI (s)))]) hx hb dX8_findsLeast_84 hl (by decide) rfl (fun ls hl => ?_)
                          refine fp_iconst hx hb dX8_findsLeast_86 ?_
                          refine lv_istore (lv' := [(6, .int (iI (0))), (5, .int (iI (10000000))), (0, .ref v), (1, .int (iI (m 5))), (2, .int (iI (k))), (3, .int (iI (p))), (4, .int (iI (s)))]) hx hb dX8_findsLeast_87 hl (by decide) rfl (fun ls hl => ?_)
                          have hl := lv_sub hl (l' := [(0, .ref v), (1, .int (iI (m 5))), (2, .int (iI (k))), (3, .int (iI (p))), (4, .int (iI (s))), (5, .int (iI (10000000))), (6, .int (iI (0)))]) [2, 3, 4, 5, 6, 1, 0] rfl
                          have lp8 : ∀ (nf : Nat) (x : Int) (ch : Int) (z8 : Int) (z9 : Int) (z10 : Int), (0 ≤ ch ∧ ch ≤ 2 * (mostC (cM m) k + 1)) → (x = mnI (mwR (cM m) (cM m (49 + 0)) l2 k p s) ch.toNat 10000000) → (2 * (mostC (cM m) k + 1) + 1 ≤ ch + (nf : Int)) → ∀ (H : Heap) (locs : List Loc), va_P D vwCl [(v, .inr (8, [.ref a0, .ref a1, .ref a2, .ref a3, .int (iI (e4)), .ref a5, .int (iI (e6)), .ref a7, .int (iI (z8)), .int (iI (z9)), .int (iI (z10)), .ref a11, .int (iI (e12)), .int (iI (e13)), .int (iI (e14)), .ref a15])), (a0, fA cyI 54 m), (a7, fA cyI 3328 l2)] H → va_D (fp_A [(v, .inr (8, [.ref a0, .ref a1, .ref a2, .ref a3, .int (iI (e4)), .ref a5, .int (iI (e6)), .ref a7, .int (iI (e8)), .int (iI (e9)), .int (iI (e10)), .ref a11, .int (iI (e12)), .int (iI (e13)), .int (iI (e14)), .ref a15])), (a0, fA cyI 54 m), (a7, fA cyI 3328 le)]) [(v, .inr (8, [.ref a0, .ref a1, .ref a2, .ref a3, .int (iI (e4)), .ref a5, .int (iI (e6)), .ref a7, .int (iI (z8)), .int (iI (z9)), .int (iI (z10)), .ref a11, .int (iI (e12)), .int (iI (e13)), .int (iI (e14)), .ref a15])), (a0, fA cyI 54 m), (a7, fA cyI 3328 l2)] → va_S (fp_A [(v, .inr (8, [.ref a0, .ref a1, .ref a2, .ref a3, .int (iI (e4)), .ref a5, .int (iI (e6)), .ref a7, .int (iI (e8)), .int (iI (e9)), .int (iI (e10)), .ref a11, .int (iI (e12)), .int (iI (e13)), .int (iI (e14)), .ref a15])), (a0, fA cyI 54 m), (a7, fA cyI 3328 le)]) sx.heap H locs → ∀ (ls : Array Slot), lv_has ls 8 [(0, .ref v), (1, .int (iI (m 5))), (2, .int (iI (k))), (3, .int (iI (p))), (4, .int (iI (s))), (5, .int (iI (x))), (6, .int (iI (ch)))] → W pg l en ({ frames := 4, cells := 0, slots := 0, locals := 97 } : Room) sx mi ar bl mt cd H locs 0 0 (MQ bl (fp_Qw D [(v, .inr (8, [.ref a0, .ref a1, .ref a2, .ref a3, .int (iI (e4)), .ref a5, .int (iI (e6)), .ref a7, .int (iI (e8)), .int (iI (e9)), .int (iI (e10)), .ref a11, .int (iI (e12)), .int (iI (e13)), .int (iI (e14)), .ref a15])), (a0, fA cyI 54 m), (a7, fA cyI 3328 le)] (fun (u9 : (Int → Int) × (Int) × (Int) × (Int)) => (LmOK (cM m) (cM m (49 + 0)) u9.1 0)) (fun (u9 : (Int → Int) × (Int) × (Int) × (Int)) => none) (fun (u9 : (Int → Int) × (Int) × (Int) × (Int)) => [(v, .inr (8, [.ref a0, .ref a1, .ref a2, .ref a3, .int (iI (e4)), .ref a5, .int (iI (e6)), .ref a7, .int (iI (u9.2.1)), .int (iI (u9.2.2.1)), .int (iI (u9.2.2.2)), .ref a11, .int (iI (e12)), .int (iI (e13)), .int (iI (e14)), .ref a15])), (a0, fA cyI 54 m), (a7, fA cyI 3328 u9.1)])) ar sx 0 0 (fp_A [(v, .inr (8, [.ref a0, .ref a1, .ref a2, .ref a3, .int (iI (e4)), .ref a5, .int (iI (e6)), .ref a7, .int (iI (e8)), .int (iI (e9)), .int (iI (e10)), .ref a11, .int (iI (e12)), .int (iI (e13)), .int (iI (e14)), .ref a15])), (a0, fA cyI 54 m), (a7, fA cyI 3328 le)])) (F0 mi 89 ls []) := by
                            intro nf
                            induction nf with
                            | zero =>
                              intro x ch z8 z9 z10 ic ix hfuel
                              exact absurd hfuel (by omega)
                            | succ nf ih8 =>
                              intro x ch z8 z9 z10 ic ix hfuel H locs hP hD hS ls hl
                              have hrw : ∀ i9 : Int, 0 ≤ i9 → i9 < 2 * (mostC (cM m) k + 1) → 0 ≤ mwR (cM m) (cM m (49 + 0)) l2 k p s i9 ∧ mwR (cM m) (cM m (49 + 0)) l2 k p s i9 ≤ 10000198 := fun i9 a1 a2 => mwR_rg hC hG (by omega) (by omega) (by omega) ⟨a1, a2⟩ jd2.1
                              have hxr : 0 ≤ x ∧ x ≤ 10000000 := by
                                rw [ix]
                                exact mnI_up _ (fun i9 a1 a2 => (hrw i9 a1 (by omega)).1) (by omega)
                              refine lv_iload hx hb dX8_findsLeast_89 (lv_at hl 6 rfl) ?_
                              refine lv_aload_n hx hb dX8_findsLeast_91 rfl (lv_at hl 0 rfl) ?_
                              refine lv_iload_n hx hb dX8_findsLeast_92 rfl (lv_at hl 2 rfl) ?_
                              refine fp_pV (As := [.int (iI (k))]) (rest := [.int (iI (ch))]) (wsC := [(v, .inr (8, [.ref a0, .ref a1, .ref a2, .ref a3, .int (iI (e4)), .ref a5, .int (iI (e6)), .ref a7, .int (iI (z8)), .int (iI (z9)), .int (iI (z10)), .ref a11, .int (iI (e12)), .int (iI (e13)), .int (iI (e14)), .ref a15])), (a0, fA cyI 54 m), (a7, fA cyI 3328 l2)]) ⟨hx, hb, hml, hown, hts⟩ (c_X8_choicesOf l D cyI v a0 a1 a2 a3 e4 a5 e6 a7 z8 z9 z10 a11 e12 e13 e14 a15 m k hC (by omega)) (cwV 1 hts gX8_findsLeast_X8_choicesOf rfl rfl rfl (by decide +kernel) ⟨Nat.le_of_ble_eq_true rfl, Nat.le_of_ble_eq_true rfl⟩) hK hP hD [0, 1] (by decide) rfl rfl rfl rfl hl.1 rfl (Nat.le_of_ble_eq_true rfl) dX8_findsLeast_93 ⟨Nat.zero_le _, Nat.zero_le _⟩ ?_
                              refine fp_icmp_ge (tgt := 133) hx hb (by omega) dX8_findsLeast_96 (by decide) (fun q96 => ?_) (fun q96 => ?_)
                              · skip
                                have ec : ch = 2 * (mostC (cM m) k + 1) := by omega
                                have hv : x = bsM (cM m) (cM m (49 + 0)) (cM m 0 - k).toNat k p s := by rw [ix, ec]; exact mn_bsM hC (by omega) (by omega) (by omega) jd2.1
                                refine lv_aload_n hx hb dX8_findsLeast_133 rfl (lv_at hl 0 rfl) ?_
                                refine va_get (D := D) (ci := 8) (ws := [(v, .inr (8, [.ref a0, .ref a1, .ref a2, .ref a3, .int (iI (e4)), .ref a5, .int (iI (e6)), .ref a7, .int (iI (z8)), .int (iI (z9)), .int (iI (z10)), .ref a11, .int (iI (e12)), .int (iI (e13)), .int (iI (e14)), .ref a15])), (a0, fA cyI 54 m), (a7, fA cyI 3328 l2)]) (v := .ref a7) (C := RX8) (T := TX8) (N := 16) hx hb hts (fun _ h => List.mem_cons_of_mem _ (List.mem_append_right _ h)) hown hK.1 hP 0 rfl rfl 7 (by decide) (hts _ fl_X8_findsLeast_25) (fun _ h9 => h9) rfl dX8_findsLeast_134 ?_
                                refine lv_iload_n hx hb dX8_findsLeast_137 rfl (lv_at hl 2 rfl) ?_
                                refine lv_iload_n hx hb dX8_findsLeast_138 rfl (lv_at hl 3 rfl) ?_
                                refine lv_iload hx hb dX8_findsLeast_139 (lv_at hl 4 rfl) ?_
                                refine fp_pS (As := [.int (iI (k)), .int (iI (p)), .int (iI (s))]) (rest := [.ref a7]) (wsC := [(v, .inr (8, [.ref a0, .ref a1, .ref a2, .ref a3, .int (iI (e4)), .ref a5, .int (iI (e6)), .ref a7, .int (iI (z8)), .int (iI (z9)), .int (iI (z10)), .ref a11, .int (iI (e12)), .int (iI (e13)), .int (iI (e14)), .ref a15])), (a0, fA cyI 54 m), (a7, fA cyI 3328 l2)]) ⟨hx, hb, hml, hown, hts⟩ (c_X8_stateOf l D cyI k p s) (va_cwS 3 hts gX8_findsLeast_X8_stateOf rfl rfl rfl (by decide +kernel) ⟨Nat.le_of_ble_eq_true rfl, Nat.le_of_ble_eq_true rfl⟩) hK hP hD [] (by decide) rfl rfl hl.1 rfl (Nat.le_of_ble_eq_true rfl) dX8_findsLeast_141 ⟨Nat.zero_le _, Nat.zero_le _⟩ ?_
                                refine lv_iload hx hb dX8_findsLeast_144 (lv_at hl 5 rfl) ?_
                                refine fp_iast (wsC := [(v, .inr (8, [.ref a0, .ref a1, .ref a2, .ref a3, .int (iI (e4)), .ref a5, .int (iI (e6)), .ref a7, .int (iI (z8)), .int (iI (z9)), .int (iI (z10)), .ref a11, .int (iI (e12)), .int (iI (e13)), .int (iI (e14)), .ref a15])), (a0, fA cyI 54 m), (a7, fA cyI 3328 l2)]) hx hb hK hP hD hS 2 rfl (by omega) (by decide) dX8_findsLeast_146 (fun H locs hP hD hS => ?_)
                                have hP : va_P D vwCl [(v, .inr (8, [.ref a0, .ref a1, .ref a2, .ref a3, .int (iI (e4)), .ref a5, .int (iI (e6)), .ref a7, .int (iI (z8)), .int (iI (z9)), .int (iI (z10)), .ref a11, .int (iI (e12)), .int (iI (e13)), .int (iI (e14)), .ref a15])), (a0, fA cyI 54 m), (a7, fA cyI 3328 (upI (l2) (256 * k + 4 * p + s) (x)))] H := hP
                                have hD : va_D (fp_A [(v, .inr (8, [.ref a0, .ref a1, .ref a2, .ref a3, .int (iI (e4)), .ref a5, .int (iI (e6)), .ref a7, .int (iI (e8)), .int (iI (e9)), .int (iI (e10)), .ref a11, .int (iI (e12)), .int (iI (e13)), .int (iI (e14)), .ref a15])), (a0, fA cyI 54 m), (a7, fA cyI 3328 le)]) [(v, .inr (8, [.ref a0, .ref a1, .ref a2, .ref a3, .int (iI (e4)), .ref a5, .int (iI (e6)), .ref a7, .int (iI (z8)), .int (iI (z9)), .int (iI (z10)), .ref a11, .int (iI (e12)), .int (iI (e13)), .int (iI (e14)), .ref a15])), (a0, fA cyI 54 m), (a7, fA cyI 3328 (upI (l2) (256 * k + 4 * p + s) (x)))] := hD
                                refine fp_iinc (k := 4) (lv' := [(4, .int (iI (s + 1))), (0, .ref v), (1, .int (iI (m 5))), (2, .int (iI (k))), (3, .int (iI (p))), (5, .int (iI (x))), (6, .int (iI (ch)))]) hx hb dX8_findsLeast_147 hl rfl (by decide) rfl (fun ls hl => ?_)
                                refine lv_goto (tgt := 76) hx hb dX8_findsLeast_150 (by decide) ?_
                                exact ih6 (s + 1) (upI (l2) (256 * k + 4 * p + s) (x)) z8 z9 z10 (by omega) (RowD_s jd2 (by omega) (by omega) (by omega) (by omega) hv) (by omega) H locs hP hD hS ls (lv_sub hl [1, 2, 3, 4, 0] rfl)
                              · skip
                                refine lv_aload_n hx hb dX8_findsLeast_99 rfl (lv_at hl 0 rfl) ?_
                                refine lv_iload_n hx hb dX8_findsLeast_100 rfl (lv_at hl 2 rfl) ?_
                                refine lv_iload_n hx hb dX8_findsLeast_101 rfl (lv_at hl 3 rfl) ?_
                                refine lv_iload hx hb dX8_findsLeast_102 (lv_at hl 4 rfl) ?_
                                refine lv_iload hx hb dX8_findsLeast_104 (lv_at hl 6 rfl) ?_
                                refine fp_wV (As := [.int (iI (k)), .int (iI (p)), .int (iI (s)), .int (iI (ch))]) (rest := []) (wsC := [(v, .inr (8, [.ref a0, .ref a1, .ref a2, .ref a3, .int (iI (e4)), .ref a5, .int (iI (e6)), .ref a7, .int (iI (z8)), .int (iI (z9)), .int (iI (z10)), .ref a11, .int (iI (e12)), .int (iI (e13)), .int (iI (e14)), .ref a15])), (a0, fA cyI 54 m), (a7, fA cyI 3328 l2)]) ⟨hx, hb, hml, hown, hts⟩ (c_X8_costWith l D cyI v a0 a1 a2 a3 e4 a5 e6 a7 z8 z9 z10 a11 e12 e13 e14 a15 m l2 k p s ch hC (by omega) (by omega) (by omega) (by omega) (fun p9 s9 a1 a2 a3 a4 => Lm_rg hC hG jd2.1 (by omega) ⟨a1, a2⟩ ⟨a3, a4⟩)) (cwV 4 hts gX8_findsLeast_X8_costWith rfl rfl rfl (by decide +kernel) ⟨Nat.le_of_ble_eq_true rfl, Nat.le_of_ble_eq_true rfl⟩) (fun _ => rfl) hK hP hD hS [0, 1, 2] (by decide) rfl rfl rfl rfl hl.1 rfl (Nat.le_of_ble_eq_true rfl) dX8_findsLeast_106 ⟨Nat.zero_le _, Nat.zero_le _⟩ (fun u9v H locs hu hP hD hS => ?_)
                                refine W.eq (g2 := F0 mi 109 ls [.int (iI (mwR (cM m) (cM m (49 + 0)) l2 k p s ch))]) rfl ?_
                                have hP : va_P D vwCl [(v, .inr (8, [.ref a0, .ref a1, .ref a2, .ref a3, .int (iI (e4)), .ref a5, .int (iI (e6)), .ref a7, .int (iI (p + ch / (mostC (cM m) k + 1) + lenC (cM m) k)), .int (iI (msT (cM m) (cM m (49 + 0)) k p s (ch / (mostC (cM m) k + 1)) (ch % (mostC (cM m) k + 1)))), .int (iI (mcT (cM m) (cM m (49 + 0)) k p s (ch / (mostC (cM m) k + 1)) (ch % (mostC (cM m) k + 1)))), .ref a11, .int (iI (e12)), .int (iI (e13)), .int (iI (e14)), .ref a15])), (a0, fA cyI 54 m), (a7, fA cyI 3328 l2)] H := hP
                                have hD : va_D (fp_A [(v, .inr (8, [.ref a0, .ref a1, .ref a2, .ref a3, .int (iI (e4)), .ref a5, .int (iI (e6)), .ref a7, .int (iI (e8)), .int (iI (e9)), .int (iI (e10)), .ref a11, .int (iI (e12)), .int (iI (e13)), .int (iI (e14)), .ref a15])), (a0, fA cyI 54 m), (a7, fA cyI 3328 le)]) [(v, .inr (8, [.ref a0, .ref a1, .ref a2, .ref a3, .int (iI (e4)), .ref a5, .int (iI (e6)), .ref a7, .int (iI (p + ch / (mostC (cM m) k + 1) + lenC (cM m) k)), .int (iI (msT (cM m) (cM m (49 + 0)) k p s (ch / (mostC (cM m) k + 1)) (ch % (mostC (cM m) k + 1)))), .int (iI (mcT (cM m) (cM m (49 + 0)) k p s (ch / (mostC (cM m) k + 1)) (ch % (mostC (cM m) k + 1)))), .ref a11, .int (iI (e12)), .int (iI (e13)), .int (iI (e14)), .ref a15])), (a0, fA cyI 54 m), (a7, fA cyI 3328 l2)] := hD
                                have hcr := hrw ch ic.1 (by omega)
                                refine lv_istore (lv' := [(7, .int (iI (mwR (cM m) (cM m (49 + 0)) l2 k p s ch))), (0, .ref v), (1, .int (iI (m 5))), (2, .int (iI (k))), (3, .int (iI (p))), (4, .int (iI (s))), (5, .int (iI (x))), (6, .int (iI (ch)))]) hx hb dX8_findsLeast_109 hl (by decide) rfl (fun ls hl => ?_)
                                refine lv_iload hx hb dX8_findsLeast_111 (lv_at hl 0 rfl) ?_
                                refine lv_iload hx hb dX8_findsLeast_113 (lv_at hl 6 rfl) ?_
                                refine fp_icmp_ge (tgt := 123) hx hb (by omega) dX8_findsLeast_115 (by decide) (fun q115 => ?_) (fun q115 => ?_)
                                · skip
                                  refine lv_iload hx hb dX8_findsLeast_123 (lv_at hl 6 rfl) ?_
                                  refine lv_istore (lv' := [(5, .int (iI (x))), (7, .int (iI (mwR (cM m) (cM m (49 + 0)) l2 k p s ch))), (0, .ref v), (1, .int (iI (m 5))), (2, .int (iI (k))), (3, .int (iI (p))), (4, .int (iI (s))), (6, .int (iI (ch)))]) hx hb dX8_findsLeast_125 hl (by decide) rfl (fun ls hl => ?_)
                                  refine fp_iinc (k := 7) (lv' := [(6, .int (iI (ch + 1))), (5, .int (iI (x))), (7, .int (iI (mwR (cM m) (cM m (49 + 0)) l2 k p s ch))), (0, .ref v), (1, .int (iI (m 5))), (2, .int (iI (k))), (3, .int (iI (p))), (4, .int (iI (s)))]) hx hb dX8_findsLeast_127 hl rfl (by decide) rfl (fun ls hl => ?_)
                                  refine lv_goto (tgt := 89) hx hb dX8_findsLeast_130 (by decide) ?_
                                  exact ih8 x (ch + 1) (p + ch / (mostC (cM m) k + 1) + lenC (cM m) k) (msT (cM m) (cM m (49 + 0)) k p s (ch / (mostC (cM m) k + 1)) (ch % (mostC (cM m) k + 1))) (mcT (cM m) (cM m (49 + 0)) k p s (ch / (mostC (cM m) k + 1)) (ch % (mostC (cM m) k + 1))) (by omega) (by rw [mnI_s _ _ ic.1, ← ix]; first | rw [Int.min_eq_right (by omega)] | rw [Int.min_eq_left (by omega)]) (by omega) H locs hP hD hS ls (lv_sub hl [3, 4, 5, 6, 7, 1, 0] rfl)
                                · skip
                                  refine lv_iload hx hb dX8_findsLeast_118 (lv_at hl 0 rfl) ?_
                                  refine lv_goto (tgt := 125) hx hb dX8_findsLeast_120 (by decide) ?_
                                  refine lv_istore (lv' := [(5, .int (iI (mwR (cM m) (cM m (49 + 0)) l2 k p s ch))), (7, .int (iI (mwR (cM m) (cM m (49 + 0)) l2 k p s ch))), (0, .ref v), (1, .int (iI (m 5))), (2, .int (iI (k))), (3, .int (iI (p))), (4, .int (iI (s))), (6, .int (iI (ch)))]) hx hb dX8_findsLeast_125 hl (by decide) rfl (fun ls hl => ?_)
                                  refine fp_iinc (k := 7) (lv' := [(6, .int (iI (ch + 1))), (5, .int (iI (mwR (cM m) (cM m (49 + 0)) l2 k p s ch))), (7, .int (iI (mwR (cM m) (cM m (49 + 0)) l2 k p s ch))), (0, .ref v), (1, .int (iI (m 5))), (2, .int (iI (k))), (3, .int (iI (p))), (4, .int (iI (s)))]) hx hb dX8_findsLeast_127 hl rfl (by decide) rfl (fun ls hl => ?_)
                                  refine lv_goto (tgt := 89) hx hb dX8_findsLeast_130 (by decide) ?_
                                  exact ih8 (mwR (cM m) (cM m (49 + 0)) l2 k p s ch) (ch + 1) (p + ch / (mostC (cM m) k + 1) + lenC (cM m) k) (msT (cM m) (cM m (49 + 0)) k p s (ch / (mostC (cM m) k + 1)) (ch % (mostC (cM m) k + 1))) (mcT (cM m) (cM m (49 + 0)) k p s (ch / (mostC (cM m) k + 1)) (ch % (mostC (cM m) k + 1))) (by omega) (by rw [mnI_s _ _ ic.1, ← ix]; first | rw [Int.min_eq_right (by omega)] | rw [Int.min_eq_left (by omega)]) (by omega) H locs hP hD hS ls (lv_sub hl [3, 4, 5, 6, 7, 1, 0] rfl)
                          exact lp8 (((2 * (mostC (cM m) k + 1) : Int) + 1 - (0)).toNat) 10000000 0 z8 z9 z10 (by omega) rfl (by omega) H locs hP hD hS ls hl
                    exact lp6 (((4 : Int) + 1 - (0)).toNat) 0 l2 z8 z9 z10 (by omega) jd (by omega) H locs hP hD hS ls hl
              exact lp4 ((((5 * k + 1) : Int) + 1 - (0)).toNat) 0 l2 z8 z9 z10 (by omega) (RowD_0 jL) (by omega) H locs hP hD hS ls hl
        have hL0 : LmOK (cM m) (cM m (49 + 0)) l2 (m 5 - 1 + 1) := by rw [show m 5 - 1 + 1 = m 5 by omega]; exact RowD_e jd (by omega)
        exact lp2 ((m 5 + 1).toNat) ((m 5) - 1) l2 e8 e9 e10 (by omega) hL0 (by omega) H locs hP hD hS ls hl
      · skip
        refine fp_iconst hx hb dX8_findsLeast_15 ?_
        refine lv_istore_n (lv' := [(3, .int (iI (0))), (0, .ref v), (1, .int (iI (m 5))), (2, .int (iI (p)))]) hx hb dX8_findsLeast_16 rfl hl (by decide) rfl (fun ls hl => ?_)
        have hl := lv_sub hl (l' := [(0, .ref v), (1, .int (iI (m 5))), (2, .int (iI (p))), (3, .int (iI (0)))]) [1, 2, 3, 0] rfl
        have lp11 : ∀ (nf : Nat) (s : Int) (l2 : Int → Int), (0 ≤ s ∧ s ≤ 4) → (RowD (cM m) (cM m (49 + 0)) l2 (m 5) p s) → (4 + 1 ≤ s + (nf : Int)) → ∀ (H : Heap) (locs : List Loc), va_P D vwCl [(v, .inr (8, [.ref a0, .ref a1, .ref a2, .ref a3, .int (iI (e4)), .ref a5, .int (iI (e6)), .ref a7, .int (iI (e8)), .int (iI (e9)), .int (iI (e10)), .ref a11, .int (iI (e12)), .int (iI (e13)), .int (iI (e14)), .ref a15])), (a0, fA cyI 54 m), (a7, fA cyI 3328 l2)] H → va_D (fp_A [(v, .inr (8, [.ref a0, .ref a1, .ref a2, .ref a3, .int (iI (e4)), .ref a5, .int (iI (e6)), .ref a7, .int (iI (e8)), .int (iI (e9)), .int (iI (e10)), .ref a11, .int (iI (e12)), .int (iI (e13)), .int (iI (e14)), .ref a15])), (a0, fA cyI 54 m), (a7, fA cyI 3328 le)]) [(v, .inr (8, [.ref a0, .ref a1, .ref a2, .ref a3, .int (iI (e4)), .ref a5, .int (iI (e6)), .ref a7, .int (iI (e8)), .int (iI (e9)), .int (iI (e10)), .ref a11, .int (iI (e12)), .int (iI (e13)), .int (iI (e14)), .ref a15])), (a0, fA cyI 54 m), (a7, fA cyI 3328 l2)] → va_S (fp_A [(v, .inr (8, [.ref a0, .ref a1, .ref a2, .ref a3, .int (iI (e4)), .ref a5, .int (iI (e6)), .ref a7, .int (iI (e8)), .int (iI (e9)), .int (iI (e10)), .ref a11, .int (iI (e12)), .int (iI (e13)), .int (iI (e14)), .ref a15])), (a0, fA cyI 54 m), (a7, fA cyI 3328 le)]) sx.heap H locs → ∀ (ls : Array Slot), lv_has ls 8 [(0, .ref v), (1, .int (iI (m 5))), (2, .int (iI (p))), (3, .int (iI (s)))] → W pg l en ({ frames := 4, cells := 0, slots := 0, locals := 97 } : Room) sx mi ar bl mt cd H locs 0 0 (MQ bl (fp_Qw D [(v, .inr (8, [.ref a0, .ref a1, .ref a2, .ref a3, .int (iI (e4)), .ref a5, .int (iI (e6)), .ref a7, .int (iI (e8)), .int (iI (e9)), .int (iI (e10)), .ref a11, .int (iI (e12)), .int (iI (e13)), .int (iI (e14)), .ref a15])), (a0, fA cyI 54 m), (a7, fA cyI 3328 le)] (fun (u9 : (Int → Int) × (Int) × (Int) × (Int)) => (LmOK (cM m) (cM m (49 + 0)) u9.1 0)) (fun (u9 : (Int → Int) × (Int) × (Int) × (Int)) => none) (fun (u9 : (Int → Int) × (Int) × (Int) × (Int)) => [(v, .inr (8, [.ref a0, .ref a1, .ref a2, .ref a3, .int (iI (e4)), .ref a5, .int (iI (e6)), .ref a7, .int (iI (u9.2.1)), .int (iI (u9.2.2.1)), .int (iI (u9.2.2.2)), .ref a11, .int (iI (e12)), .int (iI (e13)), .int (iI (e14)), .ref a15])), (a0, fA cyI 54 m), (a7, fA cyI 3328 u9.1)])) ar sx 0 0 (fp_A [(v, .inr (8, [.ref a0, .ref a1, .ref a2, .ref a3, .int (iI (e4)), .ref a5, .int (iI (e6)), .ref a7, .int (iI (e8)), .int (iI (e9)), .int (iI (e10)), .ref a11, .int (iI (e12)), .int (iI (e13)), .int (iI (e14)), .ref a15])), (a0, fA cyI 54 m), (a7, fA cyI 3328 le)])) (F0 mi 17 ls []) := by
          intro nf
          induction nf with
          | zero =>
            intro s l2 is9 jd2 hfuel
            exact absurd hfuel (by omega)
          | succ nf ih11 =>
            intro s l2 is9 jd2 hfuel H locs hP hD hS ls hl
            refine lv_iload_n hx hb dX8_findsLeast_17 rfl (lv_at hl 3 rfl) ?_
            refine fp_iconst hx hb dX8_findsLeast_18 ?_
            refine fp_icmp_ge (tgt := 50) hx hb (by omega) dX8_findsLeast_19 (by decide) (fun q19 => ?_) (fun q19 => ?_)
            · skip
              refine fp_iinc (k := 2) (lv' := [(2, .int (iI (p + 1))), (0, .ref v), (1, .int (iI (m 5))), (3, .int (iI (s)))]) hx hb dX8_findsLeast_50 hl rfl (by decide) rfl (fun ls hl => ?_)
              refine lv_goto (tgt := 9) hx hb dX8_findsLeast_53 (by decide) ?_
              exact ih0 (p + 1) l2 (by omega) (RowD_p jd2 (by omega)) (by omega) H locs hP hD hS ls (lv_sub hl [1, 2, 0] rfl)
            · skip
              refine lv_aload_n hx hb dX8_findsLeast_22 rfl (lv_at hl 0 rfl) ?_
              refine va_get (D := D) (ci := 8) (ws := [(v, .inr (8, [.ref a0, .ref a1, .ref a2, .ref a3, .int (iI (e4)), .ref a5, .int (iI (e6)), .ref a7, .int (iI (e8)), .int (iI (e9)), .int (iI (e10)), .ref a11, .int (iI (e12)), .int (iI (e13)), .int (iI (e14)), .ref a15])), (a0, fA cyI 54 m), (a7, fA cyI 3328 l2)]) (v := .ref a7) (C := RX8) (T := TX8) (N := 16) hx hb hts (fun _ h => List.mem_cons_of_mem _ (List.mem_append_right _ h)) hown hK.1 hP 0 rfl rfl 7 (by decide) (hts _ fl_X8_findsLeast_25) (fun _ h9 => h9) rfl dX8_findsLeast_23 ?_
              refine lv_iload_n hx hb dX8_findsLeast_26 rfl (lv_at hl 1 rfl) ?_
              refine lv_iload_n hx hb dX8_findsLeast_27 rfl (lv_at hl 2 rfl) ?_
              refine lv_iload_n hx hb dX8_findsLeast_28 rfl (lv_at hl 3 rfl) ?_
              refine fp_pS (As := [.int (iI (m 5)), .int (iI (p)), .int (iI (s))]) (rest := [.ref a7]) (wsC := [(v, .inr (8, [.ref a0, .ref a1, .ref a2, .ref a3, .int (iI (e4)), .ref a5, .int (iI (e6)), .ref a7, .int (iI (e8)), .int (iI (e9)), .int (iI (e10)), .ref a11, .int (iI (e12)), .int (iI (e13)), .int (iI (e14)), .ref a15])), (a0, fA cyI 54 m), (a7, fA cyI 3328 l2)]) ⟨hx, hb, hml, hown, hts⟩ (c_X8_stateOf l D cyI (m 5) p s) (va_cwS 3 hts gX8_findsLeast_X8_stateOf rfl rfl rfl (by decide +kernel) ⟨Nat.le_of_ble_eq_true rfl, Nat.le_of_ble_eq_true rfl⟩) hK hP hD [] (by decide) rfl rfl hl.1 rfl (Nat.le_of_ble_eq_true rfl) dX8_findsLeast_29 ⟨Nat.zero_le _, Nat.zero_le _⟩ ?_
              refine lv_aload_n hx hb dX8_findsLeast_32 rfl (lv_at hl 0 rfl) ?_
              refine lv_aload_n hx hb dX8_findsLeast_33 rfl (lv_at hl 0 rfl) ?_
              refine lv_iload_n hx hb dX8_findsLeast_34 rfl (lv_at hl 2 rfl) ?_
              refine fp_pV (As := [.int (iI (p))]) (rest := [.ref v, .int (iI (256 * (m 5) + 4 * p + s)), .ref a7]) (wsC := [(v, .inr (8, [.ref a0, .ref a1, .ref a2, .ref a3, .int (iI (e4)), .ref a5, .int (iI (e6)), .ref a7, .int (iI (e8)), .int (iI (e9)), .int (iI (e10)), .ref a11, .int (iI (e12)), .int (iI (e13)), .int (iI (e14)), .ref a15])), (a0, fA cyI 54 m), (a7, fA cyI 3328 l2)]) ⟨hx, hb, hml, hown, hts⟩ (c_X8_gatheringsFor l D cyI v a0 a1 a2 a3 e4 a5 e6 a7 e8 e9 e10 a11 e12 e13 e14 a15 m p hC (by omega)) (cwV 1 hts gX8_findsLeast_X8_gatheringsFor rfl rfl rfl (by decide +kernel) ⟨Nat.le_of_ble_eq_true rfl, Nat.le_of_ble_eq_true rfl⟩) hK hP hD [0, 1] (by decide) rfl rfl rfl rfl hl.1 rfl (Nat.le_of_ble_eq_true rfl) dX8_findsLeast_35 ⟨Nat.zero_le _, Nat.zero_le _⟩ ?_
              refine fp_iconst hx hb dX8_findsLeast_38 ?_
              refine fp_iconst hx hb dX8_findsLeast_39 ?_
              refine fp_pV (As := [.int (iI (gfI p (cM m (49 + 0)))), .int (iI (0)), .int (iI (0))]) (rest := [.int (iI (256 * (m 5) + 4 * p + s)), .ref a7]) (wsC := [(v, .inr (8, [.ref a0, .ref a1, .ref a2, .ref a3, .int (iI (e4)), .ref a5, .int (iI (e6)), .ref a7, .int (iI (e8)), .int (iI (e9)), .int (iI (e10)), .ref a11, .int (iI (e12)), .int (iI (e13)), .int (iI (e14)), .ref a15])), (a0, fA cyI 54 m), (a7, fA cyI 3328 l2)]) ⟨hx, hb, hml, hown, hts⟩ (c_X8_costOf l D cyI v a0 a1 a2 a3 e4 a5 e6 a7 e8 e9 e10 a11 e12 e13 e14 a15 m (gfI p (cM m (49 + 0))) 0 0 hC) (cwV 3 hts gX8_findsLeast_X8_costOf rfl rfl rfl (by decide +kernel) ⟨Nat.le_of_ble_eq_true rfl, Nat.le_of_ble_eq_true rfl⟩) hK hP hD [0, 1] (by decide) rfl rfl rfl rfl hl.1 rfl (Nat.le_of_ble_eq_true rfl) dX8_findsLeast_40 ⟨Nat.zero_le _, Nat.zero_le _⟩ ?_
              refine fp_iast (wsC := [(v, .inr (8, [.ref a0, .ref a1, .ref a2, .ref a3, .int (iI (e4)), .ref a5, .int (iI (e6)), .ref a7, .int (iI (e8)), .int (iI (e9)), .int (iI (e10)), .ref a11, .int (iI (e12)), .int (iI (e13)), .int (iI (e14)), .ref a15])), (a0, fA cyI 54 m), (a7, fA cyI 3328 l2)]) hx hb hK hP hD hS 2 rfl (by omega) (by decide) dX8_findsLeast_43 (fun H locs hP hD hS => ?_)
              have hP : va_P D vwCl [(v, .inr (8, [.ref a0, .ref a1, .ref a2, .ref a3, .int (iI (e4)), .ref a5, .int (iI (e6)), .ref a7, .int (iI (e8)), .int (iI (e9)), .int (iI (e10)), .ref a11, .int (iI (e12)), .int (iI (e13)), .int (iI (e14)), .ref a15])), (a0, fA cyI 54 m), (a7, fA cyI 3328 (upI (l2) (256 * (m 5) + 4 * p + s) ((gfI p (cM m (49 + 0))) * gcC (cM m) + 0 * cM m (49 + 2) + 0 * cM m (49 + 3))))] H := hP
              have hD : va_D (fp_A [(v, .inr (8, [.ref a0, .ref a1, .ref a2, .ref a3, .int (iI (e4)), .ref a5, .int (iI (e6)), .ref a7, .int (iI (e8)), .int (iI (e9)), .int (iI (e10)), .ref a11, .int (iI (e12)), .int (iI (e13)), .int (iI (e14)), .ref a15])), (a0, fA cyI 54 m), (a7, fA cyI 3328 le)]) [(v, .inr (8, [.ref a0, .ref a1, .ref a2, .ref a3, .int (iI (e4)), .ref a5, .int (iI (e6)), .ref a7, .int (iI (e8)), .int (iI (e9)), .int (iI (e10)), .ref a11, .int (iI (e12)), .int (iI (e13)), .int (iI (e14)), .ref a15])), (a0, fA cyI 54 m), (a7, fA cyI 3328 (upI (l2) (256 * (m 5) + 4 * p + s) ((gfI p (cM m (49 + 0))) * gcC (cM m) + 0 * cM m (49 + 2) + 0 * cM m (49 + 3))))] := hD
              refine fp_iinc (k := 3) (lv' := [(3, .int (iI (s + 1))), (0, .ref v), (1, .int (iI (m 5))), (2, .int (iI (p)))]) hx hb dX8_findsLeast_44 hl rfl (by decide) rfl (fun ls hl => ?_)
              refine lv_goto (tgt := 17) hx hb dX8_findsLeast_47 (by decide) ?_
              have hv : gfI p (cM m (49 + 0)) * gcC (cM m) + 0 * cM m (49 + 2) + 0 * cM m (49 + 3) = bsM (cM m) (cM m (49 + 0)) (cM m 0 - m 5).toNat (m 5) p s := by
                rw [e0, show (m 5 - m 5).toNat = 0 by omega, Int.zero_mul, Int.zero_mul, Int.add_zero, Int.add_zero]
                rfl
              exact ih11 (s + 1) (upI (l2) (256 * (m 5) + 4 * p + s) ((gfI p (cM m (49 + 0))) * gcC (cM m) + 0 * cM m (49 + 2) + 0 * cM m (49 + 3))) (by omega) (RowD_s jd2 hN (by omega) (by omega) (by omega) hv) (by omega) H locs hP hD hS ls (lv_sub hl [1, 2, 3, 0] rfl)
        exact lp11 (((4 : Int) + 1 - (0)).toNat) 0 l2 (by omega) jd (by omega) H locs hP hD hS ls hl
  exact lp0 (((64 : Int) + 1 - (0)).toNat) 0 le (by omega) (RowD_0 (fun k7 a1 a2 => by omega)) (by omega) sx.heap [] hP hD hS ls hl
