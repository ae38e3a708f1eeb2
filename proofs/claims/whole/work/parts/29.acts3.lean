/-! the table and the choice depend on what agrees alone -/
theorem Agr_bs {g f : Int → Int} (h : Agr g f) {G : Int} : ∀ (m : Nat) (k p s : Int), 0 ≤ k → k + m = f 0 → bsI g G m k p s = bsI f G m k p s := by
  intro m
  induction m with
  | zero =>
    intro k p s _ _
    have h1 := h.2.2 1 (by omega) (by omega)
    have h4 := h.2.2 4 (by omega) (by omega)
    show gfI p G * gcC g = gfI p G * gcC f
    unfold gcC
    rw [h1, h4]
  | succ m ih =>
    intro k p s h0 h1
    have hk : 0 ≤ k ∧ k < f 0 := by omega
    have hl := Agr_len h hk
    show mnB (fun b q => ctV g G k p s b q (bsI g G m (k + 1) (p + lenC g k + b) (sbI g G k p (p + lenC g k + b) s b q))) (mostC g k + 1).toNat 2 = mnB (fun b q => ctV f G k p s b q (bsI f G m (k + 1) (p + lenC f k + b) (sbI f G k p (p + lenC f k + b) s b q))) (mostC f k + 1).toNat 2
    rw [hl.1, hl.2]
    refine mnB_c 2 (fun b i a1 a2 a3 a4 => ?_)
    rw [Agr_ct h hk, Agr_sb h hk, ih (k + 1) _ _ (by omega) (by omega)]
theorem Agr_tr {a b c : Int → Int} (h : Agr a b) (h' : Agr b c) : Agr a c :=
  ⟨h.1.trans h'.1, fun k x y => ⟨(h.2.1 k x (by rw [h'.1]; exact y)).1.trans (h'.2.1 k x y).1, (h.2.1 k x (by rw [h'.1]; exact y)).2.trans (h'.2.1 k x y).2⟩, fun j x y => (h.2.2 j x y).trans (h'.2.2 j x y)⟩
theorem Agr_of {c c' : Int → Int} (h : Same c c') : Agr c c' := Same_Agr (Same_sy h) (Agr_rf c')
theorem Opt_f {f f' g : Int → Int} {G k : Int} (hA : Agr f f') (hk : k ≤ f' 0) (h : Opt f g G k) : Opt f' g G k := by
  have hln : ∀ i : Int, i ≤ f' 0 → lnS f i = lnS f' i := fun i a => sumI_c _ (fun j b c => (Agr_len hA ⟨b, by omega⟩).1)
  have hss : ∀ n : Nat, (n : Int) ≤ f' 0 → ssI f g G n = ssI f' g G n := by
    intro n
    induction n with
    | zero => intro _; rfl
    | succ n ih =>
      intro hn
      show sbI f G n _ _ _ _ _ = sbI f' G n _ _ _ _ _
      rw [Agr_sb hA (by omega), ih (by omega), hln n (by omega), hln ((n : Int) + 1) (by omega)]
  intro j h3 h4
  have h5 := h j h3 h4
  have hj : 0 ≤ j ∧ j < f' 0 := by omega
  have e1 : ∀ p s b q : Int, ctB f G j p s b q = ctB f' G j p s b q := fun p s b q => by
    unfold ctB
    rw [Agr_ct hA hj, (Agr_len hA hj).1, Agr_sb hA hj, hA.1, Agr_bs hA _ (j + 1) _ _ (by omega) (by omega)]
  have e2 := hss j.toNat (by omega)
  rw [(Agr_len hA hj).2, hln j (by omega), e2, hA.1, Agr_bs hA _ j _ _ h3 (by omega), e1] at h5
  refine ⟨h5.1, h5.2.1, fun b q a1 a2 a3 a4 => ?_⟩
  rw [← e1]
  exact h5.2.2 b q a1 a2 a3 a4
theorem Same_ce {m g : Int → Int} (h : ∀ j : Int, 0 ≤ j → j < 54 → g j = m j) (hn : m 5 ≤ 12) : Same (cM m) (cM g) := by
  refine Same_of (by rw [cM_0, h 5 (by omega) (by omega)]) (by rw [cM_0]; exact hn) (fun j o a1 a2 a3 => ?_) (fun j a1 a2 => by rw [cM_s ⟨a1, a2⟩, h j a1 (by omega)])
  rw [cM_0] at a2
  rcases a3 with rfl | rfl | rfl | rfl
  · rw [cM_t (by omega), cM_t (by omega), h _ (by omega) (by omega)]
  · rw [cM_p (by omega), cM_p (by omega), h _ (by omega) (by omega)]
  · rw [cM_b (by omega), cM_b (by omega), h _ (by omega) (by omega)]
  · rw [cM_q (by omega), cM_q (by omega), h _ (by omega) (by omega)]
theorem Same_cpA {c g : Int → Int} (hA : Agr g c) (hn : g 0 ≤ 12) : Same (cpI c g 0 0 49) g := by
  refine ⟨by rw [cp_lo (by omega)], fun k a b => ?_, fun j a b => ?_⟩
  · rw [cp_lo (by omega)] at b
    rw [cp_lo (by omega), cp_lo (by omega), cp_lo (by omega), cp_lo (by omega)]
    exact ⟨rfl, rfl, rfl, rfl⟩
  · rw [cp_hi (by omega)]
    exact (hA.2.2 j a b).symm
theorem pl_eq {m g : Int → Int} (hC : CatOK (cM m)) (hU : ∀ j9 : Int, ¬ (30 ≤ j9 ∧ j9 < 30 + toI m 5) → ¬ (42 ≤ j9 ∧ j9 < 42 + toI m 5) → g j9 = toI m j9) : eqN g (toI m) 54 = 1 ↔ sameI (cM m) (cM g) (cM m 0 * 4).toNat = 1 := by
  have hN := hC.1
  rw [cM_0] at hN
  have hT := Same_toI hC
  have e5 : toI m 5 = m 5 := toI_eq (by omega)
  rw [eqN_iff, same_iff, cM_0]
  constructor
  · intro h j a b
    have hS := Same_tr hT (Same_ce (fun j a b => h j a (by omega)) (by rw [e5]; exact hN.2))
    by_cases e : j = 0
    · rw [e]; exact hS.1
    · have h4 := hS.2.1 ((j - 1) / 4) (by omega) (by rw [cM_0]; omega)
      have e4 : j = (j - 1) / 4 * 4 + 1 ∨ j = (j - 1) / 4 * 4 + 2 ∨ j = (j - 1) / 4 * 4 + 3 ∨ j = (j - 1) / 4 * 4 + 4 := by omega
      rcases e4 with e4 | e4 | e4 | e4
      · rw [e4]; exact h4.1
      · rw [e4]; exact h4.2.1
      · rw [e4]; exact h4.2.2.1
      · rw [e4]; exact h4.2.2.2
  · intro h j a b
    by_cases q1 : 30 ≤ j ∧ j < 30 + m 5
    · have h1 := h ((j - 30) * 4 + 3) (by omega) (by omega)
      have h2 := (hT.2.1 (j - 30) (by omega) (by rw [cM_0]; omega)).2.2.1
      rw [h1, cM_b (by omega), cM_b (by omega), show 30 + (j - 30) = j by omega] at h2
      exact h2
    · by_cases q2 : 42 ≤ j ∧ j < 42 + m 5
      · have h1 := h ((j - 42) * 4 + 4) (by omega) (by omega)
        have h2 := (hT.2.1 (j - 42) (by omega) (by rw [cM_0]; omega)).2.2.2
        rw [h1, cM_q (by omega), cM_q (by omega), show 42 + (j - 42) = j by omega] at h2
        exact h2
      · exact hU j (by omega) (by omega)
theorem ch_rg {m g : Int → Int} (hC : CatOK (cM g)) (h0 : cM g 0 = cM (toI m) 0) (hU : ∀ j9 : Int, ¬ (30 ≤ j9 ∧ j9 < 30 + toI m 5) → ¬ (42 ≤ j9 ∧ j9 < 42 + toI m 5) → g j9 = toI m j9) : ∀ j : Int, 0 ≤ j → j < 54 → -2147483648 ≤ g j ∧ g j ≤ 2147483647 := by
  intro j a b
  have hN := hC.1
  rw [cM_0] at hN
  rw [cM_0, cM_0] at h0
  by_cases q1 : 30 ≤ j ∧ j < 30 + toI m 5
  · have hL := lot_f hC (k := j - 30) (by rw [cM_0]; omega)
    unfold LotOK at hL
    rw [cM_b (by omega), show 30 + (j - 30) = j by omega] at hL
    omega
  · by_cases q2 : 42 ≤ j ∧ j < 42 + toI m 5
    · have hL := lot_f hC (k := j - 42) (by rw [cM_0]; omega)
      unfold LotOK at hL
      rw [cM_q (by omega), show 42 + (j - 42) = j by omega] at hL
      have h1 := hL.2.2.2.2.2.2
      omega
    · rw [hU j q1 q2]
      exact toI_rg m j
theorem up_back (m : Int → Int) (i v : Int) : upI (upI m i v) i (m i) = m := by
  funext j
  by_cases e : j = i
  · rw [upI_s e, e]
  · rw [upI_n e, upI_n e]
theorem Cat_se {m : Int → Int} (hC : CatOK (cM m)) {sz : Int} (hg : sz = 4 ∨ sz = 8 ∨ sz = 16) : CatOK (cM (upI m 0 sz)) := by
  have hN := hC.1
  rw [cM_0] at hN
  exact Same_Cat (Same_se (w := 0) hN.2 (by omega)) (Cat_sz hC hg)
theorem ls_eq {m : Int → Int} (hC : CatOK (cM m)) {sz : Int} (hg : sz = 4 ∨ sz = 8 ∨ sz = 16) : bsM (cM (upI m 0 sz)) (cM (upI m 0 sz) (49 + 0)) (cM (upI m 0 sz) 0 - 0).toNat 0 0 0 = bsI (upI (cM m) (49 + 0) sz) sz (cM m 0).toNat 0 0 0 := by
  have hN := hC.1
  have hn5 := hN
  rw [cM_0] at hn5
  have hC2 := Cat_se hC hg
  have eG : cM (upI m 0 sz) (49 + 0) = sz := by rw [cM_s (by omega), upI_s rfl]
  have e0 : cM (upI m 0 sz) 0 = cM m 0 := by rw [cM_0, cM_0, upI_n (by omega)]
  have hS := Same_se (m := m) (w := 0) (v := sz) hn5.2 (by omega)
  rw [eG, e0, Int.sub_zero, nrm_bs hC2 hg _ 0 0 0 (by omega) (by rw [e0]; omega) (by omega), nrm_0]
  exact Agr_bs (Agr_of (Same_sy hS)) _ 0 0 0 (by omega) (by rw [upI_n (by omega)]; omega)
theorem ck_X8_plan_130 : Cond.constant RX8 130 (10000000) ∈ wsX8_plan := by decide +kernel
set_option maxHeartbeats 4000000 in
set_option maxRecDepth 100000 in
theorem c_X8_plan (l : Launch) (D : va_G) (cyI : ClassId) (v : Nat) (a0 : Nat) (a1 : Nat) (a2 : Nat) (a3 : Nat) (e4 : Int) (a5 : Nat) (e6 : Int) (a7 : Nat) (e8 : Int) (e9 : Int) (e10 : Int) (a11 : Nat) (e12 : Int) (e13 : Int) (e14 : Int) (a15 : Nat) (m : Int → Int) (kc : Int → Int) (d : Int → Int) (le : Int → Int) (hC : CatOK (cM m)) (he4 : 0 ≤ e4 ∧ e4 ≤ 4) : fp_MW l yX8_plan wsX8_plan ({ frames := 8, cells := 0, slots := 0, locals := 174 } : Room) D cyI [(v, .inr (8, [.ref a0, .ref a1, .ref a2, .ref a3, .int (iI (e4)), .ref a5, .int (iI (e6)), .ref a7, .int (iI (e8)), .int (iI (e9)), .int (iI (e10)), .ref a11, .int (iI (e12)), .int (iI (e13)), .int (iI (e14)), .ref a15])), (a0, fA cyI 54 m), (a1, fA cyI 54 kc), (a3, fA cyI 216 d), (a7, fA cyI 3328 le)] [.ref v] (fun (u9 : (Int → Int) × (Int → Int) × (Int → Int) × (Int → Int) × (Int) × (Int) × (Int)) => (Agr (cM u9.1) (cM m)) ∧ (CatOK (cM u9.1)) ∧ (Opt (cM m) (cM u9.1) (cM m (49 + 0)) (cM m 0)) ∧ (Same (if 0 ≤ plR (cM m) (cM u9.1) then cpI (cM m) (cM u9.1) 0 0 49 else cM m) (cM u9.2.1))) (fun (u9 : (Int → Int) × (Int → Int) × (Int → Int) × (Int → Int) × (Int) × (Int) × (Int)) => some (.int (iI (plR (cM m) (cM u9.1))))) (fun (u9 : (Int → Int) × (Int → Int) × (Int → Int) × (Int → Int) × (Int) × (Int) × (Int)) => [(v, .inr (8, [.ref a0, .ref a1, .ref a2, .ref a3, .int (iI (if 0 ≤ plR (cM m) (cM u9.1) then recN e4 else e4)), .ref a5, .int (iI (e6)), .ref a7, .int (iI (u9.2.2.2.2.1)), .int (iI (u9.2.2.2.2.2.1)), .int (iI (u9.2.2.2.2.2.2)), .ref a11, .int (iI (e12)), .int (iI (e13)), .int (iI (e14)), .ref a15])), (a0, fA cyI 54 u9.2.1), (a1, fA cyI 54 u9.2.2.1), (a3, fA cyI 216 (if 0 ≤ plR (cM m) (cM u9.1) then recH d m e4 else d)), (a7, fA cyI 3328 u9.2.2.2.1)]) := by
  refine fp_start (cc := cX8_plan) (maxL := 1) (ret := (some .int)) (by decide) rfl (Nat.le_of_ble_eq_true rfl) ?_
  intro pg en sx mi ar bl mt cd ls hx hb hr hts hown hlocks hml hnm hP hK hD hl
  have hown : sx.vm.findClass RX8 = some mi.cls := hown
  have hl : lv_has ls 1 [(0, .ref v)] := hl
  have hD := fp_self hD
  have hS : va_S (fp_A [(v, .inr (8, [.ref a0, .ref a1, .ref a2, .ref a3, .int (iI (e4)), .ref a5, .int (iI (e6)), .ref a7, .int (iI (e8)), .int (iI (e9)), .int (iI (e10)), .ref a11, .int (iI (e12)), .int (iI (e13)), .int (iI (e14)), .ref a15])), (a0, fA cyI 54 m), (a1, fA cyI 54 kc), (a3, fA cyI 216 d), (a7, fA cyI 3328 le)]) sx.heap sx.heap [] := va_S.rf
  have hN := hC.1
  rw [cM_0] at hN
  have e0 : cM m 0 = m 5 := cM_0 m
  have hT := Same_toI hC
  have hCT := Same_Cat hT hC
  have eT5 : toI m 5 = m 5 := toI_eq (by omega)
  have hXT := hCT.2.2
  unfold SetOK at hXT
  have hvl : bsM (cM (toI m)) (cM (toI m) (49 + 0)) (cM (toI m) 0 - 0).toNat 0 0 0 ≤ 999999 ∧ 0 ≤ bsM (cM (toI m)) (cM (toI m) (49 + 0)) (cM (toI m) 0 - 0).toNat 0 0 0 := by
    have hNT := hCT.1
    rw [nrm_bs hCT hXT.1 _ 0 0 0 (by omega) (by omega) (by omega)]
    have := bs_lt hCT (k := 0) (p := 0) (s := nrm (cM (toI m) (49 + 0)) 0 0) hXT.1 (by omega) (by omega)
    omega
  obtain ⟨hP, hD⟩ := fp_nrm (ws := [(v, .inr (8, [.ref a0, .ref a1, .ref a2, .ref a3, .int (iI (e4)), .ref a5, .int (iI (e6)), .ref a7, .int (iI (e8)), .int (iI (e9)), .int (iI (e10)), .ref a11, .int (iI (e12)), .int (iI (e13)), .int (iI (e14)), .ref a15])), (a0, fA cyI 54 m), (a1, fA cyI 54 kc), (a3, fA cyI 216 d), (a7, fA cyI 3328 le)]) (f := m) (f' := toI m) hP hD 1 rfl (iI_to m)
  have hP : va_P D vwCl [(v, .inr (8, [.ref a0, .ref a1, .ref a2, .ref a3, .int (iI (e4)), .ref a5, .int (iI (e6)), .ref a7, .int (iI (e8)), .int (iI (e9)), .int (iI (e10)), .ref a11, .int (iI (e12)), .int (iI (e13)), .int (iI (e14)), .ref a15])), (a0, fA cyI 54 (toI m)), (a1, fA cyI 54 kc), (a3, fA cyI 216 d), (a7, fA cyI 3328 le)] sx.heap := hP
  have hD : va_D (fp_A [(v, .inr (8, [.ref a0, .ref a1, .ref a2, .ref a3, .int (iI (e4)), .ref a5, .int (iI (e6)), .ref a7, .int (iI (e8)), .int (iI (e9)), .int (iI (e10)), .ref a11, .int (iI (e12)), .int (iI (e13)), .int (iI (e14)), .ref a15])), (a0, fA cyI 54 m), (a1, fA cyI 54 kc), (a3, fA cyI 216 d), (a7, fA cyI 3328 le)]) [(v, .inr (8, [.ref a0, .ref a1, .ref a2, .ref a3, .int (iI (e4)), .ref a5, .int (iI (e6)), .ref a7, .int (iI (e8)), .int (iI (e9)), .int (iI (e10)), .ref a11, .int (iI (e12)), .int (iI (e13)), .int (iI (e14)), .ref a15])), (a0, fA cyI 54 (toI m)), (a1, fA cyI 54 kc), (a3, fA cyI 216 d), (a7, fA cyI 3328 le)] := hD
  refine lv_aload_n hx hb dX8_plan_0 rfl (lv_at hl 0 rfl) ?_
  refine fp_wV (As := []) (rest := []) (wsC := [(v, .inr (8, [.ref a0, .ref a1, .ref a2, .ref a3, .int (iI (e4)), .ref a5, .int (iI (e6)), .ref a7, .int (iI (e8)), .int (iI (e9)), .int (iI (e10)), .ref a11, .int (iI (e12)), .int (iI (e13)), .int (iI (e14)), .ref a15])), (a0, fA cyI 54 (toI m)), (a1, fA cyI 54 kc), (a3, fA cyI 216 d), (a7, fA cyI 3328 le)]) ⟨hx, hb, hml, hown, hts⟩ (c_X8_leastOfAll l D cyI v a0 a1 a2 a3 e4 a5 e6 a7 e8 e9 e10 a11 e12 e13 e14 a15 (toI m) le hCT) (cwV 0 hts gX8_plan_X8_leastOfAll rfl rfl rfl (by decide +kernel) ⟨Nat.le_of_ble_eq_true rfl, Nat.le_of_ble_eq_true rfl⟩) (fun _ => rfl) hK hP hD hS [0, 1, 4] (by decide) rfl rfl rfl rfl hl.1 rfl (Nat.le_of_ble_eq_true rfl) dX8_plan_1 ⟨Nat.zero_le _, Nat.zero_le _⟩ (fun u9v H locs hu hP hD hS => ?_)
  obtain ⟨l7, z8, z9, z10⟩ := u9v
  dsimp only at hu
  have pLm_1 := hu
  refine W.eq (g2 := F0 mi 4 ls [.int (iI (bsM (cM (toI m)) (cM (toI m) (49 + 0)) (cM (toI m) 0 - 0).toNat 0 0 0))]) rfl ?_
  have hP : va_P D vwCl [(v, .inr (8, [.ref a0, .ref a1, .ref a2, .ref a3, .int (iI (e4)), .ref a5, .int (iI (e6)), .ref a7, .int (iI (z8)), .int (iI (z9)), .int (iI (z10)), .ref a11, .int (iI (e12)), .int (iI (e13)), .int (iI (e14)), .ref a15])), (a0, fA cyI 54 ((toI m))), (a1, fA cyI 54 kc), (a3, fA cyI 216 d), (a7, fA cyI 3328 l7)] H := hP
  have hD : va_D (fp_A [(v, .inr (8, [.ref a0, .ref a1, .ref a2, .ref a3, .int (iI (e4)), .ref a5, .int (iI (e6)), .ref a7, .int (iI (e8)), .int (iI (e9)), .int (iI (e10)), .ref a11, .int (iI (e12)), .int (iI (e13)), .int (iI (e14)), .ref a15])), (a0, fA cyI 54 m), (a1, fA cyI 54 kc), (a3, fA cyI 216 d), (a7, fA cyI 3328 le)]) [(v, .inr (8, [.ref a0, .ref a1, .ref a2, .ref a3, .int (iI (e4)), .ref a5, .int (iI (e6)), .ref a7, .int (iI (z8)), .int (iI (z9)), .int (iI (z10)), .ref a11, .int (iI (e12)), .int (iI (e13)), .int (iI (e14)), .ref a15])), (a0, fA cyI 54 ((toI m))), (a1, fA cyI 54 kc), (a3, fA cyI 216 d), (a7, fA cyI 3328 l7)] := hD
  refine fp_ldc hx hb (10000000) rfl hown (hts _ ck_X8_plan_130) dX8_plan_4 ?_
  refine fp_icmp_lt (tgt := 12) hx hb (by omega) dX8_plan_6 (by decide) (fun q6 => ?_) (fun q6 => ?_)
  · skip
    refine lv_aload_n hx hb dX8_plan_12 rfl (lv_at hl 0 rfl) ?_
    refine fp_wV (As := []) (rest := []) (wsC := [(v, .inr (8, [.ref a0, .ref a1, .ref a2, .ref a3, .int (iI (e4)), .ref a5, .int (iI (e6)), .ref a7, .int (iI (z8)), .int (iI (z9)), .int (iI (z10)), .ref a11, .int (iI (e12)), .int (iI (e13)), .int (iI (e14)), .ref a15])), (a0, fA cyI 54 ((toI m))), (a1, fA cyI 54 kc), (a3, fA cyI 216 d), (a7, fA cyI 3328 l7)]) ⟨hx, hb, hml, hown, hts⟩ (c_X8_remember l D cyI v a0 a1 a2 a3 e4 a5 e6 a7 z8 z9 z10 a11 e12 e13 e14 a15 ((toI m)) kc) (cwV 0 hts gX8_plan_X8_remember rfl rfl rfl (by decide +kernel) ⟨Nat.le_of_ble_eq_true rfl, Nat.le_of_ble_eq_true rfl⟩) (fun _ => rfl) hK hP hD hS [0, 1, 2] (by decide) rfl rfl rfl rfl hl.1 rfl (Nat.le_of_ble_eq_true rfl) dX8_plan_13 ⟨Nat.zero_le _, Nat.zero_le _⟩ (fun u9v H locs hu hP hD hS => ?_)
    refine W.eq (g2 := F0 mi 16 ls []) rfl ?_
    have hP : va_P D vwCl [(v, .inr (8, [.ref a0, .ref a1, .ref a2, .ref a3, .int (iI (e4)), .ref a5, .int (iI (e6)), .ref a7, .int (iI (z8)), .int (iI (z9)), .int (iI (z10)), .ref a11, .int (iI (e12)), .int (iI (e13)), .int (iI (e14)), .ref a15])), (a0, fA cyI 54 (((toI m)))), (a1, fA cyI 54 (((toI m)))), (a3, fA cyI 216 d), (a7, fA cyI 3328 l7)] H := hP
    have hD : va_D (fp_A [(v, .inr (8, [.ref a0, .ref a1, .ref a2, .ref a3, .int (iI (e4)), .ref a5, .int (iI (e6)), .ref a7, .int (iI (e8)), .int (iI (e9)), .int (iI (e10)), .ref a11, .int (iI (e12)), .int (iI (e13)), .int (iI (e14)), .ref a15])), (a0, fA cyI 54 m), (a1, fA cyI 54 kc), (a3, fA cyI 216 d), (a7, fA cyI 3328 le)]) [(v, .inr (8, [.ref a0, .ref a1, .ref a2, .ref a3, .int (iI (e4)), .ref a5, .int (iI (e6)), .ref a7, .int (iI (z8)), .int (iI (z9)), .int (iI (z10)), .ref a11, .int (iI (e12)), .int (iI (e13)), .int (iI (e14)), .ref a15])), (a0, fA cyI 54 (((toI m)))), (a1, fA cyI 54 (((toI m)))), (a3, fA cyI 216 d), (a7, fA cyI 3328 l7)] := hD
    refine lv_aload_n hx hb dX8_plan_16 rfl (lv_at hl 0 rfl) ?_
    refine fp_wV (As := []) (rest := []) (wsC := [(v, .inr (8, [.ref a0, .ref a1, .ref a2, .ref a3, .int (iI (e4)), .ref a5, .int (iI (e6)), .ref a7, .int (iI (z8)), .int (iI (z9)), .int (iI (z10)), .ref a11, .int (iI (e12)), .int (iI (e13)), .int (iI (e14)), .ref a15])), (a0, fA cyI 54 (((toI m)))), (a1, fA cyI 54 (((toI m)))), (a3, fA cyI 216 d), (a7, fA cyI 3328 l7)]) ⟨hx, hb, hml, hown, hts⟩ (c_X8_chooses l D cyI v a0 a1 a2 a3 e4 a5 e6 a7 z8 z9 z10 a11 e12 e13 e14 a15 (((toI m))) l7 hCT pLm_1) (cwV 0 hts gX8_plan_X8_chooses rfl rfl rfl (by decide +kernel) ⟨Nat.le_of_ble_eq_true rfl, Nat.le_of_ble_eq_true rfl⟩) (fun _ => rfl) hK hP hD hS [0, 1, 4] (by decide) rfl rfl rfl rfl hl.1 rfl (Nat.le_of_ble_eq_true rfl) dX8_plan_17 ⟨Nat.zero_le _, Nat.zero_le _⟩ (fun u9v H locs hu hP hD hS => ?_)
    obtain ⟨gq, y8, y9, y10⟩ := u9v
    dsimp only at hu
    obtain ⟨pAg_17, pOK_17, pOp_17, pUn_17⟩ := hu
    refine W.eq (g2 := F0 mi 20 ls []) rfl ?_
    have hP : va_P D vwCl [(v, .inr (8, [.ref a0, .ref a1, .ref a2, .ref a3, .int (iI (e4)), .ref a5, .int (iI (e6)), .ref a7, .int (iI (y8)), .int (iI (y9)), .int (iI (y10)), .ref a11, .int (iI (e12)), .int (iI (e13)), .int (iI (e14)), .ref a15])), (a0, fA cyI 54 gq), (a1, fA cyI 54 (((toI m)))), (a3, fA cyI 216 d), (a7, fA cyI 3328 l7)] H := hP
    have hD : va_D (fp_A [(v, .inr (8, [.ref a0, .ref a1, .ref a2, .ref a3, .int (iI (e4)), .ref a5, .int (iI (e6)), .ref a7, .int (iI (e8)), .int (iI (e9)), .int (iI (e10)), .ref a11, .int (iI (e12)), .int (iI (e13)), .int (iI (e14)), .ref a15])), (a0, fA cyI 54 m), (a1, fA cyI 54 kc), (a3, fA cyI 216 d), (a7, fA cyI 3328 le)]) [(v, .inr (8, [.ref a0, .ref a1, .ref a2, .ref a3, .int (iI (e4)), .ref a5, .int (iI (e6)), .ref a7, .int (iI (y8)), .int (iI (y9)), .int (iI (y10)), .ref a11, .int (iI (e12)), .int (iI (e13)), .int (iI (e14)), .ref a15])), (a0, fA cyI 54 gq), (a1, fA cyI 54 (((toI m)))), (a3, fA cyI 216 d), (a7, fA cyI 3328 l7)] := hD
    have hAq : Agr (cM gq) (cM m) := Agr_tr pAg_17 (Agr_of (Same_sy hT))
    have hOq : Opt (cM m) (cM gq) (cM m (49 + 0)) (cM m 0) := by
      have := Opt_f (Agr_of (Same_sy hT)) (by rw [cM_0, eT5]; omega) pOp_17
      rw [eT5, ← (Same_set hT).1, ← e0] at this
      exact this
    have hpe := pl_eq hC pUn_17
    have h01 := eqN_01 gq (toI m) 54
    have hN0 : cM gq 0 ≤ 12 := pOK_17.1.2
    have hsc := Same_cpA hAq hN0
    have hC9 : CatOK (cpI (cM m) (cM gq) 0 0 49) := Same_Cat (Same_sy hsc) pOK_17
    have hcs := Same_cs hsc hC9
    have hpos := cs_nn hC9
    refine lv_aload_n hx hb dX8_plan_20 rfl (lv_at hl 0 rfl) ?_
    refine fp_pV (As := []) (rest := []) (wsC := [(v, .inr (8, [.ref a0, .ref a1, .ref a2, .ref a3, .int (iI (e4)), .ref a5, .int (iI (e6)), .ref a7, .int (iI (y8)), .int (iI (y9)), .int (iI (y10)), .ref a11, .int (iI (e12)), .int (iI (e13)), .int (iI (e14)), .ref a15])), (a0, fA cyI 54 gq), (a1, fA cyI 54 (((toI m)))), (a3, fA cyI 216 d), (a7, fA cyI 3328 l7)]) ⟨hx, hb, hml, hown, hts⟩ (c_X8_isAsKept l D cyI v a0 a1 a2 a3 e4 a5 e6 a7 y8 y9 y10 a11 e12 e13 e14 a15 gq (((toI m))) (ch_rg pOK_17 pAg_17.1 pUn_17) (fun j _ _ => toI_rg m j)) (cwV 0 hts gX8_plan_X8_isAsKept rfl rfl rfl (by decide +kernel) ⟨Nat.le_of_ble_eq_true rfl, Nat.le_of_ble_eq_true rfl⟩) hK hP hD [0, 1, 2] (by decide) rfl rfl rfl rfl hl.1 rfl (Nat.le_of_ble_eq_true rfl) dX8_plan_21 ⟨Nat.zero_le _, Nat.zero_le _⟩ ?_
    refine fp_if_eq (tgt := 32) hx hb (by omega) dX8_plan_24 (by decide) (fun q24 => ?_) (fun q24 => ?_)
    · skip
      have h39 : ¬ sameI (cM m) (cM gq) (cM m 0 * 4).toNat = 1 := fun z => by have := hpe.mpr z; omega
      refine lv_aload_n hx hb dX8_plan_32 rfl (lv_at hl 0 rfl) ?_
      refine lv_aload_n hx hb dX8_plan_33 rfl (lv_at hl 0 rfl) ?_
      refine fp_pV (As := []) (rest := [.ref v]) (wsC := [(v, .inr (8, [.ref a0, .ref a1, .ref a2, .ref a3, .int (iI (e4)), .ref a5, .int (iI (e6)), .ref a7, .int (iI (y8)), .int (iI (y9)), .int (iI (y10)), .ref a11, .int (iI (e12)), .int (iI (e13)), .int (iI (e14)), .ref a15])), (a0, fA cyI 54 gq), (a1, fA cyI 54 (((toI m)))), (a3, fA cyI 216 d), (a7, fA cyI 3328 l7)]) ⟨hx, hb, hml, hown, hts⟩ (c_X8_cost l D cyI v a0 a1 a2 a3 e4 a5 e6 a7 y8 y9 y10 a11 e12 e13 e14 a15 gq pOK_17) (cwV 0 hts gX8_plan_X8_cost rfl rfl rfl (by decide +kernel) ⟨Nat.le_of_ble_eq_true rfl, Nat.le_of_ble_eq_true rfl⟩) hK hP hD [0, 1] (by decide) rfl rfl rfl rfl hl.1 rfl (Nat.le_of_ble_eq_true rfl) dX8_plan_34 ⟨Nat.zero_le _, Nat.zero_le _⟩ ?_
      obtain ⟨hP, hD⟩ := fp_nrm (ws := [(v, .inr (8, [.ref a0, .ref a1, .ref a2, .ref a3, .int (iI (e4)), .ref a5, .int (iI (e6)), .ref a7, .int (iI (y8)), .int (iI (y9)), .int (iI (y10)), .ref a11, .int (iI (e12)), .int (iI (e13)), .int (iI (e14)), .ref a15])), (a0, fA cyI 54 gq), (a1, fA cyI 54 (((toI m)))), (a3, fA cyI 216 d), (a7, fA cyI 3328 l7)]) (f := ((toI m))) (f' := m) hP hD 2 rfl (fun j => (iI_to m j).symm)
      have hP : va_P D vwCl [(v, .inr (8, [.ref a0, .ref a1, .ref a2, .ref a3, .int (iI (e4)), .ref a5, .int (iI (e6)), .ref a7, .int (iI (y8)), .int (iI (y9)), .int (iI (y10)), .ref a11, .int (iI (e12)), .int (iI (e13)), .int (iI (e14)), .ref a15])), (a0, fA cyI 54 gq), (a1, fA cyI 54 m), (a3, fA cyI 216 d), (a7, fA cyI 3328 l7)] H := hP
      have hD : va_D (fp_A [(v, .inr (8, [.ref a0, .ref a1, .ref a2, .ref a3, .int (iI (e4)), .ref a5, .int (iI (e6)), .ref a7, .int (iI (e8)), .int (iI (e9)), .int (iI (e10)), .ref a11, .int (iI (e12)), .int (iI (e13)), .int (iI (e14)), .ref a15])), (a0, fA cyI 54 m), (a1, fA cyI 54 kc), (a3, fA cyI 216 d), (a7, fA cyI 3328 le)]) [(v, .inr (8, [.ref a0, .ref a1, .ref a2, .ref a3, .int (iI (e4)), .ref a5, .int (iI (e6)), .ref a7, .int (iI (y8)), .int (iI (y9)), .int (iI (y10)), .ref a11, .int (iI (e12)), .int (iI (e13)), .int (iI (e14)), .ref a15])), (a0, fA cyI 54 gq), (a1, fA cyI 54 m), (a3, fA cyI 216 d), (a7, fA cyI 3328 l7)] := hD
      rw [show (csC (cM gq) : Int) = csC (cpI (cM m) (cM gq) 0 0 49) from hcs.symm]
      refine fp_wV (As := [.int (iI (csC (cpI (cM m) (cM gq) 0 0 49)))]) (rest := []) (wsC := [(v, .inr (8, [.ref a0, .ref a1, .ref a2, .ref a3, .int (iI (e4)), .ref a5, .int (iI (e6)), .ref a7, .int (iI (y8)), .int (iI (y9)), .int (iI (y10)), .ref a11, .int (iI (e12)), .int (iI (e13)), .int (iI (e14)), .ref a15])), (a0, fA cyI 54 gq), (a1, fA cyI 54 m), (a3, fA cyI 216 d), (a7, fA cyI 3328 l7)]) ⟨hx, hb, hml, hown, hts⟩ (c_X8_acted l D cyI v a0 a1 a2 a3 e4 a5 e6 a7 y8 y9 y10 a11 e12 e13 e14 a15 m d (csC (cpI (cM m) (cM gq) 0 0 49)) (by omega)) (cwV 1 hts gX8_plan_X8_acted rfl rfl rfl (by decide +kernel) ⟨Nat.le_of_ble_eq_true rfl, Nat.le_of_ble_eq_true rfl⟩) (fun _ => rfl) hK hP hD hS [0, 2, 3] (by decide) rfl rfl rfl rfl hl.1 rfl (Nat.le_of_ble_eq_true rfl) dX8_plan_37 ⟨Nat.zero_le _, Nat.zero_le _⟩ (fun u9v H locs hu hP hD hS => ?_)
      refine W.eq (g2 := F0 mi 40 ls [.int (iI ((csC (cpI (cM m) (cM gq) 0 0 49))))]) rfl ?_
      have hP : va_P D vwCl [(v, .inr (8, [.ref a0, .ref a1, .ref a2, .ref a3, .int (iI (recN e4)), .ref a5, .int (iI (e6)), .ref a7, .int (iI (y8)), .int (iI (y9)), .int (iI (y10)), .ref a11, .int (iI (e12)), .int (iI (e13)), .int (iI (e14)), .ref a15])), (a0, fA cyI 54 gq), (a1, fA cyI 54 m), (a3, fA cyI 216 (recH d m e4)), (a7, fA cyI 3328 l7)] H := hP
      have hD : va_D (fp_A [(v, .inr (8, [.ref a0, .ref a1, .ref a2, .ref a3, .int (iI (e4)), .ref a5, .int (iI (e6)), .ref a7, .int (iI (e8)), .int (iI (e9)), .int (iI (e10)), .ref a11, .int (iI (e12)), .int (iI (e13)), .int (iI (e14)), .ref a15])), (a0, fA cyI 54 m), (a1, fA cyI 54 kc), (a3, fA cyI 216 d), (a7, fA cyI 3328 le)]) [(v, .inr (8, [.ref a0, .ref a1, .ref a2, .ref a3, .int (iI (recN e4)), .ref a5, .int (iI (e6)), .ref a7, .int (iI (y8)), .int (iI (y9)), .int (iI (y10)), .ref a11, .int (iI (e12)), .int (iI (e13)), .int (iI (e14)), .ref a15])), (a0, fA cyI 54 gq), (a1, fA cyI 54 m), (a3, fA cyI 216 (recH d m e4)), (a7, fA cyI 3328 l7)] := hD
      have hR : plR (cM m) (cM gq) = (csC (cpI (cM m) (cM gq) 0 0 49)) := by unfold plR; repeat (first | rw [if_pos (by omega)] | rw [if_neg (by omega)]); try (first | rfl | omega)
      have hpS : Same (if 0 ≤ plR (cM m) (cM gq) then cpI (cM m) (cM gq) 0 0 49 else cM m) (cM gq) := by first | (rw [if_pos (by omega)]; exact hsc) | (rw [if_neg (by omega)]; exact hsm)
      have hP : va_P D vwCl [(v, .inr (8, [.ref a0, .ref a1, .ref a2, .ref a3, .int (iI (if 0 ≤ plR (cM m) (cM gq) then recN e4 else e4)), .ref a5, .int (iI (e6)), .ref a7, .int (iI (y8)), .int (iI (y9)), .int (iI (y10)), .ref a11, .int (iI (e12)), .int (iI (e13)), .int (iI (e14)), .ref a15])), (a0, fA cyI 54 gq), (a1, fA cyI 54 m), (a3, fA cyI 216 (if 0 ≤ plR (cM m) (cM gq) then recH d m e4 else d)), (a7, fA cyI 3328 l7)] H := by
        rw [(show (recH d m e4 : Int → Int) = if 0 ≤ plR (cM m) (cM gq) then recH d m e4 else d from (by first | rw [if_pos (by omega)] | rw [if_neg (by omega)])).symm]
        rw [(show (recN e4 : Int) = if 0 ≤ plR (cM m) (cM gq) then recN e4 else e4 from (by first | rw [if_pos (by omega)] | rw [if_neg (by omega)])).symm]
        exact hP
      have hret : (plR (cM m) (cM gq) : Int) = (csC (cpI (cM m) (cM gq) 0 0 49)) := (by exact hR)
      exact fp_wret (gq, gq, m, l7, y8, y9, y10) hx hb hr hlocks hS (by dsimp only; exact hP) ⟨hAq, pOK_17, hOq, hpS⟩ (congrArg (fun z : Int => some (Value.int (iI z))) hret) dX8_plan_40
    · skip
      have h38 : eqN gq (toI m) 54 = 1 := by omega
      have h39 := hpe.mp h38
      have hsm : Same (cM m) (cM gq) := Same_tr hT (Same_ce ((eqN_iff _ _ 54).mp h38) (by omega))
      refine fp_bipush hx hb dX8_plan_27 (by decide) ?_
      refine lv_goto (tgt := 40) hx hb dX8_plan_29 (by decide) ?_
      have hR : plR (cM m) (cM gq) = (-5) := by unfold plR; repeat (first | rw [if_pos (by omega)] | rw [if_neg (by omega)]); try (first | rfl | omega)
      have hpS : Same (if 0 ≤ plR (cM m) (cM gq) then cpI (cM m) (cM gq) 0 0 49 else cM m) (cM gq) := by first | (rw [if_pos (by omega)]; exact hsc) | (rw [if_neg (by omega)]; exact hsm)
      have hP : va_P D vwCl [(v, .inr (8, [.ref a0, .ref a1, .ref a2, .ref a3, .int (iI (if 0 ≤ plR (cM m) (cM gq) then recN e4 else e4)), .ref a5, .int (iI (e6)), .ref a7, .int (iI (y8)), .int (iI (y9)), .int (iI (y10)), .ref a11, .int (iI (e12)), .int (iI (e13)), .int (iI (e14)), .ref a15])), (a0, fA cyI 54 gq), (a1, fA cyI 54 (((toI m)))), (a3, fA cyI 216 (if 0 ≤ plR (cM m) (cM gq) then recH d m e4 else d)), (a7, fA cyI 3328 l7)] H := by
        rw [(show (d : Int → Int) = if 0 ≤ plR (cM m) (cM gq) then recH d m e4 else d from (by first | rw [if_pos (by omega)] | rw [if_neg (by omega)])).symm]
        rw [(show (e4 : Int) = if 0 ≤ plR (cM m) (cM gq) then recN e4 else e4 from (by first | rw [if_pos (by omega)] | rw [if_neg (by omega)])).symm]
        exact hP
      have hret : (plR (cM m) (cM gq) : Int) = (-5) := (by exact hR)
      exact fp_wret (gq, gq, ((toI m)), l7, y8, y9, y10) hx hb hr hlocks hS (by dsimp only; exact hP) ⟨hAq, pOK_17, hOq, hpS⟩ (congrArg (fun z : Int => some (Value.int (iI z))) hret) dX8_plan_40
  · skip
    exact absurd q6 (by omega)
theorem fl_X8_type_187 : Cond.fieldLink RX8 187 "FacingPlatesModel" "textLong" "I" ∈ wsX8_type := by decide +kernel
theorem fl_X8_type_28 : Cond.fieldLink RX8 28 "FacingPlatesModel" "text" "[I" ∈ wsX8_type := by decide +kernel
set_option maxHeartbeats 4000000 in
set_option maxRecDepth 100000 in
theorem c_X8_type (l : Launch) (D : va_G) (cyI : ClassId) (v : Nat) (a0 : Nat) (a1 : Nat) (a2 : Nat) (a3 : Nat) (e4 : Int) (a5 : Nat) (e6 : Int) (a7 : Nat) (e8 : Int) (e9 : Int) (e10 : Int) (a11 : Nat) (e12 : Int) (e13 : Int) (e14 : Int) (a15 : Nat) (x : Int → Int) (w : Int) (hnx : 0 ≤ e12 ∧ e12 ≤ 60) : fp_MW l yX8_type wsX8_type ({ frames := 0, cells := 0, slots := 0, locals := 0 } : Room) D cyI [(v, .inr (8, [.ref a0, .ref a1, .ref a2, .ref a3, .int (iI (e4)), .ref a5, .int (iI (e6)), .ref a7, .int (iI (e8)), .int (iI (e9)), .int (iI (e10)), .ref a11, .int (iI (e12)), .int (iI (e13)), .int (iI (e14)), .ref a15])), (a11, fA cyI 60 x)] [.ref v, .int (iI (w))] (fun (u9 : Unit) => True) (fun (u9 : Unit) => some (.int (iI (if 60 ≤ e12 then -3 else e12 + 1)))) (fun (u9 : Unit) => [(v, .inr (8, [.ref a0, .ref a1, .ref a2, .ref a3, .int (iI (e4)), .ref a5, .int (iI (e6)), .ref a7, .int (iI (e8)), .int (iI (e9)), .int (iI (e10)), .ref a11, .int (iI (if 60 ≤ e12 then e12 else e12 + 1)), .int (iI (e13)), .int (iI (e14)), .ref a15])), (a11, fA cyI 60 (if 60 ≤ e12 then x else upI x e12 w))]) := by
  refine fp_start (cc := cX8_type) (maxL := 2) (ret := (some .int)) (by decide) rfl (Nat.le_of_ble_eq_true rfl) ?_
  intro pg en sx mi ar bl mt cd ls hx hb hr hts hown hlocks hml hnm hP hK hD hl
  have hown : sx.vm.findClass RX8 = some mi.cls := hown
  have hl : lv_has ls 2 [(0, .ref v), (1, .int (iI (w)))] := hl
  have hD := fp_self hD
  have hS : va_S (fp_A [(v, .inr (8, [.ref a0, .ref a1, .ref a2, .ref a3, .int (iI (e4)), .ref a5, .int (iI (e6)), .ref a7, .int (iI (e8)), .int (iI (e9)), .int (iI (e10)), .ref a11, .int (iI (e12)), .int (iI (e13)), .int (iI (e14)), .ref a15])), (a11, fA cyI 60 x)]) sx.heap sx.heap [] := va_S.rf
  refine lv_aload_n hx hb dX8_type_0 rfl (lv_at hl 0 rfl) ?_
  refine va_get (D := D) (ci := 8) (ws := [(v, .inr (8, [.ref a0, .ref a1, .ref a2, .ref a3, .int (iI (e4)), .ref a5, .int (iI (e6)), .ref a7, .int (iI (e8)), .int (iI (e9)), .int (iI (e10)), .ref a11, .int (iI (e12)), .int (iI (e13)), .int (iI (e14)), .ref a15])), (a11, fA cyI 60 x)]) (v := .int (iI (e12))) (C := RX8) (T := TX8) (N := 16) hx hb hts (fun _ h => List.mem_cons_of_mem _ (List.mem_append_right _ h)) hown hK.1 hP 0 rfl rfl 12 (by decide) (hts _ fl_X8_type_187) (fun _ h9 => h9) rfl dX8_type_1 ?_
  refine fp_bipush hx hb dX8_type_4 (by decide) ?_
  refine fp_icmp_ne (tgt := 12) hx hb (by omega) dX8_type_6 (by decide) (fun q6 => ?_) (fun q6 => ?_)
  · skip
    refine lv_aload_n hx hb dX8_type_12 rfl (lv_at hl 0 rfl) ?_
    refine va_get (D := D) (ci := 8) (ws := [(v, .inr (8, [.ref a0, .ref a1, .ref a2, .ref a3, .int (iI (e4)), .ref a5, .int (iI (e6)), .ref a7, .int (iI (e8)), .int (iI (e9)), .int (iI (e10)), .ref a11, .int (iI (e12)), .int (iI (e13)), .int (iI (e14)), .ref a15])), (a11, fA cyI 60 x)]) (v := .ref a11) (C := RX8) (T := TX8) (N := 16) hx hb hts (fun _ h => List.mem_cons_of_mem _ (List.mem_append_right _ h)) hown hK.1 hP 0 rfl rfl 11 (by decide) (hts _ fl_X8_type_28) (fun _ h9 => h9) rfl dX8_type_13 ?_
    refine lv_aload_n hx hb dX8_type_16 rfl (lv_at hl 0 rfl) ?_
    refine va_get (D := D) (ci := 8) (ws := [(v, .inr (8, [.ref a0, .ref a1, .ref a2, .ref a3, .int (iI (e4)), .ref a5, .int (iI (e6)), .ref a7, .int (iI (e8)), .int (iI (e9)), .int (iI (e10)), .ref a11, .int (iI (e12)), .int (iI (e13)), .int (iI (e14)), .ref a15])), (a11, fA cyI 60 x)]) (v := .int (iI (e12))) (C := RX8) (T := TX8) (N := 16) hx hb hts (fun _ h => List.mem_cons_of_mem _ (List.mem_append_right _ h)) hown hK.1 hP 0 rfl rfl 12 (by decide) (hts _ fl_X8_type_187) (fun _ h9 => h9) rfl dX8_type_17 ?_
    refine lv_iload_n hx hb dX8_type_20 rfl (lv_at hl 1 rfl) ?_
    refine fp_iast (wsC := [(v, .inr (8, [.ref a0, .ref a1, .ref a2, .ref a3, .int (iI (e4)), .ref a5, .int (iI (e6)), .ref a7, .int (iI (e8)), .int (iI (e9)), .int (iI (e10)), .ref a11, .int (iI (e12)), .int (iI (e13)), .int (iI (e14)), .ref a15])), (a11, fA cyI 60 x)]) hx hb hK hP hD hS 1 rfl (by omega) (by decide) dX8_type_21 (fun H locs hP hD hS => ?_)
    have hP : va_P D vwCl [(v, .inr (8, [.ref a0, .ref a1, .ref a2, .ref a3, .int (iI (e4)), .ref a5, .int (iI (e6)), .ref a7, .int (iI (e8)), .int (iI (e9)), .int (iI (e10)), .ref a11, .int (iI (e12)), .int (iI (e13)), .int (iI (e14)), .ref a15])), (a11, fA cyI 60 (upI (x) (e12) (w)))] H := hP
    have hD : va_D (fp_A [(v, .inr (8, [.ref a0, .ref a1, .ref a2, .ref a3, .int (iI (e4)), .ref a5, .int (iI (e6)), .ref a7, .int (iI (e8)), .int (iI (e9)), .int (iI (e10)), .ref a11, .int (iI (e12)), .int (iI (e13)), .int (iI (e14)), .ref a15])), (a11, fA cyI 60 x)]) [(v, .inr (8, [.ref a0, .ref a1, .ref a2, .ref a3, .int (iI (e4)), .ref a5, .int (iI (e6)), .ref a7, .int (iI (e8)), .int (iI (e9)), .int (iI (e10)), .ref a11, .int (iI (e12)), .int (iI (e13)), .int (iI (e14)), .ref a15])), (a11, fA cyI 60 (upI (x) (e12) (w)))] := hD
    refine lv_aload_n hx hb dX8_type_22 rfl (lv_at hl 0 rfl) ?_
    refine lv_dup hx hb dX8_type_23 rfl ?_
    refine va_get (D := D) (ci := 8) (ws := [(v, .inr (8, [.ref a0, .ref a1, .ref a2, .ref a3, .int (iI (e4)), .ref a5, .int (iI (e6)), .ref a7, .int (iI (e8)), .int (iI (e9)), .int (iI (e10)), .ref a11, .int (iI (e12)), .int (iI (e13)), .int (iI (e14)), .ref a15])), (a11, fA cyI 60 (upI (x) (e12) (w)))]) (v := .int (iI (e12))) (C := RX8) (T := TX8) (N := 16) hx hb hts (fun _ h => List.mem_cons_of_mem _ (List.mem_append_right _ h)) hown hK.1 hP 0 rfl rfl 12 (by decide) (hts _ fl_X8_type_187) (fun _ h9 => h9) rfl dX8_type_24 ?_
    refine fp_iconst hx hb dX8_type_27 ?_
    refine fp_iadd hx hb dX8_type_28 ?_
    refine va_put (D := D) (ci := 8) (ws := [(v, .inr (8, [.ref a0, .ref a1, .ref a2, .ref a3, .int (iI (e4)), .ref a5, .int (iI (e6)), .ref a7, .int (iI (e8)), .int (iI (e9)), .int (iI (e10)), .ref a11, .int (iI (e12)), .int (iI (e13)), .int (iI (e14)), .ref a15])), (a11, fA cyI 60 (upI (x) (e12) (w)))]) (v := .int (iI (e12 + 1))) (ty := .int) (C := RX8) (T := TX8) (N := 16) hx hb hts (fun _ h => List.mem_cons_of_mem _ (List.mem_append_right _ h)) tyX8 tyX8_ok nmX8 hown hK.1 hP hD hS 0 rfl rfl 12 (by decide) (hts _ fl_X8_type_187) (fun _ h9 => h9) rfl (by decide +kernel) rfl rfl (Nat.le_of_ble_eq_true rfl) dX8_type_29 (fun H locs hP hD hS => ?_)
    have hP : va_P D vwCl [(v, .inr (8, [.ref a0, .ref a1, .ref a2, .ref a3, .int (iI (e4)), .ref a5, .int (iI (e6)), .ref a7, .int (iI (e8)), .int (iI (e9)), .int (iI (e10)), .ref a11, .int (iI (e12 + 1)), .int (iI (e13)), .int (iI (e14)), .ref a15])), (a11, fA cyI 60 (upI (x) (e12) (w)))] H := hP
    have hD : va_D (fp_A [(v, .inr (8, [.ref a0, .ref a1, .ref a2, .ref a3, .int (iI (e4)), .ref a5, .int (iI (e6)), .ref a7, .int (iI (e8)), .int (iI (e9)), .int (iI (e10)), .ref a11, .int (iI (e12)), .int (iI (e13)), .int (iI (e14)), .ref a15])), (a11, fA cyI 60 x)]) [(v, .inr (8, [.ref a0, .ref a1, .ref a2, .ref a3, .int (iI (e4)), .ref a5, .int (iI (e6)), .ref a7, .int (iI (e8)), .int (iI (e9)), .int (iI (e10)), .ref a11, .int (iI (e12 + 1)), .int (iI (e13)), .int (iI (e14)), .ref a15])), (a11, fA cyI 60 (upI (x) (e12) (w)))] := hD
    refine lv_aload_n hx hb dX8_type_32 rfl (lv_at hl 0 rfl) ?_
    refine va_get (D := D) (ci := 8) (ws := [(v, .inr (8, [.ref a0, .ref a1, .ref a2, .ref a3, .int (iI (e4)), .ref a5, .int (iI (e6)), .ref a7, .int (iI (e8)), .int (iI (e9)), .int (iI (e10)), .ref a11, .int (iI (e12 + 1)), .int (iI (e13)), .int (iI (e14)), .ref a15])), (a11, fA cyI 60 (upI (x) (e12) (w)))]) (v := .int (iI (e12 + 1))) (C := RX8) (T := TX8) (N := 16) hx hb hts (fun _ h => List.mem_cons_of_mem _ (List.mem_append_right _ h)) hown hK.1 hP 0 rfl rfl 12 (by decide) (hts _ fl_X8_type_187) (fun _ h9 => h9) rfl dX8_type_33 ?_
    have hR : (if 60 ≤ e12 then -3 else e12 + 1 : Int) = e12 + 1 := by first | rw [if_pos (by omega)] | rw [if_neg (by omega)]
    have hP : va_P D vwCl [(v, .inr (8, [.ref a0, .ref a1, .ref a2, .ref a3, .int (iI (e4)), .ref a5, .int (iI (e6)), .ref a7, .int (iI (e8)), .int (iI (e9)), .int (iI (e10)), .ref a11, .int (iI (if 60 ≤ e12 then e12 else e12 + 1)), .int (iI (e13)), .int (iI (e14)), .ref a15])), (a11, fA cyI 60 (if 60 ≤ e12 then x else upI x e12 w))] H := by
      rw [(show (upI (x) (e12) (w) : Int → Int) = if 60 ≤ e12 then x else upI x e12 w from (by first | rw [if_pos (by omega)] | rw [if_neg (by omega)])).symm]
      rw [(show (e12 + 1 : Int) = if 60 ≤ e12 then e12 else e12 + 1 from (by first | rw [if_pos (by omega)] | rw [if_neg (by omega)])).symm]
      exact hP
    have hret : (if 60 ≤ e12 then -3 else e12 + 1 : Int) = e12 + 1 := (by exact hR)
    exact fp_wret () hx hb hr hlocks hS hP trivial (congrArg (fun z : Int => some (Value.int (iI z))) hret) dX8_type_36
  · skip
    refine fp_bipush hx hb dX8_type_9 (by decide) ?_
    have hR : (if 60 ≤ e12 then -3 else e12 + 1 : Int) = (-3) := by first | rw [if_pos (by omega)] | rw [if_neg (by omega)]
    have hP : va_P D vwCl [(v, .inr (8, [.ref a0, .ref a1, .ref a2, .ref a3, .int (iI (e4)), .ref a5, .int (iI (e6)), .ref a7, .int (iI (e8)), .int (iI (e9)), .int (iI (e10)), .ref a11, .int (iI (if 60 ≤ e12 then e12 else e12 + 1)), .int (iI (e13)), .int (iI (e14)), .ref a15])), (a11, fA cyI 60 (if 60 ≤ e12 then x else upI x e12 w))] sx.heap := by
      rw [(show (x : Int → Int) = if 60 ≤ e12 then x else upI x e12 w from (by first | rw [if_pos (by omega)] | rw [if_neg (by omega)])).symm]
      rw [(show (e12 : Int) = if 60 ≤ e12 then e12 else e12 + 1 from (by first | rw [if_pos (by omega)] | rw [if_neg (by omega)])).symm]
      exact hP
    have hret : (if 60 ≤ e12 then -3 else e12 + 1 : Int) = (-3) := (by exact hR)
    exact fp_wret () hx hb hr hlocks hS hP trivial (congrArg (fun z : Int => some (Value.int (iI z))) hret) dX8_type_11
theorem fl_X8_clearText_187 : Cond.fieldLink RX8 187 "FacingPlatesModel" "textLong" "I" ∈ wsX8_clearText := by decide +kernel
set_option maxHeartbeats 4000000 in
set_option maxRecDepth 100000 in
theorem c_X8_clearText (l : Launch) (D : va_G) (cyI : ClassId) (v : Nat) (a0 : Nat) (a1 : Nat) (a2 : Nat) (a3 : Nat) (e4 : Int) (a5 : Nat) (e6 : Int) (a7 : Nat) (e8 : Int) (e9 : Int) (e10 : Int) (a11 : Nat) (e12 : Int) (e13 : Int) (e14 : Int) (a15 : Nat) : fp_MW l yX8_clearText wsX8_clearText ({ frames := 0, cells := 0, slots := 0, locals := 0 } : Room) D cyI [(v, .inr (8, [.ref a0, .ref a1, .ref a2, .ref a3, .int (iI (e4)), .ref a5, .int (iI (e6)), .ref a7, .int (iI (e8)), .int (iI (e9)), .int (iI (e10)), .ref a11, .int (iI (e12)), .int (iI (e13)), .int (iI (e14)), .ref a15]))] [.ref v] (fun (u9 : Unit) => True) (fun (u9 : Unit) => some (.int (iI (e12)))) (fun (u9 : Unit) => [(v, .inr (8, [.ref a0, .ref a1, .ref a2, .ref a3, .int (iI (e4)), .ref a5, .int (iI (e6)), .ref a7, .int (iI (e8)), .int (iI (e9)), .int (iI (e10)), .ref a11, .int (iI (0)), .int (iI (e13)), .int (iI (e14)), .ref a15]))]) := by
  refine fp_start (cc := cX8_clearText) (maxL := 2) (ret := (some .int)) (by decide) rfl (Nat.le_of_ble_eq_true rfl) ?_
  intro pg en sx mi ar bl mt cd ls hx hb hr hts hown hlocks hml hnm hP hK hD hl
  have hown : sx.vm.findClass RX8 = some mi.cls := hown
  have hl : lv_has ls 2 [(0, .ref v)] := hl
  have hD := fp_self hD
  have hS : va_S (fp_A [(v, .inr (8, [.ref a0, .ref a1, .ref a2, .ref a3, .int (iI (e4)), .ref a5, .int (iI (e6)), .ref a7, .int (iI (e8)), .int (iI (e9)), .int (iI (e10)), .ref a11, .int (iI (e12)), .int (iI (e13)), .int (iI (e14)), .ref a15]))]) sx.heap sx.heap [] := va_S.rf
  refine lv_aload_n hx hb dX8_clearText_0 rfl (lv_at hl 0 rfl) ?_
  refine va_get (D := D) (ci := 8) (ws := [(v, .inr (8, [.ref a0, .ref a1, .ref a2, .ref a3, .int (iI (e4)), .ref a5, .int (iI (e6)), .ref a7, .int (iI (e8)), .int (iI (e9)), .int (iI (e10)), .ref a11, .int (iI (e12)), .int (iI (e13)), .int (iI (e14)), .ref a15]))]) (v := .int (iI (e12))) (C := RX8) (T := TX8) (N := 16) hx hb hts (fun _ h => List.mem_cons_of_mem _ (List.mem_append_right _ h)) hown hK.1 hP 0 rfl rfl 12 (by decide) (hts _ fl_X8_clearText_187) (fun _ h9 => h9) rfl dX8_clearText_1 ?_
  refine lv_istore_n (lv' := [(1, .int (iI (e12))), (0, .ref v)]) hx hb dX8_clearText_4 rfl hl (by decide) rfl (fun ls hl => ?_)
  refine lv_aload_n hx hb dX8_clearText_5 rfl (lv_at hl 1 rfl) ?_
  refine fp_iconst hx hb dX8_clearText_6 ?_
  refine va_put (D := D) (ci := 8) (ws := [(v, .inr (8, [.ref a0, .ref a1, .ref a2, .ref a3, .int (iI (e4)), .ref a5, .int (iI (e6)), .ref a7, .int (iI (e8)), .int (iI (e9)), .int (iI (e10)), .ref a11, .int (iI (e12)), .int (iI (e13)), .int (iI (e14)), .ref a15]))]) (v := .int (iI (0))) (ty := .int) (C := RX8) (T := TX8) (N := 16) hx hb hts (fun _ h => List.mem_cons_of_mem _ (List.mem_append_right _ h)) tyX8 tyX8_ok nmX8 hown hK.1 hP hD hS 0 rfl rfl 12 (by decide) (hts _ fl_X8_clearText_187) (fun _ h9 => h9) rfl (by decide +kernel) rfl rfl (Nat.le_of_ble_eq_true rfl) dX8_clearText_7 (fun H locs hP hD hS => ?_)
  have hP : va_P D vwCl [(v, .inr (8, [.ref a0, .ref a1, .ref a2, .ref a3, .int (iI (e4)), .ref a5, .int (iI (e6)), .ref a7, .int (iI (e8)), .int (iI (e9)), .int (iI (e10)), .ref a11, .int (iI (0)), .int (iI (e13)), .int (iI (e14)), .ref a15]))] H := hP
  have hD : va_D (fp_A [(v, .inr (8, [.ref a0, .ref a1, .ref a2, .ref a3, .int (iI (e4)), .ref a5, .int (iI (e6)), .ref a7, .int (iI (e8)), .int (iI (e9)), .int (iI (e10)), .ref a11, .int (iI (e12)), .int (iI (e13)), .int (iI (e14)), .ref a15]))]) [(v, .inr (8, [.ref a0, .ref a1, .ref a2, .ref a3, .int (iI (e4)), .ref a5, .int (iI (e6)), .ref a7, .int (iI (e8)), .int (iI (e9)), .int (iI (e10)), .ref a11, .int (iI (0)), .int (iI (e13)), .int (iI (e14)), .ref a15]))] := hD
  refine lv_iload_n hx hb dX8_clearText_10 rfl (lv_at hl 0 rfl) ?_
  have hret : (e12 : Int) = e12 := rfl
  exact fp_wret () hx hb hr hlocks hS hP trivial (congrArg (fun z : Int => some (Value.int (iI z))) hret) dX8_clearText_11
theorem fl_X8_undo_38 : Cond.fieldLink RX8 38 "FacingPlatesModel" "historyLong" "I" ∈ wsX8_undo := by decide +kernel
theorem fl_X8_undo_7 : Cond.fieldLink RX8 7 "FacingPlatesModel" "all" "[I" ∈ wsX8_undo := by decide +kernel
theorem fl_X8_undo_19 : Cond.fieldLink RX8 19 "FacingPlatesModel" "history" "[I" ∈ wsX8_undo := by decide +kernel
set_option maxHeartbeats 4000000 in
set_option maxRecDepth 100000 in
theorem c_X8_undo (l : Launch) (D : va_G) (cyI : ClassId) (v : Nat) (a0 : Nat) (a1 : Nat) (a2 : Nat) (a3 : Nat) (e4 : Int) (a5 : Nat) (e6 : Int) (a7 : Nat) (e8 : Int) (e9 : Int) (e10 : Int) (a11 : Nat) (e12 : Int) (e13 : Int) (e14 : Int) (a15 : Nat) (m : Int → Int) (d : Int → Int) (he4 : 0 ≤ e4 ∧ e4 ≤ 4) : fp_MW l yX8_undo wsX8_undo ({ frames := 0, cells := 0, slots := 0, locals := 0 } : Room) D cyI [(v, .inr (8, [.ref a0, .ref a1, .ref a2, .ref a3, .int (iI (e4)), .ref a5, .int (iI (e6)), .ref a7, .int (iI (e8)), .int (iI (e9)), .int (iI (e10)), .ref a11, .int (iI (e12)), .int (iI (e13)), .int (iI (e14)), .ref a15])), (a0, fA cyI 54 m), (a3, fA cyI 216 d)] [.ref v] (fun (u9 : Unit) => True) (fun (u9 : Unit) => some (.int (iI (if e4 = 0 then -5 else e4 - 1)))) (fun (u9 : Unit) => [(v, .inr (8, [.ref a0, .ref a1, .ref a2, .ref a3, .int (iI (if e4 = 0 then e4 else e4 - 1)), .ref a5, .int (iI (e6)), .ref a7, .int (iI (e8)), .int (iI (e9)), .int (iI (e10)), .ref a11, .int (iI (e12)), .int (iI (e13)), .int (iI (e14)), .ref a15])), (a0, fA cyI 54 (if e4 = 0 then m else shfI d ((e4 - 1) * 54))), (a3, fA cyI 216 d)]) := by
  refine fp_start (cc := cX8_undo) (maxL := 2) (ret := (some .int)) (by decide) rfl (Nat.le_of_ble_eq_true rfl) ?_
  intro pg en sx mi ar bl mt cd ls hx hb hr hts hown hlocks hml hnm hP hK hD hl
  have hown : sx.vm.findClass RX8 = some mi.cls := hown
  have hl : lv_has ls 2 [(0, .ref v)] := hl
  have hD := fp_self hD
  have hS : va_S (fp_A [(v, .inr (8, [.ref a0, .ref a1, .ref a2, .ref a3, .int (iI (e4)), .ref a5, .int (iI (e6)), .ref a7, .int (iI (e8)), .int (iI (e9)), .int (iI (e10)), .ref a11, .int (iI (e12)), .int (iI (e13)), .int (iI (e14)), .ref a15])), (a0, fA cyI 54 m), (a3, fA cyI 216 d)]) sx.heap sx.heap [] := va_S.rf
  refine lv_aload_n hx hb dX8_undo_0 rfl (lv_at hl 0 rfl) ?_
  refine va_get (D := D) (ci := 8) (ws := [(v, .inr (8, [.ref a0, .ref a1, .ref a2, .ref a3, .int (iI (e4)), .ref a5, .int (iI (e6)), .ref a7, .int (iI (e8)), .int (iI (e9)), .int (iI (e10)), .ref a11, .int (iI (e12)), .int (iI (e13)), .int (iI (e14)), .ref a15])), (a0, fA cyI 54 m), (a3, fA cyI 216 d)]) (v := .int (iI (e4))) (C := RX8) (T := TX8) (N := 16) hx hb hts (fun _ h => List.mem_cons_of_mem _ (List.mem_append_right _ h)) hown hK.1 hP 0 rfl rfl 4 (by decide) (hts _ fl_X8_undo_38) (fun _ h9 => h9) rfl dX8_undo_1 ?_
  refine fp_if_ne (tgt := 10) hx hb (by omega) dX8_undo_4 (by decide) (fun q4 => ?_) (fun q4 => ?_)
  · skip
    refine lv_aload_n hx hb dX8_undo_10 rfl (lv_at hl 0 rfl) ?_
    refine lv_dup hx hb dX8_undo_11 rfl ?_
    refine va_get (D := D) (ci := 8) (ws := [(v, .inr (8, [.ref a0, .ref a1, .ref a2, .ref a3, .int (iI (e4)), .ref a5, .int (iI (e6)), .ref a7, .int (iI (e8)), .int (iI (e9)), .int (iI (e10)), .ref a11, .int (iI (e12)), .int (iI (e13)), .int (iI (e14)), .ref a15])), (a0, fA cyI 54 m), (a3, fA cyI 216 d)]) (v := .int (iI (e4))) (C := RX8) (T := TX8) (N := 16) hx hb hts (fun _ h => List.mem_cons_of_mem _ (List.mem_append_right _ h)) hown hK.1 hP 0 rfl rfl 4 (by decide) (hts _ fl_X8_undo_38) (fun _ h9 => h9) rfl dX8_undo_12 ?_
    refine fp_iconst hx hb dX8_undo_15 ?_
    refine fp_isub hx hb dX8_undo_16 ?_
    refine va_put (D := D) (ci := 8) (ws := [(v, .inr (8, [.ref a0, .ref a1, .ref a2, .ref a3, .int (iI (e4)), .ref a5, .int (iI (e6)), .ref a7, .int (iI (e8)), .int (iI (e9)), .int (iI (e10)), .ref a11, .int (iI (e12)), .int (iI (e13)), .int (iI (e14)), .ref a15])), (a0, fA cyI 54 m), (a3, fA cyI 216 d)]) (v := .int (iI (e4 - 1))) (ty := .int) (C := RX8) (T := TX8) (N := 16) hx hb hts (fun _ h => List.mem_cons_of_mem _ (List.mem_append_right _ h)) tyX8 tyX8_ok nmX8 hown hK.1 hP hD hS 0 rfl rfl 4 (by decide) (hts _ fl_X8_undo_38) (fun _ h9 => h9) rfl (by decide +kernel) rfl rfl (Nat.le_of_ble_eq_true rfl) dX8_undo_17 (fun H locs hP hD hS => ?_)
    have hP : va_P D vwCl [(v, .inr (8, [.ref a0, .ref a1, .ref a2, .ref a3, .int (iI (e4 - 1)), .ref a5, .int (iI (e6)), .ref a7, .int (iI (e8)), .int (iI (e9)), .int (iI (e10)), .ref a11, .int (iI (e12)), .int (iI (e13)), .int (iI (e14)), .ref a15])), (a0, fA cyI 54 m), (a3, fA cyI 216 d)] H := hP
    have hD : va_D (fp_A [(v, .inr (8, [.ref a0, .ref a1, .ref a2, .ref a3, .int (iI (e4)), .ref a5, .int (iI (e6)), .ref a7, .int (iI (e8)), .int (iI (e9)), .int (iI (e10)), .ref a11, .int (iI (e12)), .int (iI (e13)), .int (iI (e14)), .ref a15])), (a0, fA cyI 54 m), (a3, fA cyI 216 d)]) [(v, .inr (8, [.ref a0, .ref a1, .ref a2, .ref a3, .int (iI (e4 - 1)), .ref a5, .int (iI (e6)), .ref a7, .int (iI (e8)), .int (iI (e9)), .int (iI (e10)), .ref a11, .int (iI (e12)), .int (iI (e13)), .int (iI (e14)), .ref a15])), (a0, fA cyI 54 m), (a3, fA cyI 216 d)] := hD
    refine fp_iconst hx hb dX8_undo_20 ?_
    refine lv_istore_n (lv' := [(1, .int (iI (0))), (0, .ref v)]) hx hb dX8_undo_21 rfl hl (by decide) rfl (fun ls hl => ?_)
    have hl := lv_sub hl (l' := [(0, .ref v), (1, .int (iI (0)))]) [1, 0] rfl
    have lp1 : ∀ (nf : Nat) (i : Int) (f : Int → Int), (0 ≤ i ∧ i ≤ 54) → (∀ j : Int, 0 ≤ j → j < i → f j = shfI d ((e4 - 1) * 54) j) → (54 + 1 ≤ i + (nf : Int)) → ∀ (H : Heap) (locs : List Loc), va_P D vwCl [(v, .inr (8, [.ref a0, .ref a1, .ref a2, .ref a3, .int (iI (e4 - 1)), .ref a5, .int (iI (e6)), .ref a7, .int (iI (e8)), .int (iI (e9)), .int (iI (e10)), .ref a11, .int (iI (e12)), .int (iI (e13)), .int (iI (e14)), .ref a15])), (a0, fA cyI 54 f), (a3, fA cyI 216 d)] H → va_D (fp_A [(v, .inr (8, [.ref a0, .ref a1, .ref a2, .ref a3, .int (iI (e4)), .ref a5, .int (iI (e6)), .ref a7, .int (iI (e8)), .int (iI (e9)), .int (iI (e10)), .ref a11, .int (iI (e12)), .int (iI (e13)), .int (iI (e14)), .ref a15])), (a0, fA cyI 54 m), (a3, fA cyI 216 d)]) [(v, .inr (8, [.ref a0, .ref a1, .ref a2, .ref a3, .int (iI (e4 - 1)), .ref a5, .int (iI (e6)), .ref a7, .int (iI (e8)), .int (iI (e9)), .int (iI (e10)), .ref a11, .int (iI (e12)), .int (iI (e13)), .int (iI (e14)), .ref a15])), (a0, fA cyI 54 f), (a3, fA cyI 216 d)] → va_S (fp_A [(v, .inr (8, [.ref a0, .ref a1, .ref a2, .ref a3, .int (iI (e4)), .ref a5, .int (iI (e6)), .ref a7, .int (iI (e8)), .int (iI (e9)), .int (iI (e10)), .ref a11, .int (iI (e12)), .int (iI (e13)), .int (iI (e14)), .ref a15])), (a0, fA cyI 54 m), (a3, fA cyI 216 d)]) sx.heap H locs → ∀ (ls : Array Slot), lv_has ls 2 [(0, .ref v), (1, .int (iI (i)))] → W pg l en ({ frames := 0, cells := 0, slots := 0, locals := 0 } : Room) sx mi ar bl mt cd H locs 0 0 (MQ bl (fp_Qw D [(v, .inr (8, [.ref a0, .ref a1, .ref a2, .ref a3, .int (iI (e4)), .ref a5, .int (iI (e6)), .ref a7, .int (iI (e8)), .int (iI (e9)), .int (iI (e10)), .ref a11, .int (iI (e12)), .int (iI (e13)), .int (iI (e14)), .ref a15])), (a0, fA cyI 54 m), (a3, fA cyI 216 d)] (fun (u9 : Unit) => True) (fun (u9 : Unit) => some (.int (iI (if e4 = 0 then -5 else e4 - 1)))) (fun (u9 : Unit) => [(v, .inr (8, [.ref a0, .ref a1, .ref a2, .ref a3, .int (iI (if e4 = 0 then e4 else e4 - 1)), .ref a5, .int (iI (e6)), .ref a7, .int (iI (e8)), .int (iI (e9)), .int (iI (e10)), .ref a11, .int (iI (e12)), .int (iI (e13)), .int (iI (e14)), .ref a15])), (a0, fA cyI 54 (if e4 = 0 then m else shfI d ((e4 - 1) * 54))), (a3, fA cyI 216 d)])) ar sx 0 0 (fp_A [(v, .inr (8, [.ref a0, .ref a1, .ref a2, .ref a3, .int (iI (e4)), .ref a5, .int (iI (e6)), .ref a7, .int (iI (e8)), .int (iI (e9)), .int (iI (e10)), .ref a11, .int (iI (e12)), .int (iI (e13)), .int (iI (e14)), .ref a15])), (a0, fA cyI 54 m), (a3, fA cyI 216 d)])) (F0 mi 22 ls []) := by
      intro nf
      induction nf with
      | zero =>
        intro i f ii jf hfuel
        exact absurd hfuel (by omega)
      | succ nf ih1 =>
        intro i f ii jf hfuel H locs hP hD hS ls hl
        refine lv_iload_n hx hb dX8_undo_22 rfl (lv_at hl 1 rfl) ?_
        refine fp_bipush hx hb dX8_undo_23 (by decide) ?_
        refine fp_icmp_ge (tgt := 54) hx hb (by omega) dX8_undo_25 (by decide) (fun q25 => ?_) (fun q25 => ?_)
        · skip
          obtain ⟨hP, hD⟩ := fp_ext (ws := [(v, .inr (8, [.ref a0, .ref a1, .ref a2, .ref a3, .int (iI (e4 - 1)), .ref a5, .int (iI (e6)), .ref a7, .int (iI (e8)), .int (iI (e9)), .int (iI (e10)), .ref a11, .int (iI (e12)), .int (iI (e13)), .int (iI (e14)), .ref a15])), (a0, fA cyI 54 f), (a3, fA cyI 216 d)]) (f := f) (f' := shfI d ((e4 - 1) * 54)) hP hD 1 rfl (fun j a1 a2 => jf j a1 (by omega))
          have hP : va_P D vwCl [(v, .inr (8, [.ref a0, .ref a1, .ref a2, .ref a3, .int (iI (e4 - 1)), .ref a5, .int (iI (e6)), .ref a7, .int (iI (e8)), .int (iI (e9)), .int (iI (e10)), .ref a11, .int (iI (e12)), .int (iI (e13)), .int (iI (e14)), .ref a15])), (a0, fA cyI 54 (shfI d ((e4 - 1) * 54))), (a3, fA cyI 216 d)] H := hP
          have hD : va_D (fp_A [(v, .inr (8, [.ref a0, .ref a1, .ref a2, .ref a3, .int (iI (e4)), .ref a5, .int (iI (e6)), .ref a7, .int (iI (e8)), .int (iI (e9)), .int (iI (e10)), .ref a11, .int (iI (e12)), .int (iI (e13)), .int (iI (e14)), .ref a15])), (a0, fA cyI 54 m), (a3, fA cyI 216 d)]) [(v, .inr (8, [.ref a0, .ref a1, .ref a2, .ref a3, .int (iI (e4 - 1)), .ref a5, .int (iI (e6)), .ref a7, .int (iI (e8)), .int (iI (e9)), .int (iI (e10)), .ref a11, .int (iI (e12)), .int (iI (e13)), .int (iI (e14)), .ref a15])), (a0, fA cyI 54 (shfI d ((e4 - 1) * 54))), (a3, fA cyI 216 d)] := hD
          refine lv_aload_n hx hb dX8_undo_54 rfl (lv_at hl 0 rfl) ?_
          refine va_get (D := D) (ci := 8) (ws := [(v, .inr (8, [.ref a0, .ref a1, .ref a2, .ref a3, .int (iI (e4 - 1)), .ref a5, .int (iI (e6)), .ref a7, .int (iI (e8)), .int (iI (e9)), .int (iI (e10)), .ref a11, .int (iI (e12)), .int (iI (e13)), .int (iI (e14)), .ref a15])), (a0, fA cyI 54 (shfI d ((e4 - 1) * 54))), (a3, fA cyI 216 d)]) (v := .int (iI (e4 - 1))) (C := RX8) (T := TX8) (N := 16) hx hb hts (fun _ h => List.mem_cons_of_mem _ (List.mem_append_right _ h)) hown hK.1 hP 0 rfl rfl 4 (by decide) (hts _ fl_X8_undo_38) (fun _ h9 => h9) rfl dX8_undo_55 ?_
          have hR : (if e4 = 0 then -5 else e4 - 1 : Int) = e4 - 1 := by first | rw [if_pos (by omega)] | rw [if_neg (by omega)]
          have hP : va_P D vwCl [(v, .inr (8, [.ref a0, .ref a1, .ref a2, .ref a3, .int (iI (if e4 = 0 then e4 else e4 - 1)), .ref a5, .int (iI (e6)), .ref a7, .int (iI (e8)), .int (iI (e9)), .int (iI (e10)), .ref a11, .int (iI (e12)), .int (iI (e13)), .int (iI (e14)), .ref a15])), (a0, fA cyI 54 (if e4 = 0 then m else shfI d ((e4 - 1) * 54))), (a3, fA cyI 216 d)] H := by
            rw [(show (shfI d ((e4 - 1) * 54) : Int → Int) = if e4 = 0 then m else shfI d ((e4 - 1) * 54) from (by first | rw [if_pos (by omega)] | rw [if_neg (by omega)])).symm]
            rw [(show (e4 - 1 : Int) = if e4 = 0 then e4 else e4 - 1 from (by first | rw [if_pos (by omega)] | rw [if_neg (by omega)])).symm]
            exact hP
          have hret : (if e4 = 0 then -5 else e4 - 1 : Int) = e4 - 1 := (by exact hR)
          exact fp_wret () hx hb hr hlocks hS hP trivial (congrArg (fun z : Int => some (Value.int (iI z))) hret) dX8_undo_58
        · skip
          refine lv_aload_n hx hb dX8_undo_28 rfl (lv_at hl 0 rfl) ?_
          refine va_get (D := D) (ci := 8) (ws := [(v, .inr (8, [.ref a0, .ref a1, .ref a2, .ref a3, .int (iI (e4 - 1)), .ref a5, .int (iI (e6)), .ref a7, .int (iI (e8)), .int (iI (e9)), .int (iI (e10)), .ref a11, .int (iI (e12)), .int (iI (e13)), .int (iI (e14)), .ref a15])), (a0, fA cyI 54 f), (a3, fA cyI 216 d)]) (v := .ref a0) (C := RX8) (T := TX8) (N := 16) hx hb hts (fun _ h => List.mem_cons_of_mem _ (List.mem_append_right _ h)) hown hK.1 hP 0 rfl rfl 0 (by decide) (hts _ fl_X8_undo_7) (fun _ h9 => h9) rfl dX8_undo_29 ?_
          refine lv_iload_n hx hb dX8_undo_32 rfl (lv_at hl 1 rfl) ?_
          refine lv_aload_n hx hb dX8_undo_33 rfl (lv_at hl 0 rfl) ?_
          refine va_get (D := D) (ci := 8) (ws := [(v, .inr (8, [.ref a0, .ref a1, .ref a2, .ref a3, .int (iI (e4 - 1)), .ref a5, .int (iI (e6)), .ref a7, .int (iI (e8)), .int (iI (e9)), .int (iI (e10)), .ref a11, .int (iI (e12)), .int (iI (e13)), .int (iI (e14)), .ref a15])), (a0, fA cyI 54 f), (a3, fA cyI 216 d)]) (v := .ref a3) (C := RX8) (T := TX8) (N := 16) hx hb hts (fun _ h => List.mem_cons_of_mem _ (List.mem_append_right _ h)) hown hK.1 hP 0 rfl rfl 3 (by decide) (hts _ fl_X8_undo_19) (fun _ h9 => h9) rfl dX8_undo_34 ?_
          refine fp_bipush hx hb dX8_undo_37 (by decide) ?_
          refine lv_aload_n hx hb dX8_undo_39 rfl (lv_at hl 0 rfl) ?_
          refine va_get (D := D) (ci := 8) (ws := [(v, .inr (8, [.ref a0, .ref a1, .ref a2, .ref a3, .int (iI (e4 - 1)), .ref a5, .int (iI (e6)), .ref a7, .int (iI (e8)), .int (iI (e9)), .int (iI (e10)), .ref a11, .int (iI (e12)), .int (iI (e13)), .int (iI (e14)), .ref a15])), (a0, fA cyI 54 f), (a3, fA cyI 216 d)]) (v := .int (iI (e4 - 1))) (C := RX8) (T := TX8) (N := 16) hx hb hts (fun _ h => List.mem_cons_of_mem _ (List.mem_append_right _ h)) hown hK.1 hP 0 rfl rfl 4 (by decide) (hts _ fl_X8_undo_38) (fun _ h9 => h9) rfl dX8_undo_40 ?_
          refine fp_imul hx hb dX8_undo_43 ?_
          refine lv_iload_n hx hb dX8_undo_44 rfl (lv_at hl 1 rfl) ?_
          refine fp_iadd hx hb dX8_undo_45 ?_
          refine fp_iald (wsC := [(v, .inr (8, [.ref a0, .ref a1, .ref a2, .ref a3, .int (iI (e4 - 1)), .ref a5, .int (iI (e6)), .ref a7, .int (iI (e8)), .int (iI (e9)), .int (iI (e10)), .ref a11, .int (iI (e12)), .int (iI (e13)), .int (iI (e14)), .ref a15])), (a0, fA cyI 54 f), (a3, fA cyI 216 d)]) hx hb hK hP 2 rfl (by omega) (by decide) dX8_undo_46 ?_
          refine fp_iast (wsC := [(v, .inr (8, [.ref a0, .ref a1, .ref a2, .ref a3, .int (iI (e4 - 1)), .ref a5, .int (iI (e6)), .ref a7, .int (iI (e8)), .int (iI (e9)), .int (iI (e10)), .ref a11, .int (iI (e12)), .int (iI (e13)), .int (iI (e14)), .ref a15])), (a0, fA cyI 54 f), (a3, fA cyI 216 d)]) hx hb hK hP hD hS 1 rfl (by omega) (by decide) dX8_undo_47 (fun H locs hP hD hS => ?_)
          have hP : va_P D vwCl [(v, .inr (8, [.ref a0, .ref a1, .ref a2, .ref a3, .int (iI (e4 - 1)), .ref a5, .int (iI (e6)), .ref a7, .int (iI (e8)), .int (iI (e9)), .int (iI (e10)), .ref a11, .int (iI (e12)), .int (iI (e13)), .int (iI (e14)), .ref a15])), (a0, fA cyI 54 (upI (f) (i) (d ((54 * (e4 - 1)) + i)))), (a3, fA cyI 216 d)] H := hP
          have hD : va_D (fp_A [(v, .inr (8, [.ref a0, .ref a1, .ref a2, .ref a3, .int (iI (e4)), .ref a5, .int (iI (e6)), .ref a7, .int (iI (e8)), .int (iI (e9)), .int (iI (e10)), .ref a11, .int (iI (e12)), .int (iI (e13)), .int (iI (e14)), .ref a15])), (a0, fA cyI 54 m), (a3, fA cyI 216 d)]) [(v, .inr (8, [.ref a0, .ref a1, .ref a2, .ref a3, .int (iI (e4 - 1)), .ref a5, .int (iI (e6)), .ref a7, .int (iI (e8)), .int (iI (e9)), .int (iI (e10)), .ref a11, .int (iI (e12)), .int (iI (e13)), .int (iI (e14)), .ref a15])), (a0, fA cyI 54 (upI (f) (i) (d ((54 * (e4 - 1)) + i)))), (a3, fA cyI 216 d)] := hD
          refine fp_iinc (k := 1) (lv' := [(1, .int (iI (i + 1))), (0, .ref v)]) hx hb dX8_undo_48 hl rfl (by decide) rfl (fun ls hl => ?_)
          refine lv_goto (tgt := 22) hx hb dX8_undo_51 (by decide) ?_
          exact ih1 (i + 1) (upI (f) (i) (d ((54 * (e4 - 1)) + i))) (by omega) (fun j a1 a2 => by
        by_cases e : j = i
        · rw [upI_s e, e]; unfold shfI; congr 1; omega
        · rw [upI_n e]; exact jf j a1 (by omega)) (by omega) H locs hP hD hS ls (lv_sub hl [1, 0] rfl)
    exact lp1 (((54 : Int) + 1 - (0)).toNat) 0 m (by omega) (fun j a1 a2 => by omega) (by omega) H locs hP hD hS ls hl
  · skip
    refine fp_bipush hx hb dX8_undo_7 (by decide) ?_
    have hR : (if e4 = 0 then -5 else e4 - 1 : Int) = (-5) := by first | rw [if_pos (by omega)] | rw [if_neg (by omega)]
    have hP : va_P D vwCl [(v, .inr (8, [.ref a0, .ref a1, .ref a2, .ref a3, .int (iI (if e4 = 0 then e4 else e4 - 1)), .ref a5, .int (iI (e6)), .ref a7, .int (iI (e8)), .int (iI (e9)), .int (iI (e10)), .ref a11, .int (iI (e12)), .int (iI (e13)), .int (iI (e14)), .ref a15])), (a0, fA cyI 54 (if e4 = 0 then m else shfI d ((e4 - 1) * 54))), (a3, fA cyI 216 d)] sx.heap := by
      rw [(show (m : Int → Int) = if e4 = 0 then m else shfI d ((e4 - 1) * 54) from (by first | rw [if_pos (by omega)] | rw [if_neg (by omega)])).symm]
      rw [(show (e4 : Int) = if e4 = 0 then e4 else e4 - 1 from (by first | rw [if_pos (by omega)] | rw [if_neg (by omega)])).symm]
      exact hP
    have hret : (if e4 = 0 then -5 else e4 - 1 : Int) = (-5) := (by exact hR)
    exact fp_wret () hx hb hr hlocks hS hP trivial (congrArg (fun z : Int => some (Value.int (iI z))) hret) dX8_undo_9
theorem fl_X8_keep_7 : Cond.fieldLink RX8 7 "FacingPlatesModel" "all" "[I" ∈ wsX8_keep := by decide +kernel
theorem fl_X8_keep_22 : Cond.fieldLink RX8 22 "FacingPlatesModel" "snapshot" "[I" ∈ wsX8_keep := by decide +kernel
theorem fl_X8_keep_208 : Cond.fieldLink RX8 208 "FacingPlatesModel" "isTaken" "I" ∈ wsX8_keep := by decide +kernel
set_option maxHeartbeats 4000000 in
set_option maxRecDepth 100000 in
theorem c_X8_keep (l : Launch) (D : va_G) (cyI : ClassId) (v : Nat) (a0 : Nat) (a1 : Nat) (a2 : Nat) (a3 : Nat) (e4 : Int) (a5 : Nat) (e6 : Int) (a7 : Nat) (e8 : Int) (e9 : Int) (e10 : Int) (a11 : Nat) (e12 : Int) (e13 : Int) (e14 : Int) (a15 : Nat) (m : Int → Int) (ms : Int → Int) : fp_MW l yX8_keep wsX8_keep ({ frames := 1, cells := 0, slots := 0, locals := 22 } : Room) D cyI [(v, .inr (8, [.ref a0, .ref a1, .ref a2, .ref a3, .int (iI (e4)), .ref a5, .int (iI (e6)), .ref a7, .int (iI (e8)), .int (iI (e9)), .int (iI (e10)), .ref a11, .int (iI (e12)), .int (iI (e13)), .int (iI (e14)), .ref a15])), (a0, fA cyI 54 m), (a5, fA cyI 54 ms)] [.ref v] (fun (u9 : Unit) => True) (fun (u9 : Unit) => some (.int (iI (m 5)))) (fun (u9 : Unit) => [(v, .inr (8, [.ref a0, .ref a1, .ref a2, .ref a3, .int (iI (e4)), .ref a5, .int (iI (1)), .ref a7, .int (iI (e8)), .int (iI (e9)), .int (iI (e10)), .ref a11, .int (iI (e12)), .int (iI (e13)), .int (iI (e14)), .ref a15])), (a0, fA cyI 54 m), (a5, fA cyI 54 m)]) := by
  refine fp_start (cc := cX8_keep) (maxL := 1) (ret := (some .int)) (by decide) rfl (Nat.le_of_ble_eq_true rfl) ?_
  intro pg en sx mi ar bl mt cd ls hx hb hr hts hown hlocks hml hnm hP hK hD hl
  have hown : sx.vm.findClass RX8 = some mi.cls := hown
  have hl : lv_has ls 1 [(0, .ref v)] := hl
  have hD := fp_self hD
  have hS : va_S (fp_A [(v, .inr (8, [.ref a0, .ref a1, .ref a2, .ref a3, .int (iI (e4)), .ref a5, .int (iI (e6)), .ref a7, .int (iI (e8)), .int (iI (e9)), .int (iI (e10)), .ref a11, .int (iI (e12)), .int (iI (e13)), .int (iI (e14)), .ref a15])), (a0, fA cyI 54 m), (a5, fA cyI 54 ms)]) sx.heap sx.heap [] := va_S.rf
  refine lv_aload_n hx hb dX8_keep_0 rfl (lv_at hl 0 rfl) ?_
  refine va_get (D := D) (ci := 8) (ws := [(v, .inr (8, [.ref a0, .ref a1, .ref a2, .ref a3, .int (iI (e4)), .ref a5, .int (iI (e6)), .ref a7, .int (iI (e8)), .int (iI (e9)), .int (iI (e10)), .ref a11, .int (iI (e12)), .int (iI (e13)), .int (iI (e14)), .ref a15])), (a0, fA cyI 54 m), (a5, fA cyI 54 ms)]) (v := .ref a0) (C := RX8) (T := TX8) (N := 16) hx hb hts (fun _ h => List.mem_cons_of_mem _ (List.mem_append_right _ h)) hown hK.1 hP 0 rfl rfl 0 (by decide) (hts _ fl_X8_keep_7) (fun _ h9 => h9) rfl dX8_keep_1 ?_
  refine lv_aload_n hx hb dX8_keep_4 rfl (lv_at hl 0 rfl) ?_
  refine va_get (D := D) (ci := 8) (ws := [(v, .inr (8, [.ref a0, .ref a1, .ref a2, .ref a3, .int (iI (e4)), .ref a5, .int (iI (e6)), .ref a7, .int (iI (e8)), .int (iI (e9)), .int (iI (e10)), .ref a11, .int (iI (e12)), .int (iI (e13)), .int (iI (e14)), .ref a15])), (a0, fA cyI 54 m), (a5, fA cyI 54 ms)]) (v := .ref a5) (C := RX8) (T := TX8) (N := 16) hx hb hts (fun _ h => List.mem_cons_of_mem _ (List.mem_append_right _ h)) hown hK.1 hP 0 rfl rfl 5 (by decide) (hts _ fl_X8_keep_22) (fun _ h9 => h9) rfl dX8_keep_5 ?_
  refine fp_wS (As := [.ref a0, .ref a5]) (rest := []) (wsC := [(v, .inr (8, [.ref a0, .ref a1, .ref a2, .ref a3, .int (iI (e4)), .ref a5, .int (iI (e6)), .ref a7, .int (iI (e8)), .int (iI (e9)), .int (iI (e10)), .ref a11, .int (iI (e12)), .int (iI (e13)), .int (iI (e14)), .ref a15])), (a0, fA cyI 54 m), (a5, fA cyI 54 ms)]) ⟨hx, hb, hml, hown, hts⟩ (c_X8_copy l D cyI a0 a5 m ms) (va_cwS 2 hts gX8_keep_X8_copy rfl rfl rfl (by decide +kernel) ⟨Nat.le_of_ble_eq_true rfl, Nat.le_of_ble_eq_true rfl⟩) (fun _ => rfl) hK hP hD hS [1, 2] (by decide) rfl rfl hl.1 rfl (Nat.le_of_ble_eq_true rfl) dX8_keep_8 ⟨Nat.zero_le _, Nat.zero_le _⟩ (fun u9v H locs hu hP hD hS => ?_)
  refine W.eq (g2 := F0 mi 11 ls []) rfl ?_
  have hP : va_P D vwCl [(v, .inr (8, [.ref a0, .ref a1, .ref a2, .ref a3, .int (iI (e4)), .ref a5, .int (iI (e6)), .ref a7, .int (iI (e8)), .int (iI (e9)), .int (iI (e10)), .ref a11, .int (iI (e12)), .int (iI (e13)), .int (iI (e14)), .ref a15])), (a0, fA cyI 54 m), (a5, fA cyI 54 m)] H := hP
  have hD : va_D (fp_A [(v, .inr (8, [.ref a0, .ref a1, .ref a2, .ref a3, .int (iI (e4)), .ref a5, .int (iI (e6)), .ref a7, .int (iI (e8)), .int (iI (e9)), .int (iI (e10)), .ref a11, .int (iI (e12)), .int (iI (e13)), .int (iI (e14)), .ref a15])), (a0, fA cyI 54 m), (a5, fA cyI 54 ms)]) [(v, .inr (8, [.ref a0, .ref a1, .ref a2, .ref a3, .int (iI (e4)), .ref a5, .int (iI (e6)), .ref a7, .int (iI (e8)), .int (iI (e9)), .int (iI (e10)), .ref a11, .int (iI (e12)), .int (iI (e13)), .int (iI (e14)), .ref a15])), (a0, fA cyI 54 m), (a5, fA cyI 54 m)] := hD
  refine lv_aload_n hx hb dX8_keep_11 rfl (lv_at hl 0 rfl) ?_
  refine fp_iconst hx hb dX8_keep_12 ?_
  refine va_put (D := D) (ci := 8) (ws := [(v, .inr (8, [.ref a0, .ref a1, .ref a2, .ref a3, .int (iI (e4)), .ref a5, .int (iI (e6)), .ref a7, .int (iI (e8)), .int (iI (e9)), .int (iI (e10)), .ref a11, .int (iI (e12)), .int (iI (e13)), .int (iI (e14)), .ref a15])), (a0, fA cyI 54 m), (a5, fA cyI 54 m)]) (v := .int (iI (1))) (ty := .int) (C := RX8) (T := TX8) (N := 16) hx hb hts (fun _ h => List.mem_cons_of_mem _ (List.mem_append_right _ h)) tyX8 tyX8_ok nmX8 hown hK.1 hP hD hS 0 rfl rfl 6 (by decide) (hts _ fl_X8_keep_208) (fun _ h9 => h9) rfl (by decide +kernel) rfl rfl (Nat.le_of_ble_eq_true rfl) dX8_keep_13 (fun H locs hP hD hS => ?_)
  have hP : va_P D vwCl [(v, .inr (8, [.ref a0, .ref a1, .ref a2, .ref a3, .int (iI (e4)), .ref a5, .int (iI (1)), .ref a7, .int (iI (e8)), .int (iI (e9)), .int (iI (e10)), .ref a11, .int (iI (e12)), .int (iI (e13)), .int (iI (e14)), .ref a15])), (a0, fA cyI 54 m), (a5, fA cyI 54 m)] H := hP
  have hD : va_D (fp_A [(v, .inr (8, [.ref a0, .ref a1, .ref a2, .ref a3, .int (iI (e4)), .ref a5, .int (iI (e6)), .ref a7, .int (iI (e8)), .int (iI (e9)), .int (iI (e10)), .ref a11, .int (iI (e12)), .int (iI (e13)), .int (iI (e14)), .ref a15])), (a0, fA cyI 54 m), (a5, fA cyI 54 ms)]) [(v, .inr (8, [.ref a0, .ref a1, .ref a2, .ref a3, .int (iI (e4)), .ref a5, .int (iI (1)), .ref a7, .int (iI (e8)), .int (iI (e9)), .int (iI (e10)), .ref a11, .int (iI (e12)), .int (iI (e13)), .int (iI (e14)), .ref a15])), (a0, fA cyI 54 m), (a5, fA cyI 54 m)] := hD
  refine lv_aload_n hx hb dX8_keep_16 rfl (lv_at hl 0 rfl) ?_
  refine va_get (D := D) (ci := 8) (ws := [(v, .inr (8, [.ref a0, .ref a1, .ref a2, .ref a3, .int (iI (e4)), .ref a5, .int (iI (1)), .ref a7, .int (iI (e8)), .int (iI (e9)), .int (iI (e10)), .ref a11, .int (iI (e12)), .int (iI (e13)), .int (iI (e14)), .ref a15])), (a0, fA cyI 54 m), (a5, fA cyI 54 m)]) (v := .ref a0) (C := RX8) (T := TX8) (N := 16) hx hb hts (fun _ h => List.mem_cons_of_mem _ (List.mem_append_right _ h)) hown hK.1 hP 0 rfl rfl 0 (by decide) (hts _ fl_X8_keep_7) (fun _ h9 => h9) rfl dX8_keep_17 ?_
  refine fp_iconst hx hb dX8_keep_20 ?_
  refine fp_iald (wsC := [(v, .inr (8, [.ref a0, .ref a1, .ref a2, .ref a3, .int (iI (e4)), .ref a5, .int (iI (1)), .ref a7, .int (iI (e8)), .int (iI (e9)), .int (iI (e10)), .ref a11, .int (iI (e12)), .int (iI (e13)), .int (iI (e14)), .ref a15])), (a0, fA cyI 54 m), (a5, fA cyI 54 m)]) hx hb hK hP 1 rfl (by omega) (by decide) dX8_keep_21 ?_
  have hret : (m 5 : Int) = m 5 := rfl
  exact fp_wret () hx hb hr hlocks hS hP trivial (congrArg (fun z : Int => some (Value.int (iI z))) hret) dX8_keep_22
theorem fl_X8_restore_208 : Cond.fieldLink RX8 208 "FacingPlatesModel" "isTaken" "I" ∈ wsX8_restore := by decide +kernel
theorem fl_X8_restore_22 : Cond.fieldLink RX8 22 "FacingPlatesModel" "snapshot" "[I" ∈ wsX8_restore := by decide +kernel
theorem fl_X8_restore_7 : Cond.fieldLink RX8 7 "FacingPlatesModel" "all" "[I" ∈ wsX8_restore := by decide +kernel
set_option maxHeartbeats 4000000 in
set_option maxRecDepth 100000 in
theorem c_X8_restore (l : Launch) (D : va_G) (cyI : ClassId) (v : Nat) (a0 : Nat) (a1 : Nat) (a2 : Nat) (a3 : Nat) (e4 : Int) (a5 : Nat) (e6 : Int) (a7 : Nat) (e8 : Int) (e9 : Int) (e10 : Int) (a11 : Nat) (e12 : Int) (e13 : Int) (e14 : Int) (a15 : Nat) (m : Int → Int) (kc : Int → Int) (d : Int → Int) (ms : Int → Int) (he4 : 0 ≤ e4 ∧ e4 ≤ 4) (he6 : e6 = 0 ∨ e6 = 1) (hms : e6 = 1 → 0 ≤ ms 5) : fp_MW l yX8_restore wsX8_restore ({ frames := 2, cells := 0, slots := 0, locals := 42 } : Room) D cyI [(v, .inr (8, [.ref a0, .ref a1, .ref a2, .ref a3, .int (iI (e4)), .ref a5, .int (iI (e6)), .ref a7, .int (iI (e8)), .int (iI (e9)), .int (iI (e10)), .ref a11, .int (iI (e12)), .int (iI (e13)), .int (iI (e14)), .ref a15])), (a0, fA cyI 54 m), (a1, fA cyI 54 kc), (a3, fA cyI 216 d), (a5, fA cyI 54 ms)] [.ref v] (fun (u9 : (Int → Int)) => True) (fun (u9 : (Int → Int)) => some (.int (iI (rsR e6 (cM ms))))) (fun (u9 : (Int → Int)) => [(v, .inr (8, [.ref a0, .ref a1, .ref a2, .ref a3, .int (iI (if 0 ≤ rsR e6 (cM ms) then recN e4 else e4)), .ref a5, .int (iI (e6)), .ref a7, .int (iI (e8)), .int (iI (e9)), .int (iI (e10)), .ref a11, .int (iI (e12)), .int (iI (e13)), .int (iI (e14)), .ref a15])), (a0, fA cyI 54 (if 0 ≤ rsR e6 (cM ms) then ms else m)), (a1, fA cyI 54 u9), (a3, fA cyI 216 (if 0 ≤ rsR e6 (cM ms) then recH d m e4 else d)), (a5, fA cyI 54 ms)]) := by
  refine fp_start (cc := cX8_restore) (maxL := 1) (ret := (some .int)) (by decide) rfl (Nat.le_of_ble_eq_true rfl) ?_
  intro pg en sx mi ar bl mt cd ls hx hb hr hts hown hlocks hml hnm hP hK hD hl
  have hown : sx.vm.findClass RX8 = some mi.cls := hown
  have hl : lv_has ls 1 [(0, .ref v)] := hl
  have hD := fp_self hD
  have hS : va_S (fp_A [(v, .inr (8, [.ref a0, .ref a1, .ref a2, .ref a3, .int (iI (e4)), .ref a5, .int (iI (e6)), .ref a7, .int (iI (e8)), .int (iI (e9)), .int (iI (e10)), .ref a11, .int (iI (e12)), .int (iI (e13)), .int (iI (e14)), .ref a15])), (a0, fA cyI 54 m), (a1, fA cyI 54 kc), (a3, fA cyI 216 d), (a5, fA cyI 54 ms)]) sx.heap sx.heap [] := va_S.rf
  have e0 : cM ms 0 = ms 5 := cM_0 ms
  refine lv_aload_n hx hb dX8_restore_0 rfl (lv_at hl 0 rfl) ?_
  refine va_get (D := D) (ci := 8) (ws := [(v, .inr (8, [.ref a0, .ref a1, .ref a2, .ref a3, .int (iI (e4)), .ref a5, .int (iI (e6)), .ref a7, .int (iI (e8)), .int (iI (e9)), .int (iI (e10)), .ref a11, .int (iI (e12)), .int (iI (e13)), .int (iI (e14)), .ref a15])), (a0, fA cyI 54 m), (a1, fA cyI 54 kc), (a3, fA cyI 216 d), (a5, fA cyI 54 ms)]) (v := .int (iI (e6))) (C := RX8) (T := TX8) (N := 16) hx hb hts (fun _ h => List.mem_cons_of_mem _ (List.mem_append_right _ h)) hown hK.1 hP 0 rfl rfl 6 (by decide) (hts _ fl_X8_restore_208) (fun _ h9 => h9) rfl dX8_restore_1 ?_
  refine fp_if_ne (tgt := 10) hx hb (by omega) dX8_restore_4 (by decide) (fun q4 => ?_) (fun q4 => ?_)
  · skip
    refine lv_aload_n hx hb dX8_restore_10 rfl (lv_at hl 0 rfl) ?_
    refine fp_wV (As := []) (rest := []) (wsC := [(v, .inr (8, [.ref a0, .ref a1, .ref a2, .ref a3, .int (iI (e4)), .ref a5, .int (iI (e6)), .ref a7, .int (iI (e8)), .int (iI (e9)), .int (iI (e10)), .ref a11, .int (iI (e12)), .int (iI (e13)), .int (iI (e14)), .ref a15])), (a0, fA cyI 54 m), (a1, fA cyI 54 kc), (a3, fA cyI 216 d), (a5, fA cyI 54 ms)]) ⟨hx, hb, hml, hown, hts⟩ (c_X8_remember l D cyI v a0 a1 a2 a3 e4 a5 e6 a7 e8 e9 e10 a11 e12 e13 e14 a15 m kc) (cwV 0 hts gX8_restore_X8_remember rfl rfl rfl (by decide +kernel) ⟨Nat.le_of_ble_eq_true rfl, Nat.le_of_ble_eq_true rfl⟩) (fun _ => rfl) hK hP hD hS [0, 1, 2] (by decide) rfl rfl rfl rfl hl.1 rfl (Nat.le_of_ble_eq_true rfl) dX8_restore_11 ⟨Nat.zero_le _, Nat.zero_le _⟩ (fun u9v H locs hu hP hD hS => ?_)
    refine W.eq (g2 := F0 mi 14 ls []) rfl ?_
    have hP : va_P D vwCl [(v, .inr (8, [.ref a0, .ref a1, .ref a2, .ref a3, .int (iI (e4)), .ref a5, .int (iI (e6)), .ref a7, .int (iI (e8)), .int (iI (e9)), .int (iI (e10)), .ref a11, .int (iI (e12)), .int (iI (e13)), .int (iI (e14)), .ref a15])), (a0, fA cyI 54 m), (a1, fA cyI 54 m), (a3, fA cyI 216 d), (a5, fA cyI 54 ms)] H := hP
    have hD : va_D (fp_A [(v, .inr (8, [.ref a0, .ref a1, .ref a2, .ref a3, .int (iI (e4)), .ref a5, .int (iI (e6)), .ref a7, .int (iI (e8)), .int (iI (e9)), .int (iI (e10)), .ref a11, .int (iI (e12)), .int (iI (e13)), .int (iI (e14)), .ref a15])), (a0, fA cyI 54 m), (a1, fA cyI 54 kc), (a3, fA cyI 216 d), (a5, fA cyI 54 ms)]) [(v, .inr (8, [.ref a0, .ref a1, .ref a2, .ref a3, .int (iI (e4)), .ref a5, .int (iI (e6)), .ref a7, .int (iI (e8)), .int (iI (e9)), .int (iI (e10)), .ref a11, .int (iI (e12)), .int (iI (e13)), .int (iI (e14)), .ref a15])), (a0, fA cyI 54 m), (a1, fA cyI 54 m), (a3, fA cyI 216 d), (a5, fA cyI 54 ms)] := hD
    refine lv_aload_n hx hb dX8_restore_14 rfl (lv_at hl 0 rfl) ?_
    refine va_get (D := D) (ci := 8) (ws := [(v, .inr (8, [.ref a0, .ref a1, .ref a2, .ref a3, .int (iI (e4)), .ref a5, .int (iI (e6)), .ref a7, .int (iI (e8)), .int (iI (e9)), .int (iI (e10)), .ref a11, .int (iI (e12)), .int (iI (e13)), .int (iI (e14)), .ref a15])), (a0, fA cyI 54 m), (a1, fA cyI 54 m), (a3, fA cyI 216 d), (a5, fA cyI 54 ms)]) (v := .ref a5) (C := RX8) (T := TX8) (N := 16) hx hb hts (fun _ h => List.mem_cons_of_mem _ (List.mem_append_right _ h)) hown hK.1 hP 0 rfl rfl 5 (by decide) (hts _ fl_X8_restore_22) (fun _ h9 => h9) rfl dX8_restore_15 ?_
    refine lv_aload_n hx hb dX8_restore_18 rfl (lv_at hl 0 rfl) ?_
    refine va_get (D := D) (ci := 8) (ws := [(v, .inr (8, [.ref a0, .ref a1, .ref a2, .ref a3, .int (iI (e4)), .ref a5, .int (iI (e6)), .ref a7, .int (iI (e8)), .int (iI (e9)), .int (iI (e10)), .ref a11, .int (iI (e12)), .int (iI (e13)), .int (iI (e14)), .ref a15])), (a0, fA cyI 54 m), (a1, fA cyI 54 m), (a3, fA cyI 216 d), (a5, fA cyI 54 ms)]) (v := .ref a0) (C := RX8) (T := TX8) (N := 16) hx hb hts (fun _ h => List.mem_cons_of_mem _ (List.mem_append_right _ h)) hown hK.1 hP 0 rfl rfl 0 (by decide) (hts _ fl_X8_restore_7) (fun _ h9 => h9) rfl dX8_restore_19 ?_
    refine fp_wS (As := [.ref a5, .ref a0]) (rest := []) (wsC := [(v, .inr (8, [.ref a0, .ref a1, .ref a2, .ref a3, .int (iI (e4)), .ref a5, .int (iI (e6)), .ref a7, .int (iI (e8)), .int (iI (e9)), .int (iI (e10)), .ref a11, .int (iI (e12)), .int (iI (e13)), .int (iI (e14)), .ref a15])), (a0, fA cyI 54 m), (a1, fA cyI 54 m), (a3, fA cyI 216 d), (a5, fA cyI 54 ms)]) ⟨hx, hb, hml, hown, hts⟩ (c_X8_copy l D cyI a5 a0 ms m) (va_cwS 2 hts gX8_restore_X8_copy rfl rfl rfl (by decide +kernel) ⟨Nat.le_of_ble_eq_true rfl, Nat.le_of_ble_eq_true rfl⟩) (fun _ => rfl) hK hP hD hS [4, 1] (by decide) rfl rfl hl.1 rfl (Nat.le_of_ble_eq_true rfl) dX8_restore_22 ⟨Nat.zero_le _, Nat.zero_le _⟩ (fun u9v H locs hu hP hD hS => ?_)
    refine W.eq (g2 := F0 mi 25 ls []) rfl ?_
    have hP : va_P D vwCl [(v, .inr (8, [.ref a0, .ref a1, .ref a2, .ref a3, .int (iI (e4)), .ref a5, .int (iI (e6)), .ref a7, .int (iI (e8)), .int (iI (e9)), .int (iI (e10)), .ref a11, .int (iI (e12)), .int (iI (e13)), .int (iI (e14)), .ref a15])), (a0, fA cyI 54 ms), (a1, fA cyI 54 m), (a3, fA cyI 216 d), (a5, fA cyI 54 ms)] H := hP
    have hD : va_D (fp_A [(v, .inr (8, [.ref a0, .ref a1, .ref a2, .ref a3, .int (iI (e4)), .ref a5, .int (iI (e6)), .ref a7, .int (iI (e8)), .int (iI (e9)), .int (iI (e10)), .ref a11, .int (iI (e12)), .int (iI (e13)), .int (iI (e14)), .ref a15])), (a0, fA cyI 54 m), (a1, fA cyI 54 kc), (a3, fA cyI 216 d), (a5, fA cyI 54 ms)]) [(v, .inr (8, [.ref a0, .ref a1, .ref a2, .ref a3, .int (iI (e4)), .ref a5, .int (iI (e6)), .ref a7, .int (iI (e8)), .int (iI (e9)), .int (iI (e10)), .ref a11, .int (iI (e12)), .int (iI (e13)), .int (iI (e14)), .ref a15])), (a0, fA cyI 54 ms), (a1, fA cyI 54 m), (a3, fA cyI 216 d), (a5, fA cyI 54 ms)] := hD
    refine lv_aload_n hx hb dX8_restore_25 rfl (lv_at hl 0 rfl) ?_
    refine lv_aload_n hx hb dX8_restore_26 rfl (lv_at hl 0 rfl) ?_
    refine va_get (D := D) (ci := 8) (ws := [(v, .inr (8, [.ref a0, .ref a1, .ref a2, .ref a3, .int (iI (e4)), .ref a5, .int (iI (e6)), .ref a7, .int (iI (e8)), .int (iI (e9)), .int (iI (e10)), .ref a11, .int (iI (e12)), .int (iI (e13)), .int (iI (e14)), .ref a15])), (a0, fA cyI 54 ms), (a1, fA cyI 54 m), (a3, fA cyI 216 d), (a5, fA cyI 54 ms)]) (v := .ref a0) (C := RX8) (T := TX8) (N := 16) hx hb hts (fun _ h => List.mem_cons_of_mem _ (List.mem_append_right _ h)) hown hK.1 hP 0 rfl rfl 0 (by decide) (hts _ fl_X8_restore_7) (fun _ h9 => h9) rfl dX8_restore_27 ?_
    refine fp_iconst hx hb dX8_restore_30 ?_
    refine fp_iald (wsC := [(v, .inr (8, [.ref a0, .ref a1, .ref a2, .ref a3, .int (iI (e4)), .ref a5, .int (iI (e6)), .ref a7, .int (iI (e8)), .int (iI (e9)), .int (iI (e10)), .ref a11, .int (iI (e12)), .int (iI (e13)), .int (iI (e14)), .ref a15])), (a0, fA cyI 54 ms), (a1, fA cyI 54 m), (a3, fA cyI 216 d), (a5, fA cyI 54 ms)]) hx hb hK hP 1 rfl (by omega) (by decide) dX8_restore_31 ?_
    refine fp_wV (As := [.int (iI (ms 5))]) (rest := []) (wsC := [(v, .inr (8, [.ref a0, .ref a1, .ref a2, .ref a3, .int (iI (e4)), .ref a5, .int (iI (e6)), .ref a7, .int (iI (e8)), .int (iI (e9)), .int (iI (e10)), .ref a11, .int (iI (e12)), .int (iI (e13)), .int (iI (e14)), .ref a15])), (a0, fA cyI 54 ms), (a1, fA cyI 54 m), (a3, fA cyI 216 d), (a5, fA cyI 54 ms)]) ⟨hx, hb, hml, hown, hts⟩ (c_X8_acted l D cyI v a0 a1 a2 a3 e4 a5 e6 a7 e8 e9 e10 a11 e12 e13 e14 a15 m d (ms 5) (by omega)) (cwV 1 hts gX8_restore_X8_acted rfl rfl rfl (by decide +kernel) ⟨Nat.le_of_ble_eq_true rfl, Nat.le_of_ble_eq_true rfl⟩) (fun _ => rfl) hK hP hD hS [0, 2, 3] (by decide) rfl rfl rfl rfl hl.1 rfl (Nat.le_of_ble_eq_true rfl) dX8_restore_32 ⟨Nat.zero_le _, Nat.zero_le _⟩ (fun u9v H locs hu hP hD hS => ?_)
    refine W.eq (g2 := F0 mi 35 ls [.int (iI ((ms 5)))]) rfl ?_
    have hP : va_P D vwCl [(v, .inr (8, [.ref a0, .ref a1, .ref a2, .ref a3, .int (iI (recN e4)), .ref a5, .int (iI (e6)), .ref a7, .int (iI (e8)), .int (iI (e9)), .int (iI (e10)), .ref a11, .int (iI (e12)), .int (iI (e13)), .int (iI (e14)), .ref a15])), (a0, fA cyI 54 ms), (a1, fA cyI 54 m), (a3, fA cyI 216 (recH d m e4)), (a5, fA cyI 54 ms)] H := hP
    have hD : va_D (fp_A [(v, .inr (8, [.ref a0, .ref a1, .ref a2, .ref a3, .int (iI (e4)), .ref a5, .int (iI (e6)), .ref a7, .int (iI (e8)), .int (iI (e9)), .int (iI (e10)), .ref a11, .int (iI (e12)), .int (iI (e13)), .int (iI (e14)), .ref a15])), (a0, fA cyI 54 m), (a1, fA cyI 54 kc), (a3, fA cyI 216 d), (a5, fA cyI 54 ms)]) [(v, .inr (8, [.ref a0, .ref a1, .ref a2, .ref a3, .int (iI (recN e4)), .ref a5, .int (iI (e6)), .ref a7, .int (iI (e8)), .int (iI (e9)), .int (iI (e10)), .ref a11, .int (iI (e12)), .int (iI (e13)), .int (iI (e14)), .ref a15])), (a0, fA cyI 54 ms), (a1, fA cyI 54 m), (a3, fA cyI 216 (recH d m e4)), (a5, fA cyI 54 ms)] := hD
    have hR : rsR e6 (cM ms) = (ms 5) := by unfold rsR; repeat (first | rw [if_pos (by omega)] | rw [if_neg (by omega)]); try (first | rfl | omega)
    have hP : va_P D vwCl [(v, .inr (8, [.ref a0, .ref a1, .ref a2, .ref a3, .int (iI (if 0 ≤ rsR e6 (cM ms) then recN e4 else e4)), .ref a5, .int (iI (e6)), .ref a7, .int (iI (e8)), .int (iI (e9)), .int (iI (e10)), .ref a11, .int (iI (e12)), .int (iI (e13)), .int (iI (e14)), .ref a15])), (a0, fA cyI 54 (if 0 ≤ rsR e6 (cM ms) then ms else m)), (a1, fA cyI 54 m), (a3, fA cyI 216 (if 0 ≤ rsR e6 (cM ms) then recH d m e4 else d)), (a5, fA cyI 54 ms)] H := by
      rw [(show (recH d m e4 : Int → Int) = if 0 ≤ rsR e6 (cM ms) then recH d m e4 else d from (by first | rw [if_pos (by omega)] | rw [if_neg (by omega)])).symm]
      rw [(show (recN e4 : Int) = if 0 ≤ rsR e6 (cM ms) then recN e4 else e4 from (by first | rw [if_pos (by omega)] | rw [if_neg (by omega)])).symm]
      rw [(show (ms : Int → Int) = if 0 ≤ rsR e6 (cM ms) then ms else m from (by first | rw [if_pos (by omega)] | rw [if_neg (by omega)])).symm]
      exact hP
    have hret : (rsR e6 (cM ms) : Int) = (ms 5) := (by exact hR)
    exact fp_wret (m) hx hb hr hlocks hS hP trivial (congrArg (fun z : Int => some (Value.int (iI z))) hret) dX8_restore_35
  · skip
    refine fp_bipush hx hb dX8_restore_7 (by decide) ?_
    have hR : rsR e6 (cM ms) = (-5) := by unfold rsR; repeat (first | rw [if_pos (by omega)] | rw [if_neg (by omega)]); try (first | rfl | omega)
    have hP : va_P D vwCl [(v, .inr (8, [.ref a0, .ref a1, .ref a2, .ref a3, .int (iI (if 0 ≤ rsR e6 (cM ms) then recN e4 else e4)), .ref a5, .int (iI (e6)), .ref a7, .int (iI (e8)), .int (iI (e9)), .int (iI (e10)), .ref a11, .int (iI (e12)), .int (iI (e13)), .int (iI (e14)), .ref a15])), (a0, fA cyI 54 (if 0 ≤ rsR e6 (cM ms) then ms else m)), (a1, fA cyI 54 kc), (a3, fA cyI 216 (if 0 ≤ rsR e6 (cM ms) then recH d m e4 else d)), (a5, fA cyI 54 ms)] sx.heap := by
      rw [(show (d : Int → Int) = if 0 ≤ rsR e6 (cM ms) then recH d m e4 else d from (by first | rw [if_pos (by omega)] | rw [if_neg (by omega)])).symm]
      rw [(show (e4 : Int) = if 0 ≤ rsR e6 (cM ms) then recN e4 else e4 from (by first | rw [if_pos (by omega)] | rw [if_neg (by omega)])).symm]
      rw [(show (m : Int → Int) = if 0 ≤ rsR e6 (cM ms) then ms else m from (by first | rw [if_pos (by omega)] | rw [if_neg (by omega)])).symm]
      exact hP
    have hret : (rsR e6 (cM ms) : Int) = (-5) := (by exact hR)
    exact fp_wret (kc) hx hb hr hlocks hS hP trivial (congrArg (fun z : Int => some (Value.int (iI z))) hret) dX8_restore_9
theorem fl_X8_ifChosen_7 : Cond.fieldLink RX8 7 "FacingPlatesModel" "all" "[I" ∈ wsX8_ifChosen := by decide +kernel
theorem fl_X8_ifChosen_16 : Cond.fieldLink RX8 16 "FacingPlatesModel" "tried" "[I" ∈ wsX8_ifChosen := by decide +kernel
set_option maxHeartbeats 4000000 in
set_option maxRecDepth 100000 in
theorem c_X8_ifChosen (l : Launch) (D : va_G) (cyI : ClassId) (v : Nat) (a0 : Nat) (a1 : Nat) (a2 : Nat) (a3 : Nat) (e4 : Int) (a5 : Nat) (e6 : Int) (a7 : Nat) (e8 : Int) (e9 : Int) (e10 : Int) (a11 : Nat) (e12 : Int) (e13 : Int) (e14 : Int) (a15 : Nat) (m : Int → Int) (tc : Int → Int) (k : Int) (b : Int) (q : Int) (hC : CatOK (cM m)) (hb9 : b = 0 ∨ b = 1) (hk9 : -2147483648 ≤ k ∧ k ≤ 2147483647) (hq9 : -2147483648 ≤ q ∧ q ≤ 2147483647) : fp_MW l yX8_ifChosen wsX8_ifChosen ({ frames := 8, cells := 0, slots := 0, locals := 174 } : Room) D cyI [(v, .inr (8, [.ref a0, .ref a1, .ref a2, .ref a3, .int (iI (e4)), .ref a5, .int (iI (e6)), .ref a7, .int (iI (e8)), .int (iI (e9)), .int (iI (e10)), .ref a11, .int (iI (e12)), .int (iI (e13)), .int (iI (e14)), .ref a15])), (a0, fA cyI 54 m), (a2, fA cyI 54 tc)] [.ref v, .int (iI (k)), .int (iI (b)), .int (iI (q))] (fun (u9 : (Int → Int)) => True) (fun (u9 : (Int → Int)) => some (.int (iI (if ¬ (0 ≤ k ∧ k < cM m 0) then -1 else if ¬ (0 ≤ q ∧ q ≤ mostC (cM m) k) then -2 else csC (choL (cM m) k b q))))) (fun (u9 : (Int → Int)) => [(v, .inr (8, [.ref a0, .ref a1, .ref a2, .ref a3, .int (iI (e4)), .ref a5, .int (iI (e6)), .ref a7, .int (iI (e8)), .int (iI (e9)), .int (iI (e10)), .ref a11, .int (iI (e12)), .int (iI (e13)), .int (iI (e14)), .ref a15])), (a0, fA cyI 54 m), (a2, fA cyI 54 u9)]) := by
  refine fp_start (cc := cX8_ifChosen) (maxL := 5) (ret := (some .int)) (by decide) rfl (Nat.le_of_ble_eq_true rfl) ?_
  intro pg en sx mi ar bl mt cd ls hx hb hr hts hown hlocks hml hnm hP hK hD hl
  have hown : sx.vm.findClass RX8 = some mi.cls := hown
  have hl : lv_has ls 5 [(0, .ref v), (1, .int (iI (k))), (2, .int (iI (b))), (3, .int (iI (q)))] := hl
  have hD := fp_self hD
  have hS : va_S (fp_A [(v, .inr (8, [.ref a0, .ref a1, .ref a2, .ref a3, .int (iI (e4)), .ref a5, .int (iI (e6)), .ref a7, .int (iI (e8)), .int (iI (e9)), .int (iI (e10)), .ref a11, .int (iI (e12)), .int (iI (e13)), .int (iI (e14)), .ref a15])), (a0, fA cyI 54 m), (a2, fA cyI 54 tc)]) sx.heap sx.heap [] := va_S.rf
  have hN := hC.1
  rw [cM_0] at hN
  have e0 : cM m 0 = m 5 := cM_0 m
  refine lv_aload_n hx hb dX8_ifChosen_0 rfl (lv_at hl 0 rfl) ?_
  refine lv_iload_n hx hb dX8_ifChosen_1 rfl (lv_at hl 1 rfl) ?_
  refine fp_pV (As := [.int (iI (k))]) (rest := []) (wsC := [(v, .inr (8, [.ref a0, .ref a1, .ref a2, .ref a3, .int (iI (e4)), .ref a5, .int (iI (e6)), .ref a7, .int (iI (e8)), .int (iI (e9)), .int (iI (e10)), .ref a11, .int (iI (e12)), .int (iI (e13)), .int (iI (e14)), .ref a15])), (a0, fA cyI 54 m), (a2, fA cyI 54 tc)]) ⟨hx, hb, hml, hown, hts⟩ (c_X8_isLot l D cyI v a0 a1 a2 a3 e4 a5 e6 a7 e8 e9 e10 a11 e12 e13 e14 a15 m k hk9 hN) (cwV 1 hts gX8_ifChosen_X8_isLot rfl rfl rfl (by decide +kernel) ⟨Nat.le_of_ble_eq_true rfl, Nat.le_of_ble_eq_true rfl⟩) hK hP hD [0, 1] (by decide) rfl rfl rfl rfl hl.1 rfl (Nat.le_of_ble_eq_true rfl) dX8_ifChosen_2 ⟨Nat.zero_le _, Nat.zero_le _⟩ ?_
  refine fp_if_ne (tgt := 10) hx hb (bI_r32 _) dX8_ifChosen_5 (by decide) (fun q5 => ?_) (fun q5 => ?_)
  · skip
    have w5 := bI_ne q5
    have hk := w5
    have hL := lot_f hC (k := k) (by rw [cM_0]; exact hk)
    unfold LotOK at hL
    rw [cM_t (by omega), cM_p (by omega), cM_b (by omega), cM_q (by omega)] at hL
    refine lv_aload_n hx hb dX8_ifChosen_10 rfl (lv_at hl 0 rfl) ?_
    refine lv_iload_n hx hb dX8_ifChosen_11 rfl (lv_at hl 1 rfl) ?_
    refine lv_iload_n hx hb dX8_ifChosen_12 rfl (lv_at hl 3 rfl) ?_
    refine fp_pV (As := [.int (iI (k)), .int (iI (q))]) (rest := []) (wsC := [(v, .inr (8, [.ref a0, .ref a1, .ref a2, .ref a3, .int (iI (e4)), .ref a5, .int (iI (e6)), .ref a7, .int (iI (e8)), .int (iI (e9)), .int (iI (e10)), .ref a11, .int (iI (e12)), .int (iI (e13)), .int (iI (e14)), .ref a15])), (a0, fA cyI 54 m), (a2, fA cyI 54 tc)]) ⟨hx, hb, hml, hown, hts⟩ (c_X8_isPlace l D cyI v a0 a1 a2 a3 e4 a5 e6 a7 e8 e9 e10 a11 e12 e13 e14 a15 m k q hC hk hq9) (cwV 2 hts gX8_ifChosen_X8_isPlace rfl rfl rfl (by decide +kernel) ⟨Nat.le_of_ble_eq_true rfl, Nat.le_of_ble_eq_true rfl⟩) hK hP hD [0, 1] (by decide) rfl rfl rfl rfl hl.1 rfl (Nat.le_of_ble_eq_true rfl) dX8_ifChosen_13 ⟨Nat.zero_le _, Nat.zero_le _⟩ ?_
    refine fp_if_ne (tgt := 22) hx hb (bI_r32 _) dX8_ifChosen_16 (by decide) (fun q16 => ?_) (fun q16 => ?_)
    · skip
      have w16 := bI_ne q16
      refine lv_aload_n hx hb dX8_ifChosen_22 rfl (lv_at hl 0 rfl) ?_
      refine va_get (D := D) (ci := 8) (ws := [(v, .inr (8, [.ref a0, .ref a1, .ref a2, .ref a3, .int (iI (e4)), .ref a5, .int (iI (e6)), .ref a7, .int (iI (e8)), .int (iI (e9)), .int (iI (e10)), .ref a11, .int (iI (e12)), .int (iI (e13)), .int (iI (e14)), .ref a15])), (a0, fA cyI 54 m), (a2, fA cyI 54 tc)]) (v := .ref a0) (C := RX8) (T := TX8) (N := 16) hx hb hts (fun _ h => List.mem_cons_of_mem _ (List.mem_append_right _ h)) hown hK.1 hP 0 rfl rfl 0 (by decide) (hts _ fl_X8_ifChosen_7) (fun _ h9 => h9) rfl dX8_ifChosen_23 ?_
      refine lv_aload_n hx hb dX8_ifChosen_26 rfl (lv_at hl 0 rfl) ?_
      refine va_get (D := D) (ci := 8) (ws := [(v, .inr (8, [.ref a0, .ref a1, .ref a2, .ref a3, .int (iI (e4)), .ref a5, .int (iI (e6)), .ref a7, .int (iI (e8)), .int (iI (e9)), .int (iI (e10)), .ref a11, .int (iI (e12)), .int (iI (e13)), .int (iI (e14)), .ref a15])), (a0, fA cyI 54 m), (a2, fA cyI 54 tc)]) (v := .ref a2) (C := RX8) (T := TX8) (N := 16) hx hb hts (fun _ h => List.mem_cons_of_mem _ (List.mem_append_right _ h)) hown hK.1 hP 0 rfl rfl 2 (by decide) (hts _ fl_X8_ifChosen_16) (fun _ h9 => h9) rfl dX8_ifChosen_27 ?_
      refine fp_wS (As := [.ref a0, .ref a2]) (rest := []) (wsC := [(v, .inr (8, [.ref a0, .ref a1, .ref a2, .ref a3, .int (iI (e4)), .ref a5, .int (iI (e6)), .ref a7, .int (iI (e8)), .int (iI (e9)), .int (iI (e10)), .ref a11, .int (iI (e12)), .int (iI (e13)), .int (iI (e14)), .ref a15])), (a0, fA cyI 54 m), (a2, fA cyI 54 tc)]) ⟨hx, hb, hml, hown, hts⟩ (c_X8_copy l D cyI a0 a2 m tc) (va_cwS 2 hts gX8_ifChosen_X8_copy rfl rfl rfl (by decide +kernel) ⟨Nat.le_of_ble_eq_true rfl, Nat.le_of_ble_eq_true rfl⟩) (fun _ => rfl) hK hP hD hS [1, 2] (by decide) rfl rfl hl.1 rfl (Nat.le_of_ble_eq_true rfl) dX8_ifChosen_30 ⟨Nat.zero_le _, Nat.zero_le _⟩ (fun u9v H locs hu hP hD hS => ?_)
      refine W.eq (g2 := F0 mi 33 ls []) rfl ?_
      have hP : va_P D vwCl [(v, .inr (8, [.ref a0, .ref a1, .ref a2, .ref a3, .int (iI (e4)), .ref a5, .int (iI (e6)), .ref a7, .int (iI (e8)), .int (iI (e9)), .int (iI (e10)), .ref a11, .int (iI (e12)), .int (iI (e13)), .int (iI (e14)), .ref a15])), (a0, fA cyI 54 m), (a2, fA cyI 54 m)] H := hP
      have hD : va_D (fp_A [(v, .inr (8, [.ref a0, .ref a1, .ref a2, .ref a3, .int (iI (e4)), .ref a5, .int (iI (e6)), .ref a7, .int (iI (e8)), .int (iI (e9)), .int (iI (e10)), .ref a11, .int (iI (e12)), .int (iI (e13)), .int (iI (e14)), .ref a15])), (a0, fA cyI 54 m), (a2, fA cyI 54 tc)]) [(v, .inr (8, [.ref a0, .ref a1, .ref a2, .ref a3, .int (iI (e4)), .ref a5, .int (iI (e6)), .ref a7, .int (iI (e8)), .int (iI (e9)), .int (iI (e10)), .ref a11, .int (iI (e12)), .int (iI (e13)), .int (iI (e14)), .ref a15])), (a0, fA cyI 54 m), (a2, fA cyI 54 m)] := hD
      refine lv_aload_n hx hb dX8_ifChosen_33 rfl (lv_at hl 0 rfl) ?_
      refine va_get (D := D) (ci := 8) (ws := [(v, .inr (8, [.ref a0, .ref a1, .ref a2, .ref a3, .int (iI (e4)), .ref a5, .int (iI (e6)), .ref a7, .int (iI (e8)), .int (iI (e9)), .int (iI (e10)), .ref a11, .int (iI (e12)), .int (iI (e13)), .int (iI (e14)), .ref a15])), (a0, fA cyI 54 m), (a2, fA cyI 54 m)]) (v := .ref a0) (C := RX8) (T := TX8) (N := 16) hx hb hts (fun _ h => List.mem_cons_of_mem _ (List.mem_append_right _ h)) hown hK.1 hP 0 rfl rfl 0 (by decide) (hts _ fl_X8_ifChosen_7) (fun _ h9 => h9) rfl dX8_ifChosen_34 ?_
      refine fp_bipush hx hb dX8_ifChosen_37 (by decide) ?_
      refine lv_iload_n hx hb dX8_ifChosen_39 rfl (lv_at hl 1 rfl) ?_
      refine fp_iadd hx hb dX8_ifChosen_40 ?_
      refine lv_iload_n hx hb dX8_ifChosen_41 rfl (lv_at hl 2 rfl) ?_
      have jn2 : ∀ (bb : Int), (bb = b) → ∀ (H : Heap) (locs : List Loc), va_P D vwCl [(v, .inr (8, [.ref a0, .ref a1, .ref a2, .ref a3, .int (iI (e4)), .ref a5, .int (iI (e6)), .ref a7, .int (iI (e8)), .int (iI (e9)), .int (iI (e10)), .ref a11, .int (iI (e12)), .int (iI (e13)), .int (iI (e14)), .ref a15])), (a0, fA cyI 54 m), (a2, fA cyI 54 m)] H → va_D (fp_A [(v, .inr (8, [.ref a0, .ref a1, .ref a2, .ref a3, .int (iI (e4)), .ref a5, .int (iI (e6)), .ref a7, .int (iI (e8)), .int (iI (e9)), .int (iI (e10)), .ref a11, .int (iI (e12)), .int (iI (e13)), .int (iI (e14)), .ref a15])), (a0, fA cyI 54 m), (a2, fA cyI 54 tc)]) [(v, .inr (8, [.ref a0, .ref a1, .ref a2, .ref a3, .int (iI (e4)), .ref a5, .int (iI (e6)), .ref a7, .int (iI (e8)), .int (iI (e9)), .int (iI (e10)), .ref a11, .int (iI (e12)), .int (iI (e13)), .int (iI (e14)), .ref a15])), (a0, fA cyI 54 m), (a2, fA cyI 54 m)] → va_S (fp_A [(v, .inr (8, [.ref a0, .ref a1, .ref a2, .ref a3, .int (iI (e4)), .ref a5, .int (iI (e6)), .ref a7, .int (iI (e8)), .int (iI (e9)), .int (iI (e10)), .ref a11, .int (iI (e12)), .int (iI (e13)), .int (iI (e14)), .ref a15])), (a0, fA cyI 54 m), (a2, fA cyI 54 tc)]) sx.heap H locs → ∀ (ls : Array Slot), lv_has ls 5 [(0, .ref v), (1, .int (iI (k))), (2, .int (iI (b))), (3, .int (iI (q)))] → W pg l en ({ frames := 8, cells := 0, slots := 0, locals := 174 } : Room) sx mi ar bl mt cd H locs 0 0 (MQ bl (fp_Qw D [(v, .inr (8, [.ref a0, .ref a1, .ref a2, .ref a3, .int (iI (e4)), .ref a5, .int (iI (e6)), .ref a7, .int (iI (e8)), .int (iI (e9)), .int (iI (e10)), .ref a11, .int (iI (e12)), .int (iI (e13)), .int (iI (e14)), .ref a15])), (a0, fA cyI 54 m), (a2, fA cyI 54 tc)] (fun (u9 : (Int → Int)) => True) (fun (u9 : (Int → Int)) => some (.int (iI (if ¬ (0 ≤ k ∧ k < cM m 0) then -1 else if ¬ (0 ≤ q ∧ q ≤ mostC (cM m) k) then -2 else csC (choL (cM m) k b q))))) (fun (u9 : (Int → Int)) => [(v, .inr (8, [.ref a0, .ref a1, .ref a2, .ref a3, .int (iI (e4)), .ref a5, .int (iI (e6)), .ref a7, .int (iI (e8)), .int (iI (e9)), .int (iI (e10)), .ref a11, .int (iI (e12)), .int (iI (e13)), .int (iI (e14)), .ref a15])), (a0, fA cyI 54 m), (a2, fA cyI 54 u9)])) ar sx 0 0 (fp_A [(v, .inr (8, [.ref a0, .ref a1, .ref a2, .ref a3, .int (iI (e4)), .ref a5, .int (iI (e6)), .ref a7, .int (iI (e8)), .int (iI (e9)), .int (iI (e10)), .ref a11, .int (iI (e12)), .int (iI (e13)), .int (iI (e14)), .ref a15])), (a0, fA cyI 54 m), (a2, fA cyI 54 tc)])) (F0 mi 50 ls [.int (iI (bb)), .int (iI (30 + k)), .ref a0]) := by
        intro bb jb H locs hP hD hS ls hl
        rw [show (bb : Int) = b from jb]
        refine fp_iast (wsC := [(v, .inr (8, [.ref a0, .ref a1, .ref a2, .ref a3, .int (iI (e4)), .ref a5, .int (iI (e6)), .ref a7, .int (iI (e8)), .int (iI (e9)), .int (iI (e10)), .ref a11, .int (iI (e12)), .int (iI (e13)), .int (iI (e14)), .ref a15])), (a0, fA cyI 54 m), (a2, fA cyI 54 m)]) hx hb hK hP hD hS 1 rfl (by omega) (by decide) dX8_ifChosen_50 (fun H locs hP hD hS => ?_)
        have hP : va_P D vwCl [(v, .inr (8, [.ref a0, .ref a1, .ref a2, .ref a3, .int (iI (e4)), .ref a5, .int (iI (e6)), .ref a7, .int (iI (e8)), .int (iI (e9)), .int (iI (e10)), .ref a11, .int (iI (e12)), .int (iI (e13)), .int (iI (e14)), .ref a15])), (a0, fA cyI 54 (upI (m) (30 + k) (b))), (a2, fA cyI 54 m)] H := hP
        have hD : va_D (fp_A [(v, .inr (8, [.ref a0, .ref a1, .ref a2, .ref a3, .int (iI (e4)), .ref a5, .int (iI (e6)), .ref a7, .int (iI (e8)), .int (iI (e9)), .int (iI (e10)), .ref a11, .int (iI (e12)), .int (iI (e13)), .int (iI (e14)), .ref a15])), (a0, fA cyI 54 m), (a2, fA cyI 54 tc)]) [(v, .inr (8, [.ref a0, .ref a1, .ref a2, .ref a3, .int (iI (e4)), .ref a5, .int (iI (e6)), .ref a7, .int (iI (e8)), .int (iI (e9)), .int (iI (e10)), .ref a11, .int (iI (e12)), .int (iI (e13)), .int (iI (e14)), .ref a15])), (a0, fA cyI 54 (upI (m) (30 + k) (b))), (a2, fA cyI 54 m)] := hD
        refine lv_aload_n hx hb dX8_ifChosen_51 rfl (lv_at hl 0 rfl) ?_
        refine va_get (D := D) (ci := 8) (ws := [(v, .inr (8, [.ref a0, .ref a1, .ref a2, .ref a3, .int (iI (e4)), .ref a5, .int (iI (e6)), .ref a7, .int (iI (e8)), .int (iI (e9)), .int (iI (e10)), .ref a11, .int (iI (e12)), .int (iI (e13)), .int (iI (e14)), .ref a15])), (a0, fA cyI 54 (upI (m) (30 + k) (b))), (a2, fA cyI 54 m)]) (v := .ref a0) (C := RX8) (T := TX8) (N := 16) hx hb hts (fun _ h => List.mem_cons_of_mem _ (List.mem_append_right _ h)) hown hK.1 hP 0 rfl rfl 0 (by decide) (hts _ fl_X8_ifChosen_7) (fun _ h9 => h9) rfl dX8_ifChosen_52 ?_
        refine fp_bipush hx hb dX8_ifChosen_55 (by decide) ?_
        refine lv_iload_n hx hb dX8_ifChosen_57 rfl (lv_at hl 1 rfl) ?_
        refine fp_iadd hx hb dX8_ifChosen_58 ?_
        refine lv_iload_n hx hb dX8_ifChosen_59 rfl (lv_at hl 3 rfl) ?_
        refine fp_iast (wsC := [(v, .inr (8, [.ref a0, .ref a1, .ref a2, .ref a3, .int (iI (e4)), .ref a5, .int (iI (e6)), .ref a7, .int (iI (e8)), .int (iI (e9)), .int (iI (e10)), .ref a11, .int (iI (e12)), .int (iI (e13)), .int (iI (e14)), .ref a15])), (a0, fA cyI 54 (upI (m) (30 + k) (b))), (a2, fA cyI 54 m)]) hx hb hK hP hD hS 1 rfl (by omega) (by decide) dX8_ifChosen_60 (fun H locs hP hD hS => ?_)
        have hP : va_P D vwCl [(v, .inr (8, [.ref a0, .ref a1, .ref a2, .ref a3, .int (iI (e4)), .ref a5, .int (iI (e6)), .ref a7, .int (iI (e8)), .int (iI (e9)), .int (iI (e10)), .ref a11, .int (iI (e12)), .int (iI (e13)), .int (iI (e14)), .ref a15])), (a0, fA cyI 54 (upI (upI (m) (30 + k) (b)) (42 + k) (q))), (a2, fA cyI 54 m)] H := hP
        have hD : va_D (fp_A [(v, .inr (8, [.ref a0, .ref a1, .ref a2, .ref a3, .int (iI (e4)), .ref a5, .int (iI (e6)), .ref a7, .int (iI (e8)), .int (iI (e9)), .int (iI (e10)), .ref a11, .int (iI (e12)), .int (iI (e13)), .int (iI (e14)), .ref a15])), (a0, fA cyI 54 m), (a2, fA cyI 54 tc)]) [(v, .inr (8, [.ref a0, .ref a1, .ref a2, .ref a3, .int (iI (e4)), .ref a5, .int (iI (e6)), .ref a7, .int (iI (e8)), .int (iI (e9)), .int (iI (e10)), .ref a11, .int (iI (e12)), .int (iI (e13)), .int (iI (e14)), .ref a15])), (a0, fA cyI 54 (upI (upI (m) (30 + k) (b)) (42 + k) (q))), (a2, fA cyI 54 m)] := hD
        have hsm := cM_cho (m := m) (k := k) (b := b) (q := q) (by omega) hN.2
        have hC9 := Cat_cho hC (k := k) (b := b) (q := q) (by omega) (by omega) w16
        have hC8 := Same_Cat hsm hC9
        have hpe := Same_cs hsm hC9
        refine lv_aload_n hx hb dX8_ifChosen_61 rfl (lv_at hl 0 rfl) ?_
        refine fp_pV (As := []) (rest := []) (wsC := [(v, .inr (8, [.ref a0, .ref a1, .ref a2, .ref a3, .int (iI (e4)), .ref a5, .int (iI (e6)), .ref a7, .int (iI (e8)), .int (iI (e9)), .int (iI (e10)), .ref a11, .int (iI (e12)), .int (iI (e13)), .int (iI (e14)), .ref a15])), (a0, fA cyI 54 (upI (upI (m) (30 + k) (b)) (42 + k) (q))), (a2, fA cyI 54 m)]) ⟨hx, hb, hml, hown, hts⟩ (c_X8_cost l D cyI v a0 a1 a2 a3 e4 a5 e6 a7 e8 e9 e10 a11 e12 e13 e14 a15 (upI (upI (m) (30 + k) (b)) (42 + k) (q)) hC8) (cwV 0 hts gX8_ifChosen_X8_cost rfl rfl rfl (by decide +kernel) ⟨Nat.le_of_ble_eq_true rfl, Nat.le_of_ble_eq_true rfl⟩) hK hP hD [0, 1] (by decide) rfl rfl rfl rfl hl.1 rfl (Nat.le_of_ble_eq_true rfl) dX8_ifChosen_62 ⟨Nat.zero_le _, Nat.zero_le _⟩ ?_
        rw [show (csC (cM (upI (upI (m) (30 + k) (b)) (42 + k) (q))) : Int) = csC (choL (cM m) k b q) from hpe.symm]
        refine lv_istore (lv' := [(4, .int (iI (csC (choL (cM m) k b q)))), (0, .ref v), (1, .int (iI (k))), (2, .int (iI (b))), (3, .int (iI (q)))]) hx hb dX8_ifChosen_65 hl (by decide) rfl (fun ls hl => ?_)
        refine lv_aload_n hx hb dX8_ifChosen_67 rfl (lv_at hl 1 rfl) ?_
        refine va_get (D := D) (ci := 8) (ws := [(v, .inr (8, [.ref a0, .ref a1, .ref a2, .ref a3, .int (iI (e4)), .ref a5, .int (iI (e6)), .ref a7, .int (iI (e8)), .int (iI (e9)), .int (iI (e10)), .ref a11, .int (iI (e12)), .int (iI (e13)), .int (iI (e14)), .ref a15])), (a0, fA cyI 54 (upI (upI (m) (30 + k) (b)) (42 + k) (q))), (a2, fA cyI 54 m)]) (v := .ref a2) (C := RX8) (T := TX8) (N := 16) hx hb hts (fun _ h => List.mem_cons_of_mem _ (List.mem_append_right _ h)) hown hK.1 hP 0 rfl rfl 2 (by decide) (hts _ fl_X8_ifChosen_16) (fun _ h9 => h9) rfl dX8_ifChosen_68 ?_
        refine lv_aload_n hx hb dX8_ifChosen_71 rfl (lv_at hl 1 rfl) ?_
        refine va_get (D := D) (ci := 8) (ws := [(v, .inr (8, [.ref a0, .ref a1, .ref a2, .ref a3, .int (iI (e4)), .ref a5, .int (iI (e6)), .ref a7, .int (iI (e8)), .int (iI (e9)), .int (iI (e10)), .ref a11, .int (iI (e12)), .int (iI (e13)), .int (iI (e14)), .ref a15])), (a0, fA cyI 54 (upI (upI (m) (30 + k) (b)) (42 + k) (q))), (a2, fA cyI 54 m)]) (v := .ref a0) (C := RX8) (T := TX8) (N := 16) hx hb hts (fun _ h => List.mem_cons_of_mem _ (List.mem_append_right _ h)) hown hK.1 hP 0 rfl rfl 0 (by decide) (hts _ fl_X8_ifChosen_7) (fun _ h9 => h9) rfl dX8_ifChosen_72 ?_
        refine fp_wS (As := [.ref a2, .ref a0]) (rest := []) (wsC := [(v, .inr (8, [.ref a0, .ref a1, .ref a2, .ref a3, .int (iI (e4)), .ref a5, .int (iI (e6)), .ref a7, .int (iI (e8)), .int (iI (e9)), .int (iI (e10)), .ref a11, .int (iI (e12)), .int (iI (e13)), .int (iI (e14)), .ref a15])), (a0, fA cyI 54 (upI (upI (m) (30 + k) (b)) (42 + k) (q))), (a2, fA cyI 54 m)]) ⟨hx, hb, hml, hown, hts⟩ (c_X8_copy l D cyI a2 a0 m (upI (upI (m) (30 + k) (b)) (42 + k) (q))) (va_cwS 2 hts gX8_ifChosen_X8_copy rfl rfl rfl (by decide +kernel) ⟨Nat.le_of_ble_eq_true rfl, Nat.le_of_ble_eq_true rfl⟩) (fun _ => rfl) hK hP hD hS [2, 1] (by decide) rfl rfl hl.1 rfl (Nat.le_of_ble_eq_true rfl) dX8_ifChosen_75 ⟨Nat.zero_le _, Nat.zero_le _⟩ (fun u9v H locs hu hP hD hS => ?_)
        refine W.eq (g2 := F0 mi 78 ls []) rfl ?_
        have hP : va_P D vwCl [(v, .inr (8, [.ref a0, .ref a1, .ref a2, .ref a3, .int (iI (e4)), .ref a5, .int (iI (e6)), .ref a7, .int (iI (e8)), .int (iI (e9)), .int (iI (e10)), .ref a11, .int (iI (e12)), .int (iI (e13)), .int (iI (e14)), .ref a15])), (a0, fA cyI 54 m), (a2, fA cyI 54 m)] H := hP
        have hD : va_D (fp_A [(v, .inr (8, [.ref a0, .ref a1, .ref a2, .ref a3, .int (iI (e4)), .ref a5, .int (iI (e6)), .ref a7, .int (iI (e8)), .int (iI (e9)), .int (iI (e10)), .ref a11, .int (iI (e12)), .int (iI (e13)), .int (iI (e14)), .ref a15])), (a0, fA cyI 54 m), (a2, fA cyI 54 tc)]) [(v, .inr (8, [.ref a0, .ref a1, .ref a2, .ref a3, .int (iI (e4)), .ref a5, .int (iI (e6)), .ref a7, .int (iI (e8)), .int (iI (e9)), .int (iI (e10)), .ref a11, .int (iI (e12)), .int (iI (e13)), .int (iI (e14)), .ref a15])), (a0, fA cyI 54 m), (a2, fA cyI 54 m)] := hD
        refine lv_iload hx hb dX8_ifChosen_78 (lv_at hl 0 rfl) ?_
        have hret : (if ¬ (0 ≤ k ∧ k < cM m 0) then -1 else if ¬ (0 ≤ q ∧ q ≤ mostC (cM m) k) then -2 else csC (choL (cM m) k b q) : Int) = csC (choL (cM m) k b q) := (by first | rw [if_pos (by omega)] | rw [if_neg (by omega), if_pos (by omega)] | rw [if_neg (by omega), if_neg (by omega)])
        exact fp_wret (m) hx hb hr hlocks hS hP trivial (congrArg (fun z : Int => some (Value.int (iI z))) hret) dX8_ifChosen_80
      refine fp_if_eq (tgt := 49) hx hb (by omega) dX8_ifChosen_42 (by decide) (fun q42 => ?_) (fun q42 => ?_)
      · skip
        refine fp_iconst hx hb dX8_ifChosen_49 ?_
        exact jn2 0 (by omega) H locs hP hD hS ls (lv_sub hl [0, 1, 2, 3] rfl)
      · skip
        refine fp_iconst hx hb dX8_ifChosen_45 ?_
        refine lv_goto (tgt := 50) hx hb dX8_ifChosen_46 (by decide) ?_
        exact jn2 1 (by omega) H locs hP hD hS ls (lv_sub hl [0, 1, 2, 3] rfl)
    · skip
      have w16 := bI_e q16
      refine fp_bipush hx hb dX8_ifChosen_19 (by decide) ?_
      have hret : (if ¬ (0 ≤ k ∧ k < cM m 0) then -1 else if ¬ (0 ≤ q ∧ q ≤ mostC (cM m) k) then -2 else csC (choL (cM m) k b q) : Int) = (-2) := (by first | rw [if_pos (by omega)] | rw [if_neg (by omega), if_pos (by omega)] | rw [if_neg (by omega), if_neg (by omega)])
      exact fp_wret (tc) hx hb hr hlocks hS hP trivial (congrArg (fun z : Int => some (Value.int (iI z))) hret) dX8_ifChosen_21
  · skip
    have w5 := bI_e q5
    refine fp_iconst hx hb dX8_ifChosen_8 ?_
    have hret : (if ¬ (0 ≤ k ∧ k < cM m 0) then -1 else if ¬ (0 ≤ q ∧ q ≤ mostC (cM m) k) then -2 else csC (choL (cM m) k b q) : Int) = (-1) := (by first | rw [if_pos (by omega)] | rw [if_neg (by omega), if_pos (by omega)] | rw [if_neg (by omega), if_neg (by omega)])
    exact fp_wret (tc) hx hb hr hlocks hS hP trivial (congrArg (fun z : Int => some (Value.int (iI z))) hret) dX8_ifChosen_9
theorem ck_X8_cheapest_130 : Cond.constant RX8 130 (10000000) ∈ wsX8_cheapest := by decide +kernel
theorem fl_X8_cheapest_7 : Cond.fieldLink RX8 7 "FacingPlatesModel" "all" "[I" ∈ wsX8_cheapest := by decide +kernel
theorem fl_X8_cheapest_16 : Cond.fieldLink RX8 16 "FacingPlatesModel" "tried" "[I" ∈ wsX8_cheapest := by decide +kernel
set_option maxHeartbeats 4000000 in
set_option maxRecDepth 100000 in
theorem c_X8_cheapest (l : Launch) (D : va_G) (cyI : ClassId) (v : Nat) (a0 : Nat) (a1 : Nat) (a2 : Nat) (a3 : Nat) (e4 : Int) (a5 : Nat) (e6 : Int) (a7 : Nat) (e8 : Int) (e9 : Int) (e10 : Int) (a11 : Nat) (e12 : Int) (e13 : Int) (e14 : Int) (a15 : Nat) (m : Int → Int) (tc : Int → Int) (le : Int → Int) (k : Int) (w : Int) (hC : CatOK (cM m)) (hk9 : -2147483648 ≤ k ∧ k ≤ 2147483647) (hw9 : -2147483648 ≤ w ∧ w ≤ 2147483647) : fp_MW l yX8_cheapest wsX8_cheapest ({ frames := 6, cells := 0, slots := 0, locals := 144 } : Room) D cyI [(v, .inr (8, [.ref a0, .ref a1, .ref a2, .ref a3, .int (iI (e4)), .ref a5, .int (iI (e6)), .ref a7, .int (iI (e8)), .int (iI (e9)), .int (iI (e10)), .ref a11, .int (iI (e12)), .int (iI (e13)), .int (iI (e14)), .ref a15])), (a0, fA cyI 54 m), (a2, fA cyI 54 tc), (a7, fA cyI 3328 le)] [.ref v, .int (iI (k)), .int (iI (w))] (fun (u9 : (Int → Int) × (Int → Int) × (Int → Int) × (Int) × (Int) × (Int)) => ((0 ≤ k ∧ k < cM m 0) ∧ (0 ≤ w ∧ w ≤ 1) → Agr (cM u9.1) (cM m) ∧ CatOK (cM u9.1) ∧ Opt (cM m) (cM u9.1) (cM m (49 + 0)) (cM m 0))) (fun (u9 : (Int → Int) × (Int → Int) × (Int → Int) × (Int) × (Int) × (Int)) => some (.int (iI (if ¬ (0 ≤ k ∧ k < cM m 0) then -1 else if ¬ (0 ≤ w ∧ w ≤ 1) then -2 else if w = 0 then cM u9.1 (k * 4 + 3) else if cM m (k * 4 + 2) = 0 then -5 else cM u9.1 (k * 4 + 4))))) (fun (u9 : (Int → Int) × (Int → Int) × (Int → Int) × (Int) × (Int) × (Int)) => [(v, .inr (8, [.ref a0, .ref a1, .ref a2, .ref a3, .int (iI (e4)), .ref a5, .int (iI (e6)), .ref a7, .int (iI (u9.2.2.2.1)), .int (iI (u9.2.2.2.2.1)), .int (iI (u9.2.2.2.2.2)), .ref a11, .int (iI (e12)), .int (iI (e13)), .int (iI (e14)), .ref a15])), (a0, fA cyI 54 m), (a2, fA cyI 54 u9.2.1), (a7, fA cyI 3328 u9.2.2.1)]) := by
  refine fp_start (cc := cX8_cheapest) (maxL := 4) (ret := (some .int)) (by decide) rfl (Nat.le_of_ble_eq_true rfl) ?_
  intro pg en sx mi ar bl mt cd ls hx hb hr hts hown hlocks hml hnm hP hK hD hl
  have hown : sx.vm.findClass RX8 = some mi.cls := hown
  have hl : lv_has ls 4 [(0, .ref v), (1, .int (iI (k))), (2, .int (iI (w)))] := hl
  have hD := fp_self hD
  have hS : va_S (fp_A [(v, .inr (8, [.ref a0, .ref a1, .ref a2, .ref a3, .int (iI (e4)), .ref a5, .int (iI (e6)), .ref a7, .int (iI (e8)), .int (iI (e9)), .int (iI (e10)), .ref a11, .int (iI (e12)), .int (iI (e13)), .int (iI (e14)), .ref a15])), (a0, fA cyI 54 m), (a2, fA cyI 54 tc), (a7, fA cyI 3328 le)]) sx.heap sx.heap [] := va_S.rf
  have hN := hC.1
  rw [cM_0] at hN
  have e0 : cM m 0 = m 5 := cM_0 m
  have hXC := hC.2.2
  unfold SetOK at hXC
  have hvl : bsM (cM m) (cM m (49 + 0)) (cM m 0 - 0).toNat 0 0 0 ≤ 999999 ∧ 0 ≤ bsM (cM m) (cM m (49 + 0)) (cM m 0 - 0).toNat 0 0 0 := by
    rw [nrm_bs hC hXC.1 _ 0 0 0 (by omega) (by omega) (by omega)]
    have := bs_lt hC (k := 0) (p := 0) (s := nrm (cM m (49 + 0)) 0 0) hXC.1 (by omega) (by omega)
    omega
  refine lv_aload_n hx hb dX8_cheapest_0 rfl (lv_at hl 0 rfl) ?_
  refine lv_iload_n hx hb dX8_cheapest_1 rfl (lv_at hl 1 rfl) ?_
  refine fp_pV (As := [.int (iI (k))]) (rest := []) (wsC := [(v, .inr (8, [.ref a0, .ref a1, .ref a2, .ref a3, .int (iI (e4)), .ref a5, .int (iI (e6)), .ref a7, .int (iI (e8)), .int (iI (e9)), .int (iI (e10)), .ref a11, .int (iI (e12)), .int (iI (e13)), .int (iI (e14)), .ref a15])), (a0, fA cyI 54 m), (a2, fA cyI 54 tc), (a7, fA cyI 3328 le)]) ⟨hx, hb, hml, hown, hts⟩ (c_X8_isLot l D cyI v a0 a1 a2 a3 e4 a5 e6 a7 e8 e9 e10 a11 e12 e13 e14 a15 m k hk9 hN) (cwV 1 hts gX8_cheapest_X8_isLot rfl rfl rfl (by decide +kernel) ⟨Nat.le_of_ble_eq_true rfl, Nat.le_of_ble_eq_true rfl⟩) hK hP hD [0, 1] (by decide) rfl rfl rfl rfl hl.1 rfl (Nat.le_of_ble_eq_true rfl) dX8_cheapest_2 ⟨Nat.zero_le _, Nat.zero_le _⟩ ?_
  refine fp_if_ne (tgt := 10) hx hb (bI_r32 _) dX8_cheapest_5 (by decide) (fun q5 => ?_) (fun q5 => ?_)
  · skip
    have w5 := bI_ne q5
    have hk := w5
    have hL := lot_f hC (k := k) (by rw [cM_0]; exact hk)
    unfold LotOK at hL
    rw [cM_t (by omega), cM_p (by omega), cM_b (by omega), cM_q (by omega)] at hL
    have e2 : cM m (k * 4 + 2) = m (18 + k) := cM_p (by omega)
    refine lv_iload_n hx hb dX8_cheapest_10 rfl (lv_at hl 2 rfl) ?_
    refine fp_i2l hx hb (by omega) dX8_cheapest_11 ?_
    refine fp_lconst hx hb 0 dX8_cheapest_12 rfl ?_
    refine fp_lconst hx hb 1 dX8_cheapest_13 rfl ?_
    refine fp_pS (As := [.long (lI (w)), .long (lI (0)), .long (lI (1))]) (rest := []) (wsC := [(v, .inr (8, [.ref a0, .ref a1, .ref a2, .ref a3, .int (iI (e4)), .ref a5, .int (iI (e6)), .ref a7, .int (iI (e8)), .int (iI (e9)), .int (iI (e10)), .ref a11, .int (iI (e12)), .int (iI (e13)), .int (iI (e14)), .ref a15])), (a0, fA cyI 54 m), (a2, fA cyI 54 tc), (a7, fA cyI 3328 le)]) ⟨hx, hb, hml, hown, hts⟩ (c_X8_in l D cyI w 0 1 (by omega)) (va_cwS 3 hts gX8_cheapest_X8_in rfl rfl rfl (by decide +kernel) ⟨Nat.le_of_ble_eq_true rfl, Nat.le_of_ble_eq_true rfl⟩) hK hP hD [] (by decide) rfl rfl hl.1 rfl (Nat.le_of_ble_eq_true rfl) dX8_cheapest_14 ⟨Nat.zero_le _, Nat.zero_le _⟩ ?_
    refine fp_if_ne (tgt := 23) hx hb (bI_r32 _) dX8_cheapest_17 (by decide) (fun q17 => ?_) (fun q17 => ?_)
    · skip
      have w17 := bI_ne q17
      refine lv_aload_n hx hb dX8_cheapest_23 rfl (lv_at hl 0 rfl) ?_
      refine fp_wV (As := []) (rest := []) (wsC := [(v, .inr (8, [.ref a0, .ref a1, .ref a2, .ref a3, .int (iI (e4)), .ref a5, .int (iI (e6)), .ref a7, .int (iI (e8)), .int (iI (e9)), .int (iI (e10)), .ref a11, .int (iI (e12)), .int (iI (e13)), .int (iI (e14)), .ref a15])), (a0, fA cyI 54 m), (a2, fA cyI 54 tc), (a7, fA cyI 3328 le)]) ⟨hx, hb, hml, hown, hts⟩ (c_X8_leastOfAll l D cyI v a0 a1 a2 a3 e4 a5 e6 a7 e8 e9 e10 a11 e12 e13 e14 a15 m le hC) (cwV 0 hts gX8_cheapest_X8_leastOfAll rfl rfl rfl (by decide +kernel) ⟨Nat.le_of_ble_eq_true rfl, Nat.le_of_ble_eq_true rfl⟩) (fun _ => rfl) hK hP hD hS [0, 1, 3] (by decide) rfl rfl rfl rfl hl.1 rfl (Nat.le_of_ble_eq_true rfl) dX8_cheapest_24 ⟨Nat.zero_le _, Nat.zero_le _⟩ (fun u9v H locs hu hP hD hS => ?_)
      obtain ⟨l7, z8, z9, z10⟩ := u9v
      dsimp only at hu
      have pLm_24 := hu
      refine W.eq (g2 := F0 mi 27 ls [.int (iI (bsM (cM m) (cM m (49 + 0)) (cM m 0 - 0).toNat 0 0 0))]) rfl ?_
      have hP : va_P D vwCl [(v, .inr (8, [.ref a0, .ref a1, .ref a2, .ref a3, .int (iI (e4)), .ref a5, .int (iI (e6)), .ref a7, .int (iI (z8)), .int (iI (z9)), .int (iI (z10)), .ref a11, .int (iI (e12)), .int (iI (e13)), .int (iI (e14)), .ref a15])), (a0, fA cyI 54 m), (a2, fA cyI 54 tc), (a7, fA cyI 3328 l7)] H := hP
      have hD : va_D (fp_A [(v, .inr (8, [.ref a0, .ref a1, .ref a2, .ref a3, .int (iI (e4)), .ref a5, .int (iI (e6)), .ref a7, .int (iI (e8)), .int (iI (e9)), .int (iI (e10)), .ref a11, .int (iI (e12)), .int (iI (e13)), .int (iI (e14)), .ref a15])), (a0, fA cyI 54 m), (a2, fA cyI 54 tc), (a7, fA cyI 3328 le)]) [(v, .inr (8, [.ref a0, .ref a1, .ref a2, .ref a3, .int (iI (e4)), .ref a5, .int (iI (e6)), .ref a7, .int (iI (z8)), .int (iI (z9)), .int (iI (z10)), .ref a11, .int (iI (e12)), .int (iI (e13)), .int (iI (e14)), .ref a15])), (a0, fA cyI 54 m), (a2, fA cyI 54 tc), (a7, fA cyI 3328 l7)] := hD
      refine fp_ldc hx hb (10000000) rfl hown (hts _ ck_X8_cheapest_130) dX8_cheapest_27 ?_
      refine fp_icmp_lt (tgt := 35) hx hb (by omega) dX8_cheapest_29 (by decide) (fun q29 => ?_) (fun q29 => ?_)
      · skip
        refine lv_aload_n hx hb dX8_cheapest_35 rfl (lv_at hl 0 rfl) ?_
        refine va_get (D := D) (ci := 8) (ws := [(v, .inr (8, [.ref a0, .ref a1, .ref a2, .ref a3, .int (iI (e4)), .ref a5, .int (iI (e6)), .ref a7, .int (iI (z8)), .int (iI (z9)), .int (iI (z10)), .ref a11, .int (iI (e12)), .int (iI (e13)), .int (iI (e14)), .ref a15])), (a0, fA cyI 54 m), (a2, fA cyI 54 tc), (a7, fA cyI 3328 l7)]) (v := .ref a0) (C := RX8) (T := TX8) (N := 16) hx hb hts (fun _ h => List.mem_cons_of_mem _ (List.mem_append_right _ h)) hown hK.1 hP 0 rfl rfl 0 (by decide) (hts _ fl_X8_cheapest_7) (fun _ h9 => h9) rfl dX8_cheapest_36 ?_
        refine lv_aload_n hx hb dX8_cheapest_39 rfl (lv_at hl 0 rfl) ?_
        refine va_get (D := D) (ci := 8) (ws := [(v, .inr (8, [.ref a0, .ref a1, .ref a2, .ref a3, .int (iI (e4)), .ref a5, .int (iI (e6)), .ref a7, .int (iI (z8)), .int (iI (z9)), .int (iI (z10)), .ref a11, .int (iI (e12)), .int (iI (e13)), .int (iI (e14)), .ref a15])), (a0, fA cyI 54 m), (a2, fA cyI 54 tc), (a7, fA cyI 3328 l7)]) (v := .ref a2) (C := RX8) (T := TX8) (N := 16) hx hb hts (fun _ h => List.mem_cons_of_mem _ (List.mem_append_right _ h)) hown hK.1 hP 0 rfl rfl 2 (by decide) (hts _ fl_X8_cheapest_16) (fun _ h9 => h9) rfl dX8_cheapest_40 ?_
        refine fp_wS (As := [.ref a0, .ref a2]) (rest := []) (wsC := [(v, .inr (8, [.ref a0, .ref a1, .ref a2, .ref a3, .int (iI (e4)), .ref a5, .int (iI (e6)), .ref a7, .int (iI (z8)), .int (iI (z9)), .int (iI (z10)), .ref a11, .int (iI (e12)), .int (iI (e13)), .int (iI (e14)), .ref a15])), (a0, fA cyI 54 m), (a2, fA cyI 54 tc), (a7, fA cyI 3328 l7)]) ⟨hx, hb, hml, hown, hts⟩ (c_X8_copy l D cyI a0 a2 m tc) (va_cwS 2 hts gX8_cheapest_X8_copy rfl rfl rfl (by decide +kernel) ⟨Nat.le_of_ble_eq_true rfl, Nat.le_of_ble_eq_true rfl⟩) (fun _ => rfl) hK hP hD hS [1, 2] (by decide) rfl rfl hl.1 rfl (Nat.le_of_ble_eq_true rfl) dX8_cheapest_43 ⟨Nat.zero_le _, Nat.zero_le _⟩ (fun u9v H locs hu hP hD hS => ?_)
        refine W.eq (g2 := F0 mi 46 ls []) rfl ?_
        have hP : va_P D vwCl [(v, .inr (8, [.ref a0, .ref a1, .ref a2, .ref a3, .int (iI (e4)), .ref a5, .int (iI (e6)), .ref a7, .int (iI (z8)), .int (iI (z9)), .int (iI (z10)), .ref a11, .int (iI (e12)), .int (iI (e13)), .int (iI (e14)), .ref a15])), (a0, fA cyI 54 m), (a2, fA cyI 54 m), (a7, fA cyI 3328 l7)] H := hP
        have hD : va_D (fp_A [(v, .inr (8, [.ref a0, .ref a1, .ref a2, .ref a3, .int (iI (e4)), .ref a5, .int (iI (e6)), .ref a7, .int (iI (e8)), .int (iI (e9)), .int (iI (e10)), .ref a11, .int (iI (e12)), .int (iI (e13)), .int (iI (e14)), .ref a15])), (a0, fA cyI 54 m), (a2, fA cyI 54 tc), (a7, fA cyI 3328 le)]) [(v, .inr (8, [.ref a0, .ref a1, .ref a2, .ref a3, .int (iI (e4)), .ref a5, .int (iI (e6)), .ref a7, .int (iI (z8)), .int (iI (z9)), .int (iI (z10)), .ref a11, .int (iI (e12)), .int (iI (e13)), .int (iI (e14)), .ref a15])), (a0, fA cyI 54 m), (a2, fA cyI 54 m), (a7, fA cyI 3328 l7)] := hD
        refine lv_aload_n hx hb dX8_cheapest_46 rfl (lv_at hl 0 rfl) ?_
        refine fp_wV (As := []) (rest := []) (wsC := [(v, .inr (8, [.ref a0, .ref a1, .ref a2, .ref a3, .int (iI (e4)), .ref a5, .int (iI (e6)), .ref a7, .int (iI (z8)), .int (iI (z9)), .int (iI (z10)), .ref a11, .int (iI (e12)), .int (iI (e13)), .int (iI (e14)), .ref a15])), (a0, fA cyI 54 m), (a2, fA cyI 54 m), (a7, fA cyI 3328 l7)]) ⟨hx, hb, hml, hown, hts⟩ (c_X8_chooses l D cyI v a0 a1 a2 a3 e4 a5 e6 a7 z8 z9 z10 a11 e12 e13 e14 a15 m l7 hC pLm_24) (cwV 0 hts gX8_cheapest_X8_chooses rfl rfl rfl (by decide +kernel) ⟨Nat.le_of_ble_eq_true rfl, Nat.le_of_ble_eq_true rfl⟩) (fun _ => rfl) hK hP hD hS [0, 1, 3] (by decide) rfl rfl rfl rfl hl.1 rfl (Nat.le_of_ble_eq_true rfl) dX8_cheapest_47 ⟨Nat.zero_le _, Nat.zero_le _⟩ (fun u9v H locs hu hP hD hS => ?_)
        obtain ⟨gq, y8, y9, y10⟩ := u9v
        dsimp only at hu
        obtain ⟨pAg_47, pOK_47, pOp_47, pUn_47⟩ := hu
        refine W.eq (g2 := F0 mi 50 ls []) rfl ?_
        have hP : va_P D vwCl [(v, .inr (8, [.ref a0, .ref a1, .ref a2, .ref a3, .int (iI (e4)), .ref a5, .int (iI (e6)), .ref a7, .int (iI (y8)), .int (iI (y9)), .int (iI (y10)), .ref a11, .int (iI (e12)), .int (iI (e13)), .int (iI (e14)), .ref a15])), (a0, fA cyI 54 gq), (a2, fA cyI 54 m), (a7, fA cyI 3328 l7)] H := hP
        have hD : va_D (fp_A [(v, .inr (8, [.ref a0, .ref a1, .ref a2, .ref a3, .int (iI (e4)), .ref a5, .int (iI (e6)), .ref a7, .int (iI (e8)), .int (iI (e9)), .int (iI (e10)), .ref a11, .int (iI (e12)), .int (iI (e13)), .int (iI (e14)), .ref a15])), (a0, fA cyI 54 m), (a2, fA cyI 54 tc), (a7, fA cyI 3328 le)]) [(v, .inr (8, [.ref a0, .ref a1, .ref a2, .ref a3, .int (iI (e4)), .ref a5, .int (iI (e6)), .ref a7, .int (iI (y8)), .int (iI (y9)), .int (iI (y10)), .ref a11, .int (iI (e12)), .int (iI (e13)), .int (iI (e14)), .ref a15])), (a0, fA cyI 54 gq), (a2, fA cyI 54 m), (a7, fA cyI 3328 l7)] := hD
        have e3 : cM gq (k * 4 + 3) = gq (30 + k) := cM_b (by omega)
        have e4_ : cM gq (k * 4 + 4) = gq (42 + k) := cM_q (by omega)
        have hkq : 0 ≤ k ∧ k < gq 5 := by have := pAg_47.1; rw [cM_0, cM_0] at this; omega
        have e2q : cM gq (k * 4 + 2) = cM m (k * 4 + 2) := (pAg_47.2.1 k hk.1 (by omega)).2
        have hOq : Opt (cM m) (cM gq) (cM m (49 + 0)) (cM m 0) := by rw [e0]; exact pOp_47
        refine lv_iload_n hx hb dX8_cheapest_50 rfl (lv_at hl 2 rfl) ?_
        refine fp_if_ne (tgt := 66) hx hb (by omega) dX8_cheapest_51 (by decide) (fun q51 => ?_) (fun q51 => ?_)
        · skip
          refine lv_aload_n hx hb dX8_cheapest_66 rfl (lv_at hl 0 rfl) ?_
          refine lv_iload_n hx hb dX8_cheapest_67 rfl (lv_at hl 1 rfl) ?_
          refine fp_pV (As := [.int (iI (k))]) (rest := []) (wsC := [(v, .inr (8, [.ref a0, .ref a1, .ref a2, .ref a3, .int (iI (e4)), .ref a5, .int (iI (e6)), .ref a7, .int (iI (y8)), .int (iI (y9)), .int (iI (y10)), .ref a11, .int (iI (e12)), .int (iI (e13)), .int (iI (e14)), .ref a15])), (a0, fA cyI 54 gq), (a2, fA cyI 54 m), (a7, fA cyI 3328 l7)]) ⟨hx, hb, hml, hown, hts⟩ (c_X8_hasPlate l D cyI v a0 a1 a2 a3 e4 a5 e6 a7 y8 y9 y10 a11 e12 e13 e14 a15 gq k pOK_47 hkq) (cwV 1 hts gX8_cheapest_X8_hasPlate rfl rfl rfl (by decide +kernel) ⟨Nat.le_of_ble_eq_true rfl, Nat.le_of_ble_eq_true rfl⟩) hK hP hD [0, 1] (by decide) rfl rfl rfl rfl hl.1 rfl (Nat.le_of_ble_eq_true rfl) dX8_cheapest_68 ⟨Nat.zero_le _, Nat.zero_le _⟩ ?_
          refine fp_if_eq (tgt := 86) hx hb (bI_r32 _) dX8_cheapest_71 (by decide) (fun q71 => ?_) (fun q71 => ?_)
          · skip
            have w71 := bI_e q71
            refine fp_bipush hx hb dX8_cheapest_86 (by decide) ?_
            refine lv_istore_n (lv' := [(3, .int (iI ((-5)))), (0, .ref v), (1, .int (iI (k))), (2, .int (iI (w)))]) hx hb dX8_cheapest_88 rfl hl (by decide) rfl (fun ls hl => ?_)
            refine lv_aload_n hx hb dX8_cheapest_89 rfl (lv_at hl 1 rfl) ?_
            refine va_get (D := D) (ci := 8) (ws := [(v, .inr (8, [.ref a0, .ref a1, .ref a2, .ref a3, .int (iI (e4)), .ref a5, .int (iI (e6)), .ref a7, .int (iI (y8)), .int (iI (y9)), .int (iI (y10)), .ref a11, .int (iI (e12)), .int (iI (e13)), .int (iI (e14)), .ref a15])), (a0, fA cyI 54 gq), (a2, fA cyI 54 m), (a7, fA cyI 3328 l7)]) (v := .ref a2) (C := RX8) (T := TX8) (N := 16) hx hb hts (fun _ h => List.mem_cons_of_mem _ (List.mem_append_right _ h)) hown hK.1 hP 0 rfl rfl 2 (by decide) (hts _ fl_X8_cheapest_16) (fun _ h9 => h9) rfl dX8_cheapest_90 ?_
            refine lv_aload_n hx hb dX8_cheapest_93 rfl (lv_at hl 1 rfl) ?_
            refine va_get (D := D) (ci := 8) (ws := [(v, .inr (8, [.ref a0, .ref a1, .ref a2, .ref a3, .int (iI (e4)), .ref a5, .int (iI (e6)), .ref a7, .int (iI (y8)), .int (iI (y9)), .int (iI (y10)), .ref a11, .int (iI (e12)), .int (iI (e13)), .int (iI (e14)), .ref a15])), (a0, fA cyI 54 gq), (a2, fA cyI 54 m), (a7, fA cyI 3328 l7)]) (v := .ref a0) (C := RX8) (T := TX8) (N := 16) hx hb hts (fun _ h => List.mem_cons_of_mem _ (List.mem_append_right _ h)) hown hK.1 hP 0 rfl rfl 0 (by decide) (hts _ fl_X8_cheapest_7) (fun _ h9 => h9) rfl dX8_cheapest_94 ?_
            refine fp_wS (As := [.ref a2, .ref a0]) (rest := []) (wsC := [(v, .inr (8, [.ref a0, .ref a1, .ref a2, .ref a3, .int (iI (e4)), .ref a5, .int (iI (e6)), .ref a7, .int (iI (y8)), .int (iI (y9)), .int (iI (y10)), .ref a11, .int (iI (e12)), .int (iI (e13)), .int (iI (e14)), .ref a15])), (a0, fA cyI 54 gq), (a2, fA cyI 54 m), (a7, fA cyI 3328 l7)]) ⟨hx, hb, hml, hown, hts⟩ (c_X8_copy l D cyI a2 a0 m gq) (va_cwS 2 hts gX8_cheapest_X8_copy rfl rfl rfl (by decide +kernel) ⟨Nat.le_of_ble_eq_true rfl, Nat.le_of_ble_eq_true rfl⟩) (fun _ => rfl) hK hP hD hS [2, 1] (by decide) rfl rfl hl.1 rfl (Nat.le_of_ble_eq_true rfl) dX8_cheapest_97 ⟨Nat.zero_le _, Nat.zero_le _⟩ (fun u9v H locs hu hP hD hS => ?_)
            refine W.eq (g2 := F0 mi 100 ls []) rfl ?_
            have hP : va_P D vwCl [(v, .inr (8, [.ref a0, .ref a1, .ref a2, .ref a3, .int (iI (e4)), .ref a5, .int (iI (e6)), .ref a7, .int (iI (y8)), .int (iI (y9)), .int (iI (y10)), .ref a11, .int (iI (e12)), .int (iI (e13)), .int (iI (e14)), .ref a15])), (a0, fA cyI 54 m), (a2, fA cyI 54 m), (a7, fA cyI 3328 l7)] H := hP
            have hD : va_D (fp_A [(v, .inr (8, [.ref a0, .ref a1, .ref a2, .ref a3, .int (iI (e4)), .ref a5, .int (iI (e6)), .ref a7, .int (iI (e8)), .int (iI (e9)), .int (iI (e10)), .ref a11, .int (iI (e12)), .int (iI (e13)), .int (iI (e14)), .ref a15])), (a0, fA cyI 54 m), (a2, fA cyI 54 tc), (a7, fA cyI 3328 le)]) [(v, .inr (8, [.ref a0, .ref a1, .ref a2, .ref a3, .int (iI (e4)), .ref a5, .int (iI (e6)), .ref a7, .int (iI (y8)), .int (iI (y9)), .int (iI (y10)), .ref a11, .int (iI (e12)), .int (iI (e13)), .int (iI (e14)), .ref a15])), (a0, fA cyI 54 m), (a2, fA cyI 54 m), (a7, fA cyI 3328 l7)] := hD
            refine lv_iload_n hx hb dX8_cheapest_100 rfl (lv_at hl 0 rfl) ?_
            have hret : (if ¬ (0 ≤ k ∧ k < cM m 0) then -1 else if ¬ (0 ≤ w ∧ w ≤ 1) then -2 else if w = 0 then cM gq (k * 4 + 3) else if cM m (k * 4 + 2) = 0 then -5 else cM gq (k * 4 + 4) : Int) = (-5) := (by repeat (first | rw [if_pos (by omega)] | rw [if_neg (by omega)]); try (first | rfl | omega))
            exact fp_wret (gq, m, l7, y8, y9, y10) hx hb hr hlocks hS (by dsimp only; exact hP) (fun _ => ⟨pAg_47, pOK_47, hOq⟩) (congrArg (fun z : Int => some (Value.int (iI z))) hret) dX8_cheapest_101
          · skip
            have w71 := bI_ne q71
            refine lv_aload_n hx hb dX8_cheapest_74 rfl (lv_at hl 0 rfl) ?_
            refine va_get (D := D) (ci := 8) (ws := [(v, .inr (8, [.ref a0, .ref a1, .ref a2, .ref a3, .int (iI (e4)), .ref a5, .int (iI (e6)), .ref a7, .int (iI (y8)), .int (iI (y9)), .int (iI (y10)), .ref a11, .int (iI (e12)), .int (iI (e13)), .int (iI (e14)), .ref a15])), (a0, fA cyI 54 gq), (a2, fA cyI 54 m), (a7, fA cyI 3328 l7)]) (v := .ref a0) (C := RX8) (T := TX8) (N := 16) hx hb hts (fun _ h => List.mem_cons_of_mem _ (List.mem_append_right _ h)) hown hK.1 hP 0 rfl rfl 0 (by decide) (hts _ fl_X8_cheapest_7) (fun _ h9 => h9) rfl dX8_cheapest_75 ?_
            refine fp_bipush hx hb dX8_cheapest_78 (by decide) ?_
            refine lv_iload_n hx hb dX8_cheapest_80 rfl (lv_at hl 1 rfl) ?_
            refine fp_iadd hx hb dX8_cheapest_81 ?_
            refine fp_iald (wsC := [(v, .inr (8, [.ref a0, .ref a1, .ref a2, .ref a3, .int (iI (e4)), .ref a5, .int (iI (e6)), .ref a7, .int (iI (y8)), .int (iI (y9)), .int (iI (y10)), .ref a11, .int (iI (e12)), .int (iI (e13)), .int (iI (e14)), .ref a15])), (a0, fA cyI 54 gq), (a2, fA cyI 54 m), (a7, fA cyI 3328 l7)]) hx hb hK hP 1 rfl (by omega) (by decide) dX8_cheapest_82 ?_
            refine lv_goto (tgt := 88) hx hb dX8_cheapest_83 (by decide) ?_
            refine lv_istore_n (lv' := [(3, .int (iI (gq (42 + k)))), (0, .ref v), (1, .int (iI (k))), (2, .int (iI (w)))]) hx hb dX8_cheapest_88 rfl hl (by decide) rfl (fun ls hl => ?_)
            refine lv_aload_n hx hb dX8_cheapest_89 rfl (lv_at hl 1 rfl) ?_
            refine va_get (D := D) (ci := 8) (ws := [(v, .inr (8, [.ref a0, .ref a1, .ref a2, .ref a3, .int (iI (e4)), .ref a5, .int (iI (e6)), .ref a7, .int (iI (y8)), .int (iI (y9)), .int (iI (y10)), .ref a11, .int (iI (e12)), .int (iI (e13)), .int (iI (e14)), .ref a15])), (a0, fA cyI 54 gq), (a2, fA cyI 54 m), (a7, fA cyI 3328 l7)]) (v := .ref a2) (C := RX8) (T := TX8) (N := 16) hx hb hts (fun _ h => List.mem_cons_of_mem _ (List.mem_append_right _ h)) hown hK.1 hP 0 rfl rfl 2 (by decide) (hts _ fl_X8_cheapest_16) (fun _ h9 => h9) rfl dX8_cheapest_90 ?_
            refine lv_aload_n hx hb dX8_cheapest_93 rfl (lv_at hl 1 rfl) ?_
            refine va_get (D := D) (ci := 8) (ws := [(v, .inr (8, [.ref a0, .ref a1, .ref a2, .ref a3, .int (iI (e4)), .ref a5, .int (iI (e6)), .ref a7, .int (iI (y8)), .int (iI (y9)), .int (iI (y10)), .ref a11, .int (iI (e12)), .int (iI (e13)), .int (iI (e14)), .ref a15])), (a0, fA cyI 54 gq), (a2, fA cyI 54 m), (a7, fA cyI 3328 l7)]) (v := .ref a0) (C := RX8) (T := TX8) (N := 16) hx hb hts (fun _ h => List.mem_cons_of_mem _ (List.mem_append_right _ h)) hown hK.1 hP 0 rfl rfl 0 (by decide) (hts _ fl_X8_cheapest_7) (fun _ h9 => h9) rfl dX8_cheapest_94 ?_
            refine fp_wS (As := [.ref a2, .ref a0]) (rest := []) (wsC := [(v, .inr (8, [.ref a0, .ref a1, .ref a2, .ref a3, .int (iI (e4)), .ref a5, .int (iI (e6)), .ref a7, .int (iI (y8)), .int (iI (y9)), .int (iI (y10)), .ref a11, .int (iI (e12)), .int (iI (e13)), .int (iI (e14)), .ref a15])), (a0, fA cyI 54 gq), (a2, fA cyI 54 m), (a7, fA cyI 3328 l7)]) ⟨hx, hb, hml, hown, hts⟩ (c_X8_copy l D cyI a2 a0 m gq) (va_cwS 2 hts gX8_cheapest_X8_copy rfl rfl rfl (by decide +kernel) ⟨Nat.le_of_ble_eq_true rfl, Nat.le_of_ble_eq_true rfl⟩) (fun _ => rfl) hK hP hD hS [2, 1] (by decide) rfl rfl hl.1 rfl (Nat.le_of_ble_eq_true rfl) dX8_cheapest_97 ⟨Nat.zero_le _, Nat.zero_le _⟩ (fun u9v H locs hu hP hD hS => ?_)
            refine W.eq (g2 := F0 mi 100 ls []) rfl ?_
            have hP : va_P D vwCl [(v, .inr (8, [.ref a0, .ref a1, .ref a2, .ref a3, .int (iI (e4)), .ref a5, .int (iI (e6)), .ref a7, .int (iI (y8)), .int (iI (y9)), .int (iI (y10)), .ref a11, .int (iI (e12)), .int (iI (e13)), .int (iI (e14)), .ref a15])), (a0, fA cyI 54 m), (a2, fA cyI 54 m), (a7, fA cyI 3328 l7)] H := hP
            have hD : va_D (fp_A [(v, .inr (8, [.ref a0, .ref a1, .ref a2, .ref a3, .int (iI (e4)), .ref a5, .int (iI (e6)), .ref a7, .int (iI (e8)), .int (iI (e9)), .int (iI (e10)), .ref a11, .int (iI (e12)), .int (iI (e13)), .int (iI (e14)), .ref a15])), (a0, fA cyI 54 m), (a2, fA cyI 54 tc), (a7, fA cyI 3328 le)]) [(v, .inr (8, [.ref a0, .ref a1, .ref a2, .ref a3, .int (iI (e4)), .ref a5, .int (iI (e6)), .ref a7, .int (iI (y8)), .int (iI (y9)), .int (iI (y10)), .ref a11, .int (iI (e12)), .int (iI (e13)), .int (iI (e14)), .ref a15])), (a0, fA cyI 54 m), (a2, fA cyI 54 m), (a7, fA cyI 3328 l7)] := hD
            refine lv_iload_n hx hb dX8_cheapest_100 rfl (lv_at hl 0 rfl) ?_
            have hret : (if ¬ (0 ≤ k ∧ k < cM m 0) then -1 else if ¬ (0 ≤ w ∧ w ≤ 1) then -2 else if w = 0 then cM gq (k * 4 + 3) else if cM m (k * 4 + 2) = 0 then -5 else cM gq (k * 4 + 4) : Int) = gq (42 + k) := (by repeat (first | rw [if_pos (by omega)] | rw [if_neg (by omega)]); try (first | rfl | omega))
            exact fp_wret (gq, m, l7, y8, y9, y10) hx hb hr hlocks hS (by dsimp only; exact hP) (fun _ => ⟨pAg_47, pOK_47, hOq⟩) (congrArg (fun z : Int => some (Value.int (iI z))) hret) dX8_cheapest_101
        · skip
          refine lv_aload_n hx hb dX8_cheapest_54 rfl (lv_at hl 0 rfl) ?_
          refine va_get (D := D) (ci := 8) (ws := [(v, .inr (8, [.ref a0, .ref a1, .ref a2, .ref a3, .int (iI (e4)), .ref a5, .int (iI (e6)), .ref a7, .int (iI (y8)), .int (iI (y9)), .int (iI (y10)), .ref a11, .int (iI (e12)), .int (iI (e13)), .int (iI (e14)), .ref a15])), (a0, fA cyI 54 gq), (a2, fA cyI 54 m), (a7, fA cyI 3328 l7)]) (v := .ref a0) (C := RX8) (T := TX8) (N := 16) hx hb hts (fun _ h => List.mem_cons_of_mem _ (List.mem_append_right _ h)) hown hK.1 hP 0 rfl rfl 0 (by decide) (hts _ fl_X8_cheapest_7) (fun _ h9 => h9) rfl dX8_cheapest_55 ?_
          refine fp_bipush hx hb dX8_cheapest_58 (by decide) ?_
          refine lv_iload_n hx hb dX8_cheapest_60 rfl (lv_at hl 1 rfl) ?_
          refine fp_iadd hx hb dX8_cheapest_61 ?_
          refine fp_iald (wsC := [(v, .inr (8, [.ref a0, .ref a1, .ref a2, .ref a3, .int (iI (e4)), .ref a5, .int (iI (e6)), .ref a7, .int (iI (y8)), .int (iI (y9)), .int (iI (y10)), .ref a11, .int (iI (e12)), .int (iI (e13)), .int (iI (e14)), .ref a15])), (a0, fA cyI 54 gq), (a2, fA cyI 54 m), (a7, fA cyI 3328 l7)]) hx hb hK hP 1 rfl (by omega) (by decide) dX8_cheapest_62 ?_
          refine lv_goto (tgt := 88) hx hb dX8_cheapest_63 (by decide) ?_
          refine lv_istore_n (lv' := [(3, .int (iI (gq (30 + k)))), (0, .ref v), (1, .int (iI (k))), (2, .int (iI (w)))]) hx hb dX8_cheapest_88 rfl hl (by decide) rfl (fun ls hl => ?_)
          refine lv_aload_n hx hb dX8_cheapest_89 rfl (lv_at hl 1 rfl) ?_
          refine va_get (D := D) (ci := 8) (ws := [(v, .inr (8, [.ref a0, .ref a1, .ref a2, .ref a3, .int (iI (e4)), .ref a5, .int (iI (e6)), .ref a7, .int (iI (y8)), .int (iI (y9)), .int (iI (y10)), .ref a11, .int (iI (e12)), .int (iI (e13)), .int (iI (e14)), .ref a15])), (a0, fA cyI 54 gq), (a2, fA cyI 54 m), (a7, fA cyI 3328 l7)]) (v := .ref a2) (C := RX8) (T := TX8) (N := 16) hx hb hts (fun _ h => List.mem_cons_of_mem _ (List.mem_append_right _ h)) hown hK.1 hP 0 rfl rfl 2 (by decide) (hts _ fl_X8_cheapest_16) (fun _ h9 => h9) rfl dX8_cheapest_90 ?_
          refine lv_aload_n hx hb dX8_cheapest_93 rfl (lv_at hl 1 rfl) ?_
          refine va_get (D := D) (ci := 8) (ws := [(v, .inr (8, [.ref a0, .ref a1, .ref a2, .ref a3, .int (iI (e4)), .ref a5, .int (iI (e6)), .ref a7, .int (iI (y8)), .int (iI (y9)), .int (iI (y10)), .ref a11, .int (iI (e12)), .int (iI (e13)), .int (iI (e14)), .ref a15])), (a0, fA cyI 54 gq), (a2, fA cyI 54 m), (a7, fA cyI 3328 l7)]) (v := .ref a0) (C := RX8) (T := TX8) (N := 16) hx hb hts (fun _ h => List.mem_cons_of_mem _ (List.mem_append_right _ h)) hown hK.1 hP 0 rfl rfl 0 (by decide) (hts _ fl_X8_cheapest_7) (fun _ h9 => h9) rfl dX8_cheapest_94 ?_
          refine fp_wS (As := [.ref a2, .ref a0]) (rest := []) (wsC := [(v, .inr (8, [.ref a0, .ref a1, .ref a2, .ref a3, .int (iI (e4)), .ref a5, .int (iI (e6)), .ref a7, .int (iI (y8)), .int (iI (y9)), .int (iI (y10)), .ref a11, .int (iI (e12)), .int (iI (e13)), .int (iI (e14)), .ref a15])), (a0, fA cyI 54 gq), (a2, fA cyI 54 m), (a7, fA cyI 3328 l7)]) ⟨hx, hb, hml, hown, hts⟩ (c_X8_copy l D cyI a2 a0 m gq) (va_cwS 2 hts gX8_cheapest_X8_copy rfl rfl rfl (by decide +kernel) ⟨Nat.le_of_ble_eq_true rfl, Nat.le_of_ble_eq_true rfl⟩) (fun _ => rfl) hK hP hD hS [2, 1] (by decide) rfl rfl hl.1 rfl (Nat.le_of_ble_eq_true rfl) dX8_cheapest_97 ⟨Nat.zero_le _, Nat.zero_le _⟩ (fun u9v H locs hu hP hD hS => ?_)
          refine W.eq (g2 := F0 mi 100 ls []) rfl ?_
          have hP : va_P D vwCl [(v, .inr (8, [.ref a0, .ref a1, .ref a2, .ref a3, .int (iI (e4)), .ref a5, .int (iI (e6)), .ref a7, .int (iI (y8)), .int (iI (y9)), .int (iI (y10)), .ref a11, .int (iI (e12)), .int (iI (e13)), .int (iI (e14)), .ref a15])), (a0, fA cyI 54 m), (a2, fA cyI 54 m), (a7, fA cyI 3328 l7)] H := hP
          have hD : va_D (fp_A [(v, .inr (8, [.ref a0, .ref a1, .ref a2, .ref a3, .int (iI (e4)), .ref a5, .int (iI (e6)), .ref a7, .int (iI (e8)), .int (iI (e9)), .int (iI (e10)), .ref a11, .int (iI (e12)), .int (iI (e13)), .int (iI (e14)), .ref a15])), (a0, fA cyI 54 m), (a2, fA cyI 54 tc), (a7, fA cyI 3328 le)]) [(v, .inr (8, [.ref a0, .ref a1, .ref a2, .ref a3, .int (iI (e4)), .ref a5, .int (iI (e6)), .ref a7, .int (iI (y8)), .int (iI (y9)), .int (iI (y10)), .ref a11, .int (iI (e12)), .int (iI (e13)), .int (iI (e14)), .ref a15])), (a0, fA cyI 54 m), (a2, fA cyI 54 m), (a7, fA cyI 3328 l7)] := hD
          refine lv_iload_n hx hb dX8_cheapest_100 rfl (lv_at hl 0 rfl) ?_
          have hret : (if ¬ (0 ≤ k ∧ k < cM m 0) then -1 else if ¬ (0 ≤ w ∧ w ≤ 1) then -2 else if w = 0 then cM gq (k * 4 + 3) else if cM m (k * 4 + 2) = 0 then -5 else cM gq (k * 4 + 4) : Int) = gq (30 + k) := (by repeat (first | rw [if_pos (by omega)] | rw [if_neg (by omega)]); try (first | rfl | omega))
          exact fp_wret (gq, m, l7, y8, y9, y10) hx hb hr hlocks hS (by dsimp only; exact hP) (fun _ => ⟨pAg_47, pOK_47, hOq⟩) (congrArg (fun z : Int => some (Value.int (iI z))) hret) dX8_cheapest_101
      · skip
        exact absurd q29 (by omega)
    · skip
      have w17 := bI_e q17
      refine fp_bipush hx hb dX8_cheapest_20 (by decide) ?_
      have hret : (if ¬ (0 ≤ k ∧ k < cM m 0) then -1 else if ¬ (0 ≤ w ∧ w ≤ 1) then -2 else if w = 0 then cM m (k * 4 + 3) else if cM m (k * 4 + 2) = 0 then -5 else cM m (k * 4 + 4) : Int) = (-2) := (by repeat (first | rw [if_pos (by omega)] | rw [if_neg (by omega)]); try (first | rfl | omega))
      exact fp_wret (m, tc, le, e8, e9, e10) hx hb hr hlocks hS (by dsimp only; exact hP) (fun z => absurd z.2 (by omega)) (congrArg (fun z : Int => some (Value.int (iI z))) hret) dX8_cheapest_22
  · skip
    have w5 := bI_e q5
    refine fp_iconst hx hb dX8_cheapest_8 ?_
    have hret : (if ¬ (0 ≤ k ∧ k < cM m 0) then -1 else if ¬ (0 ≤ w ∧ w ≤ 1) then -2 else if w = 0 then cM m (k * 4 + 3) else if cM m (k * 4 + 2) = 0 then -5 else cM m (k * 4 + 4) : Int) = (-1) := (by repeat (first | rw [if_pos (by omega)] | rw [if_neg (by omega)]); try (first | rfl | omega))
    exact fp_wret (m, tc, le, e8, e9, e10) hx hb hr hlocks hS (by dsimp only; exact hP) (fun z => absurd z.1 (by omega)) (congrArg (fun z : Int => some (Value.int (iI z))) hret) dX8_cheapest_9
theorem fl_X8_leastCost_7 : Cond.fieldLink RX8 7 "FacingPlatesModel" "all" "[I" ∈ wsX8_leastCost := by decide +kernel
theorem ck_X8_leastCost_130 : Cond.constant RX8 130 (10000000) ∈ wsX8_leastCost := by decide +kernel
set_option maxHeartbeats 4000000 in
set_option maxRecDepth 100000 in
theorem c_X8_leastCost (l : Launch) (D : va_G) (cyI : ClassId) (v : Nat) (a0 : Nat) (a1 : Nat) (a2 : Nat) (a3 : Nat) (e4 : Int) (a5 : Nat) (e6 : Int) (a7 : Nat) (e8 : Int) (e9 : Int) (e10 : Int) (a11 : Nat) (e12 : Int) (e13 : Int) (e14 : Int) (a15 : Nat) (m : Int → Int) (le : Int → Int) (sz : Int) (hC : CatOK (cM m)) (hsz9 : -2147483648 ≤ sz ∧ sz ≤ 2147483647) : fp_MW l yX8_leastCost wsX8_leastCost ({ frames := 6, cells := 0, slots := 0, locals := 144 } : Room) D cyI [(v, .inr (8, [.ref a0, .ref a1, .ref a2, .ref a3, .int (iI (e4)), .ref a5, .int (iI (e6)), .ref a7, .int (iI (e8)), .int (iI (e9)), .int (iI (e10)), .ref a11, .int (iI (e12)), .int (iI (e13)), .int (iI (e14)), .ref a15])), (a0, fA cyI 54 m), (a7, fA cyI 3328 le)] [.ref v, .int (iI (sz))] (fun (u9 : (Int → Int) × (Int) × (Int) × (Int)) => True) (fun (u9 : (Int → Int) × (Int) × (Int) × (Int)) => some (.int (iI (if ¬ (sz = 4 ∨ sz = 8 ∨ sz = 16) then -2 else bsI (upI (cM m) (49 + 0) sz) sz (cM m 0).toNat 0 0 0)))) (fun (u9 : (Int → Int) × (Int) × (Int) × (Int)) => [(v, .inr (8, [.ref a0, .ref a1, .ref a2, .ref a3, .int (iI (e4)), .ref a5, .int (iI (e6)), .ref a7, .int (iI (u9.2.1)), .int (iI (u9.2.2.1)), .int (iI (u9.2.2.2)), .ref a11, .int (iI (e12)), .int (iI (e13)), .int (iI (e14)), .ref a15])), (a0, fA cyI 54 m), (a7, fA cyI 3328 u9.1)]) := by
  refine fp_start (cc := cX8_leastCost) (maxL := 4) (ret := (some .int)) (by decide) rfl (Nat.le_of_ble_eq_true rfl) ?_
  intro pg en sx mi ar bl mt cd ls hx hb hr hts hown hlocks hml hnm hP hK hD hl
  have hown : sx.vm.findClass RX8 = some mi.cls := hown
  have hl : lv_has ls 4 [(0, .ref v), (1, .int (iI (sz)))] := hl
  have hD := fp_self hD
  have hS : va_S (fp_A [(v, .inr (8, [.ref a0, .ref a1, .ref a2, .ref a3, .int (iI (e4)), .ref a5, .int (iI (e6)), .ref a7, .int (iI (e8)), .int (iI (e9)), .int (iI (e10)), .ref a11, .int (iI (e12)), .int (iI (e13)), .int (iI (e14)), .ref a15])), (a0, fA cyI 54 m), (a7, fA cyI 3328 le)]) sx.heap sx.heap [] := va_S.rf
  have hN := hC.1
  rw [cM_0] at hN
  have e0 : cM m 0 = m 5 := cM_0 m
  refine fp_iconst hx hb dX8_leastCost_0 ?_
  refine lv_iload_n hx hb dX8_leastCost_1 rfl (lv_at hl 1 rfl) ?_
  refine fp_pS (As := [.int (iI (0)), .int (iI (sz))]) (rest := []) (wsC := [(v, .inr (8, [.ref a0, .ref a1, .ref a2, .ref a3, .int (iI (e4)), .ref a5, .int (iI (e6)), .ref a7, .int (iI (e8)), .int (iI (e9)), .int (iI (e10)), .ref a11, .int (iI (e12)), .int (iI (e13)), .int (iI (e14)), .ref a15])), (a0, fA cyI 54 m), (a7, fA cyI 3328 le)]) ⟨hx, hb, hml, hown, hts⟩ (c_X8_isSetting l D cyI 0 sz (by omega) hsz9) (va_cwS 2 hts gX8_leastCost_X8_isSetting rfl rfl rfl (by decide +kernel) ⟨Nat.le_of_ble_eq_true rfl, Nat.le_of_ble_eq_true rfl⟩) hK hP hD [] (by decide) rfl rfl hl.1 rfl (Nat.le_of_ble_eq_true rfl) dX8_leastCost_2 ⟨Nat.zero_le _, Nat.zero_le _⟩ ?_
  refine fp_if_ne (tgt := 11) hx hb (bI_r32 _) dX8_leastCost_5 (by decide) (fun q5 => ?_) (fun q5 => ?_)
  · skip
    have w5 := bI_ne q5
    have hg : sz = 4 ∨ sz = 8 ∨ sz = 16 := by omega
    have hC2 := Cat_se hC hg
    have hle := ls_eq hC hg
    have hCz := Cat_sz hC hg
    have hvl : bsI (upI (cM m) (49 + 0) sz) sz (cM m 0).toNat 0 0 0 ≤ 999999 ∧ 0 ≤ bsI (upI (cM m) (49 + 0) sz) sz (cM m 0).toNat 0 0 0 := by
      have e9 : upI (cM m) (49 + 0) sz 0 = cM m 0 := upI_n (by omega)
      have := bs_lt hCz (G := sz) (k := 0) (p := 0) (s := 0) hg (by omega) (by omega)
      rw [e9, Int.sub_zero] at this
      omega
    refine lv_aload_n hx hb dX8_leastCost_11 rfl (lv_at hl 0 rfl) ?_
    refine va_get (D := D) (ci := 8) (ws := [(v, .inr (8, [.ref a0, .ref a1, .ref a2, .ref a3, .int (iI (e4)), .ref a5, .int (iI (e6)), .ref a7, .int (iI (e8)), .int (iI (e9)), .int (iI (e10)), .ref a11, .int (iI (e12)), .int (iI (e13)), .int (iI (e14)), .ref a15])), (a0, fA cyI 54 m), (a7, fA cyI 3328 le)]) (v := .ref a0) (C := RX8) (T := TX8) (N := 16) hx hb hts (fun _ h => List.mem_cons_of_mem _ (List.mem_append_right _ h)) hown hK.1 hP 0 rfl rfl 0 (by decide) (hts _ fl_X8_leastCost_7) (fun _ h9 => h9) rfl dX8_leastCost_12 ?_
    refine fp_iconst hx hb dX8_leastCost_15 ?_
    refine fp_iald (wsC := [(v, .inr (8, [.ref a0, .ref a1, .ref a2, .ref a3, .int (iI (e4)), .ref a5, .int (iI (e6)), .ref a7, .int (iI (e8)), .int (iI (e9)), .int (iI (e10)), .ref a11, .int (iI (e12)), .int (iI (e13)), .int (iI (e14)), .ref a15])), (a0, fA cyI 54 m), (a7, fA cyI 3328 le)]) hx hb hK hP 1 rfl (by omega) (by decide) dX8_leastCost_16 ?_
    refine lv_istore_n (lv' := [(2, .int (iI (m 0))), (0, .ref v), (1, .int (iI (sz)))]) hx hb dX8_leastCost_17 rfl hl (by decide) rfl (fun ls hl => ?_)
    refine lv_aload_n hx hb dX8_leastCost_18 rfl (lv_at hl 1 rfl) ?_
    refine va_get (D := D) (ci := 8) (ws := [(v, .inr (8, [.ref a0, .ref a1, .ref a2, .ref a3, .int (iI (e4)), .ref a5, .int (iI (e6)), .ref a7, .int (iI (e8)), .int (iI (e9)), .int (iI (e10)), .ref a11, .int (iI (e12)), .int (iI (e13)), .int (iI (e14)), .ref a15])), (a0, fA cyI 54 m), (a7, fA cyI 3328 le)]) (v := .ref a0) (C := RX8) (T := TX8) (N := 16) hx hb hts (fun _ h => List.mem_cons_of_mem _ (List.mem_append_right _ h)) hown hK.1 hP 0 rfl rfl 0 (by decide) (hts _ fl_X8_leastCost_7) (fun _ h9 => h9) rfl dX8_leastCost_19 ?_
    refine fp_iconst hx hb dX8_leastCost_22 ?_
    refine lv_iload_n hx hb dX8_leastCost_23 rfl (lv_at hl 2 rfl) ?_
    refine fp_iast (wsC := [(v, .inr (8, [.ref a0, .ref a1, .ref a2, .ref a3, .int (iI (e4)), .ref a5, .int (iI (e6)), .ref a7, .int (iI (e8)), .int (iI (e9)), .int (iI (e10)), .ref a11, .int (iI (e12)), .int (iI (e13)), .int (iI (e14)), .ref a15])), (a0, fA cyI 54 m), (a7, fA cyI 3328 le)]) hx hb hK hP hD hS 1 rfl (by omega) (by decide) dX8_leastCost_24 (fun H locs hP hD hS => ?_)
    have hP : va_P D vwCl [(v, .inr (8, [.ref a0, .ref a1, .ref a2, .ref a3, .int (iI (e4)), .ref a5, .int (iI (e6)), .ref a7, .int (iI (e8)), .int (iI (e9)), .int (iI (e10)), .ref a11, .int (iI (e12)), .int (iI (e13)), .int (iI (e14)), .ref a15])), (a0, fA cyI 54 (upI (m) (0) (sz))), (a7, fA cyI 3328 le)] H := hP
    have hD : va_D (fp_A [(v, .inr (8, [.ref a0, .ref a1, .ref a2, .ref a3, .int (iI (e4)), .ref a5, .int (iI (e6)), .ref a7, .int (iI (e8)), .int (iI (e9)), .int (iI (e10)), .ref a11, .int (iI (e12)), .int (iI (e13)), .int (iI (e14)), .ref a15])), (a0, fA cyI 54 m), (a7, fA cyI 3328 le)]) [(v, .inr (8, [.ref a0, .ref a1, .ref a2, .ref a3, .int (iI (e4)), .ref a5, .int (iI (e6)), .ref a7, .int (iI (e8)), .int (iI (e9)), .int (iI (e10)), .ref a11, .int (iI (e12)), .int (iI (e13)), .int (iI (e14)), .ref a15])), (a0, fA cyI 54 (upI (m) (0) (sz))), (a7, fA cyI 3328 le)] := hD
    refine lv_aload_n hx hb dX8_leastCost_25 rfl (lv_at hl 1 rfl) ?_
    refine fp_wV (As := []) (rest := []) (wsC := [(v, .inr (8, [.ref a0, .ref a1, .ref a2, .ref a3, .int (iI (e4)), .ref a5, .int (iI (e6)), .ref a7, .int (iI (e8)), .int (iI (e9)), .int (iI (e10)), .ref a11, .int (iI (e12)), .int (iI (e13)), .int (iI (e14)), .ref a15])), (a0, fA cyI 54 (upI (m) (0) (sz))), (a7, fA cyI 3328 le)]) ⟨hx, hb, hml, hown, hts⟩ (c_X8_leastOfAll l D cyI v a0 a1 a2 a3 e4 a5 e6 a7 e8 e9 e10 a11 e12 e13 e14 a15 (upI (m) (0) (sz)) le hC2) (cwV 0 hts gX8_leastCost_X8_leastOfAll rfl rfl rfl (by decide +kernel) ⟨Nat.le_of_ble_eq_true rfl, Nat.le_of_ble_eq_true rfl⟩) (fun _ => rfl) hK hP hD hS [0, 1, 2] (by decide) rfl rfl rfl rfl hl.1 rfl (Nat.le_of_ble_eq_true rfl) dX8_leastCost_26 ⟨Nat.zero_le _, Nat.zero_le _⟩ (fun u9v H locs hu hP hD hS => ?_)
    obtain ⟨l7, z8, z9, z10⟩ := u9v
    dsimp only at hu
    have pLm_26 := hu
    refine W.eq (g2 := F0 mi 29 ls [.int (iI (bsM (cM (upI (m) (0) (sz))) (cM (upI (m) (0) (sz)) (49 + 0)) (cM (upI (m) (0) (sz)) 0 - 0).toNat 0 0 0))]) rfl ?_
    have hP : va_P D vwCl [(v, .inr (8, [.ref a0, .ref a1, .ref a2, .ref a3, .int (iI (e4)), .ref a5, .int (iI (e6)), .ref a7, .int (iI (z8)), .int (iI (z9)), .int (iI (z10)), .ref a11, .int (iI (e12)), .int (iI (e13)), .int (iI (e14)), .ref a15])), (a0, fA cyI 54 ((upI (m) (0) (sz)))), (a7, fA cyI 3328 l7)] H := hP
    have hD : va_D (fp_A [(v, .inr (8, [.ref a0, .ref a1, .ref a2, .ref a3, .int (iI (e4)), .ref a5, .int (iI (e6)), .ref a7, .int (iI (e8)), .int (iI (e9)), .int (iI (e10)), .ref a11, .int (iI (e12)), .int (iI (e13)), .int (iI (e14)), .ref a15])), (a0, fA cyI 54 m), (a7, fA cyI 3328 le)]) [(v, .inr (8, [.ref a0, .ref a1, .ref a2, .ref a3, .int (iI (e4)), .ref a5, .int (iI (e6)), .ref a7, .int (iI (z8)), .int (iI (z9)), .int (iI (z10)), .ref a11, .int (iI (e12)), .int (iI (e13)), .int (iI (e14)), .ref a15])), (a0, fA cyI 54 ((upI (m) (0) (sz)))), (a7, fA cyI 3328 l7)] := hD
    rw [show (bsM (cM (upI (m) (0) (sz))) (cM (upI (m) (0) (sz)) (49 + 0)) (cM (upI (m) (0) (sz)) 0 - 0).toNat 0 0 0 : Int) = bsI (upI (cM m) (49 + 0) sz) sz (cM m 0).toNat 0 0 0 from hle]
    refine lv_istore_n (lv' := [(3, .int (iI (bsI (upI (cM m) (49 + 0) sz) sz (cM m 0).toNat 0 0 0))), (2, .int (iI (m 0))), (0, .ref v), (1, .int (iI (sz)))]) hx hb dX8_leastCost_29 rfl hl (by decide) rfl (fun ls hl => ?_)
    refine lv_aload_n hx hb dX8_leastCost_30 rfl (lv_at hl 2 rfl) ?_
    refine va_get (D := D) (ci := 8) (ws := [(v, .inr (8, [.ref a0, .ref a1, .ref a2, .ref a3, .int (iI (e4)), .ref a5, .int (iI (e6)), .ref a7, .int (iI (z8)), .int (iI (z9)), .int (iI (z10)), .ref a11, .int (iI (e12)), .int (iI (e13)), .int (iI (e14)), .ref a15])), (a0, fA cyI 54 ((upI (m) (0) (sz)))), (a7, fA cyI 3328 l7)]) (v := .ref a0) (C := RX8) (T := TX8) (N := 16) hx hb hts (fun _ h => List.mem_cons_of_mem _ (List.mem_append_right _ h)) hown hK.1 hP 0 rfl rfl 0 (by decide) (hts _ fl_X8_leastCost_7) (fun _ h9 => h9) rfl dX8_leastCost_31 ?_
    refine fp_iconst hx hb dX8_leastCost_34 ?_
    refine lv_iload_n hx hb dX8_leastCost_35 rfl (lv_at hl 1 rfl) ?_
    refine fp_iast (wsC := [(v, .inr (8, [.ref a0, .ref a1, .ref a2, .ref a3, .int (iI (e4)), .ref a5, .int (iI (e6)), .ref a7, .int (iI (z8)), .int (iI (z9)), .int (iI (z10)), .ref a11, .int (iI (e12)), .int (iI (e13)), .int (iI (e14)), .ref a15])), (a0, fA cyI 54 ((upI (m) (0) (sz)))), (a7, fA cyI 3328 l7)]) hx hb hK hP hD hS 1 rfl (by omega) (by decide) dX8_leastCost_36 (fun H locs hP hD hS => ?_)
    have hP : va_P D vwCl [(v, .inr (8, [.ref a0, .ref a1, .ref a2, .ref a3, .int (iI (e4)), .ref a5, .int (iI (e6)), .ref a7, .int (iI (z8)), .int (iI (z9)), .int (iI (z10)), .ref a11, .int (iI (e12)), .int (iI (e13)), .int (iI (e14)), .ref a15])), (a0, fA cyI 54 (upI ((upI (m) (0) (sz))) (0) (m 0))), (a7, fA cyI 3328 l7)] H := hP
    have hD : va_D (fp_A [(v, .inr (8, [.ref a0, .ref a1, .ref a2, .ref a3, .int (iI (e4)), .ref a5, .int (iI (e6)), .ref a7, .int (iI (e8)), .int (iI (e9)), .int (iI (e10)), .ref a11, .int (iI (e12)), .int (iI (e13)), .int (iI (e14)), .ref a15])), (a0, fA cyI 54 m), (a7, fA cyI 3328 le)]) [(v, .inr (8, [.ref a0, .ref a1, .ref a2, .ref a3, .int (iI (e4)), .ref a5, .int (iI (e6)), .ref a7, .int (iI (z8)), .int (iI (z9)), .int (iI (z10)), .ref a11, .int (iI (e12)), .int (iI (e13)), .int (iI (e14)), .ref a15])), (a0, fA cyI 54 (upI ((upI (m) (0) (sz))) (0) (m 0))), (a7, fA cyI 3328 l7)] := hD
    rw [show (upI ((upI (m) (0) (sz))) (0) (m 0) : Int → Int) = m from (up_back m 0 sz)] at hP hD
    refine lv_iload_n hx hb dX8_leastCost_37 rfl (lv_at hl 0 rfl) ?_
    refine fp_ldc hx hb (10000000) rfl hown (hts _ ck_X8_leastCost_130) dX8_leastCost_38 ?_
    refine fp_icmp_lt (tgt := 48) hx hb (by omega) dX8_leastCost_40 (by decide) (fun q40 => ?_) (fun q40 => ?_)
    · skip
      refine lv_iload_n hx hb dX8_leastCost_48 rfl (lv_at hl 0 rfl) ?_
      have hret : (if ¬ (sz = 4 ∨ sz = 8 ∨ sz = 16) then -2 else bsI (upI (cM m) (49 + 0) sz) sz (cM m 0).toNat 0 0 0 : Int) = bsI (upI (cM m) (49 + 0) sz) sz (cM m 0).toNat 0 0 0 := (by first | rw [if_pos (by omega)] | rw [if_neg (by omega)])
      exact fp_wret (l7, z8, z9, z10) hx hb hr hlocks hS (by dsimp only; exact hP) trivial (congrArg (fun z : Int => some (Value.int (iI z))) hret) dX8_leastCost_49
    · skip
      exact absurd q40 (by omega)
  · skip
    have w5 := bI_e q5
    refine fp_bipush hx hb dX8_leastCost_8 (by decide) ?_
    have hret : (if ¬ (sz = 4 ∨ sz = 8 ∨ sz = 16) then -2 else bsI (upI (cM m) (49 + 0) sz) sz (cM m 0).toNat 0 0 0 : Int) = (-2) := (by first | rw [if_pos (by omega)] | rw [if_neg (by omega)])
    exact fp_wret (le, e8, e9, e10) hx hb hr hlocks hS (by dsimp only; exact hP) trivial (congrArg (fun z : Int => some (Value.int (iI z))) hret) dX8_leastCost_10
