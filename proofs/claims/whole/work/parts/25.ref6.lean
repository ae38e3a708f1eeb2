/-! the reference's path -/
theorem ch_more {c g l : Int → Int} {G k p s ch : Int} (hC : CatOK c) (hAg : Agr g c) (hG : G = 4 ∨ G = 8 ∨ G = 16) (hk : 0 ≤ k ∧ k < c 0) (hL : LmOK c G l 0) (hp : 0 ≤ p ∧ p ≤ 5 * k) (hs3 : 0 ≤ s ∧ s ≤ 3)
    (h2 : ∀ j : Int, 0 ≤ j → j < ch → l (256 * k + 4 * p + s) < mwR g G l k p s j) : ch < 2 * (mostC g k + 1) := by
  have hN := hC.1
  have hM := most_rg hC hk
  have hlk : LmOK c G l (k + 1) := fun k' a1 a2 => hL k' (by omega) a2
  have e1 := hL k hk.1 (by omega) p s hp.1 hp.2 hs3.1 hs3.2
  have e2 := mn_bsM hC (s := s) hk hp hs3 hlk
  have e3 := nrm_bs hC hG (c 0 - k).toNat k p s hk.1 (by omega) hp
  have hlt := bs_lt hC (p := p) (s := nrm G p s) hG (k := k) (by omega) hp
  rw [(Agr_len hAg hk).2]
  rcases mnI_at (f := mwR c G l k p s) (z := 10000000) (2 * (mostC c k + 1)).toNat with h | ⟨i, a1, a2, a3⟩
  · omega
  · by_cases q : ch < 2 * (mostC c k + 1)
    · exact q
    · have h4 := h2 i a1 (by omega)
      rw [(Agr_mw hAg hk).1] at h4
      omega
theorem ch_step {c g l : Int → Int} {G k p s ch : Int} (hC : CatOK c) (hAg : Agr g c) (hCg : CatOK g) (hG : G = 4 ∨ G = 8 ∨ G = 16) (hk : 0 ≤ k ∧ k < c 0) (hL : LmOK c G l 0) (hO : Opt c g G k) (hp : p = lnS c k + blS g k) (hs : nrm G p s = ssI c g G k.toNat) (hs3 : 0 ≤ s ∧ s ≤ 3)
    (hch : 0 ≤ ch ∧ ch < 2 * (mostC g k + 1)) (h1 : mwR g G l k p s ch ≤ l (256 * k + 4 * p + s)) (h2 : ∀ j : Int, 0 ≤ j → j < ch → l (256 * k + 4 * p + s) < mwR g G l k p s j) :
    Agr (choL g k (ch / (mostC g k + 1)) (ch % (mostC g k + 1))) c ∧ CatOK (choL g k (ch / (mostC g k + 1)) (ch % (mostC g k + 1))) ∧ Opt c (choL g k (ch / (mostC g k + 1)) (ch % (mostC g k + 1))) G (k + 1) ∧
    p + ch / (mostC g k + 1) + lenC g k = lnS c (k + 1) + blS (choL g k (ch / (mostC g k + 1)) (ch % (mostC g k + 1))) (k + 1) ∧
    nrm G (p + ch / (mostC g k + 1) + lenC g k) (msT g G k p s (ch / (mostC g k + 1)) (ch % (mostC g k + 1))) = ssI c (choL g k (ch / (mostC g k + 1)) (ch % (mostC g k + 1))) G (k + 1).toNat := by
  have hN := hC.1
  have hM := most_rg hC hk
  have hl := len_rg hC hk
  have eL := Agr_len hAg hk
  rw [eL.2] at hch
  have hd := dm_b (w := mostC c k + 1) (i := ch) (by omega) hch
  rw [eL.1, eL.2, (Agr_mw (i := 0) (l := l) hAg hk).2]
  have hB := lnS_b hC (k := k) (by omega)
  have hbl := blS_b (c := g) hk.1 (fun i a1 a2 => (hO i a1 a2).1.1)
  have hpr : 0 ≤ p ∧ p ≤ 5 * k := by omega
  have hlk : LmOK c G l (k + 1) := fun k' a1 a2 => hL k' (by omega) a2
  have e1 := hL k hk.1 (by omega) p s hpr.1 hpr.2 hs3.1 hs3.2
  have e2 := mn_bsM hC (s := s) hk hpr hs3 hlk
  have e3 := nrm_bs hC hG (c 0 - k).toNat k p s hk.1 (by omega) hpr
  have hlt := bs_lt hC (p := p) (s := nrm G p s) hG (k := k) (by omega) hpr
  have hmw : ∀ i : Int, 0 ≤ i → i < 2 * (mostC c k + 1) → mwR g G l k p s i = mwB c G k p s i := fun i a1 a2 => by rw [(Agr_mw hAg hk).1, mwR_B hC hk hpr hs3 ⟨a1, a2⟩ hlk]
  have hle := (mnI_le (f := mwR c G l k p s) (z := 10000000) (2 * (mostC c k + 1)).toNat).2 ch hch.1 (by omega)
  rw [mwR_B hC hk hpr hs3 hch hlk] at hle
  rw [hmw ch hch.1 hch.2] at h1
  have hb := hd.1
  have hq : 0 ≤ ch % (mostC c k + 1) ∧ ch % (mostC c k + 1) ≤ mostC c k := by omega
  have hAg2 : Agr (choL g k (ch / (mostC c k + 1)) (ch % (mostC c k + 1))) c := Agr_cho hAg hk hN.2
  have hO2 : Opt c (choL g k (ch / (mostC c k + 1)) (ch % (mostC c k + 1))) G (k + 1) := by
    refine Opt_s hO hk.1 hb hq ?_ (fun b' q' a1 a2 a3 a4 => ?_)
    · rw [← hp, ← hs, mw_ct hC hG hk hpr hb hq, ← hd.2.2]
      omega
    · rw [← hp, ← hs]
      intro z
      have hb' : b' = 0 ∨ b' = 1 := by omega
      have hbb : ch / (mostC c k + 1) = 0 ∨ ch / (mostC c k + 1) = 1 := by omega
      have hi : b' * (mostC c k + 1) + q' < ch ∧ 0 ≤ b' * (mostC c k + 1) + q' := by
        have h9 := hd.2.2
        rcases hb' with rfl | rfl <;> rcases hbb with hbb | hbb <;> rw [hbb] at h9 a4 <;> omega
      rw [mw_ct hC hG hk hpr (by omega) ⟨a2, a3⟩] at z
      have h3 := h2 _ hi.2 hi.1
      rw [hmw _ hi.2 (by omega)] at h3
      omega
  have e6 : blS (choL g k (ch / (mostC c k + 1)) (ch % (mostC c k + 1))) k = blS g k := blS_c (fun i a1 a2 => cho_n (by omega))
  have e7 : ssI c (choL g k (ch / (mostC c k + 1)) (ch % (mostC c k + 1))) G k.toNat = ssI c g G k.toNat := ssI_c _ (fun i a1 a2 => ⟨cho_n (by omega), cho_n (by omega)⟩)
  refine ⟨hAg2, Cat_cho hCg ⟨hk.1, by rw [hAg.1]; exact hk.2⟩ hb (by rw [eL.2]; exact hq), hO2, ?_, ?_⟩
  · rw [blS_s hk.1, e6, cho_b rfl, lnS_s hk.1]
    omega
  · rw [ssI_s _ _ _ hk.1, blS_s hk.1, e6, e7, cho_b rfl, cho_q rfl, ← hs]
    rw [← (nrm_1 hC hG (s := s) hk hpr.1 hb hq 0).2, lnS_s hk.1]
    rw [show lnS c k + lenC c k + (blS g k + ch / (mostC c k + 1)) = p + lenC c k + ch / (mostC c k + 1) by omega, ← hp]
theorem fl_X8_chooses_7 : Cond.fieldLink RX8 7 "FacingPlatesModel" "all" "[I" ∈ wsX8_chooses := by decide +kernel
theorem fl_X8_chooses_25 : Cond.fieldLink RX8 25 "FacingPlatesModel" "least" "[I" ∈ wsX8_chooses := by decide +kernel
theorem fl_X8_chooses_111 : Cond.fieldLink RX8 111 "FacingPlatesModel" "pagesThen" "I" ∈ wsX8_chooses := by decide +kernel
theorem fl_X8_chooses_117 : Cond.fieldLink RX8 117 "FacingPlatesModel" "sidesThen" "I" ∈ wsX8_chooses := by decide +kernel
set_option maxHeartbeats 4000000 in
set_option maxRecDepth 100000 in
theorem c_X8_chooses (l : Launch) (D : va_G) (cyI : ClassId) (v : Nat) (a0 : Nat) (a1 : Nat) (a2 : Nat) (a3 : Nat) (e4 : Int) (a5 : Nat) (e6 : Int) (a7 : Nat) (e8 : Int) (e9 : Int) (e10 : Int) (a11 : Nat) (e12 : Int) (e13 : Int) (e14 : Int) (a15 : Nat) (m : Int → Int) (le : Int → Int) (hC : CatOK (cM m)) (hLm : LmOK (cM m) (cM m (49 + 0)) le 0) : fp_MW l yX8_chooses wsX8_chooses ({ frames := 4, cells := 0, slots := 0, locals := 97 } : Room) D cyI [(v, .inr (8, [.ref a0, .ref a1, .ref a2, .ref a3, .int (iI (e4)), .ref a5, .int (iI (e6)), .ref a7, .int (iI (e8)), .int (iI (e9)), .int (iI (e10)), .ref a11, .int (iI (e12)), .int (iI (e13)), .int (iI (e14)), .ref a15])), (a0, fA cyI 54 m), (a7, fA cyI 3328 le)] [.ref v] (fun (u9 : (Int → Int) × (Int) × (Int) × (Int)) => (Agr (cM u9.1) (cM m)) ∧ (CatOK (cM u9.1)) ∧ (Opt (cM m) (cM u9.1) (cM m (49 + 0)) (m 5)) ∧ (∀ j9 : Int, ¬ (30 ≤ j9 ∧ j9 < 30 + m 5) → ¬ (42 ≤ j9 ∧ j9 < 42 + m 5) → u9.1 j9 = m j9)) (fun (u9 : (Int → Int) × (Int) × (Int) × (Int)) => none) (fun (u9 : (Int → Int) × (Int) × (Int) × (Int)) => [(v, .inr (8, [.ref a0, .ref a1, .ref a2, .ref a3, .int (iI (e4)), .ref a5, .int (iI (e6)), .ref a7, .int (iI (u9.2.1)), .int (iI (u9.2.2.1)), .int (iI (u9.2.2.2)), .ref a11, .int (iI (e12)), .int (iI (e13)), .int (iI (e14)), .ref a15])), (a0, fA cyI 54 u9.1), (a7, fA cyI 3328 le)]) := by
  refine fp_start (cc := cX8_chooses) (maxL := 7) (ret := none) (by decide) rfl (Nat.le_of_ble_eq_true rfl) ?_
  intro pg en sx mi ar bl mt cd ls hx hb hr hts hown hlocks hml hnm hP hK hD hl
  have hown : sx.vm.findClass RX8 = some mi.cls := hown
  have hl : lv_has ls 7 [(0, .ref v)] := hl
  have hD := fp_self hD
  have hS : va_S (fp_A [(v, .inr (8, [.ref a0, .ref a1, .ref a2, .ref a3, .int (iI (e4)), .ref a5, .int (iI (e6)), .ref a7, .int (iI (e8)), .int (iI (e9)), .int (iI (e10)), .ref a11, .int (iI (e12)), .int (iI (e13)), .int (iI (e14)), .ref a15])), (a0, fA cyI 54 m), (a7, fA cyI 3328 le)]) sx.heap sx.heap [] := va_S.rf
  have hN := hC.1
  rw [cM_0] at hN
  have hX := hC.2.2
  unfold SetOK at hX
  have eG : cM m (49 + 0) = m 0 := cM_s (by omega)
  rw [eG] at hX
  have hX0 := hX.1
  have hG : cM m (49 + 0) = 4 ∨ cM m (49 + 0) = 8 ∨ cM m (49 + 0) = 16 := by rw [eG]; exact hX0
  have e0 : cM m 0 = m 5 := cM_0 m
  refine fp_iconst hx hb dX8_chooses_0 ?_
  refine lv_istore_n (lv' := [(1, .int (iI (0))), (0, .ref v)]) hx hb dX8_chooses_1 rfl hl (by decide) rfl (fun ls hl => ?_)
  refine fp_iconst hx hb dX8_chooses_2 ?_
  refine lv_istore_n (lv' := [(2, .int (iI (0))), (1, .int (iI (0))), (0, .ref v)]) hx hb dX8_chooses_3 rfl hl (by decide) rfl (fun ls hl => ?_)
  refine fp_iconst hx hb dX8_chooses_4 ?_
  refine lv_istore_n (lv' := [(3, .int (iI (0))), (2, .int (iI (0))), (1, .int (iI (0))), (0, .ref v)]) hx hb dX8_chooses_5 rfl hl (by decide) rfl (fun ls hl => ?_)
  have hl := lv_sub hl (l' := [(0, .ref v), (1, .int (iI (0))), (2, .int (iI (0))), (3, .int (iI (0)))]) [3, 2, 1, 0] rfl
  have lp0 : ∀ (nf : Nat) (p : Int) (s : Int) (k : Int) (g : Int → Int) (z8 : Int) (z9 : Int) (z10 : Int), (0 ≤ k ∧ k ≤ m 5) → (Agr (cM g) (cM m)) → (CatOK (cM g)) → (Opt (cM m) (cM g) (cM m (49 + 0)) k) → (p = lnS (cM m) k + blS (cM g) k) → (nrm (cM m (49 + 0)) p s = ssI (cM m) (cM g) (cM m (49 + 0)) k.toNat) → (0 ≤ s ∧ s ≤ 3) → (∀ j9 : Int, ¬ (30 ≤ j9 ∧ j9 < 30 + m 5) → ¬ (42 ≤ j9 ∧ j9 < 42 + m 5) → g j9 = m j9) → (m 5 + 1 ≤ k + (nf : Int)) → ∀ (H : Heap) (locs : List Loc), va_P D vwCl [(v, .inr (8, [.ref a0, .ref a1, .ref a2, .ref a3, .int (iI (e4)), .ref a5, .int (iI (e6)), .ref a7, .int (iI (z8)), .int (iI (z9)), .int (iI (z10)), .ref a11, .int (iI (e12)), .int (iI (e13)), .int (iI (e14)), .ref a15])), (a0, fA cyI 54 g), (a7, fA cyI 3328 le)] H → va_D (fp_A [(v, .inr (8, [.ref a0, .ref a1, .ref a2, .ref a3, .int (iI (e4)), .ref a5, .int (iI (e6)), .ref a7, .int (iI (e8)), .int (iI (e9)), .int (iI (e10)), .ref a11, .int (iI (e12)), .int (iI (e13)), .int (iI (e14)), .ref a15])), (a0, fA cyI 54 m), (a7, fA cyI 3328 le)]) [(v, .inr (8, [.ref a0, .ref a1, .ref a2, .ref a3, .int (iI (e4)), .ref a5, .int (iI (e6)), .ref a7, .int (iI (z8)), .int (iI (z9)), .int (iI (z10)), .ref a11, .int (iI (e12)), .int (iI (e13)), .int (iI (e14)), .ref a15])), (a0, fA cyI 54 g), (a7, fA cyI 3328 le)] → va_S (fp_A [(v, .inr (8, [.ref a0, .ref a1, .ref a2, .ref a3, .int (iI (e4)), .ref a5, .int (iI (e6)), .ref a7, .int (iI (e8)), .int (iI (e9)), .int (iI (e10)), .ref a11, .int (iI (e12)), .int (iI (e13)), .int (iI (e14)), .ref a15])), (a0, fA cyI 54 m), (a7, fA cyI 3328 le)]) sx.heap H locs → ∀ (ls : Array Slot), lv_has ls 7 [(0, .ref v), (1, .int (iI (p))), (2, .int (iI (s))), (3, .int (iI (k)))] → W pg l en ({ frames := 4, cells := 0, slots := 0, locals := 97 } : Room) sx mi ar bl mt cd H locs 0 0 (MQ bl (fp_Qw D [(v, .inr (8, [.ref a0, .ref a1, .ref a2, .ref a3, .int (iI (e4)), .ref a5, .int (iI (e6)), .ref a7, .int (iI (e8)), .int (iI (e9)), .int (iI (e10)), .ref a11, .int (iI (e12)), .int (iI (e13)), .int (iI (e14)), .ref a15])), (a0, fA cyI 54 m), (a7, fA cyI 3328 le)] (fun (u9 : (Int → Int) × (Int) × (Int) × (Int)) => (Agr (cM u9.1) (cM m)) ∧ (CatOK (cM u9.1)) ∧ (Opt (cM m) (cM u9.1) (cM m (49 + 0)) (m 5)) ∧ (∀ j9 : Int, ¬ (30 ≤ j9 ∧ j9 < 30 + m 5) → ¬ (42 ≤ j9 ∧ j9 < 42 + m 5) → u9.1 j9 = m j9)) (fun (u9 : (Int → Int) × (Int) × (Int) × (Int)) => none) (fun (u9 : (Int → Int) × (Int) × (Int) × (Int)) => [(v, .inr (8, [.ref a0, .ref a1, .ref a2, .ref a3, .int (iI (e4)), .ref a5, .int (iI (e6)), .ref a7, .int (iI (u9.2.1)), .int (iI (u9.2.2.1)), .int (iI (u9.2.2.2)), .ref a11, .int (iI (e12)), .int (iI (e13)), .int (iI (e14)), .ref a15])), (a0, fA cyI 54 u9.1), (a7, fA cyI 3328 le)])) ar sx 0 0 (fp_A [(v, .inr (8, [.ref a0, .ref a1, .ref a2, .ref a3, .int (iI (e4)), .ref a5, .int (iI (e6)), .ref a7, .int (iI (e8)), .int (iI (e9)), .int (iI (e10)), .ref a11, .int (iI (e12)), .int (iI (e13)), .int (iI (e14)), .ref a15])), (a0, fA cyI 54 m), (a7, fA cyI 3328 le)])) (F0 mi 6 ls []) := by
    intro nf
    induction nf with
    | zero =>
      intro p s k g z8 z9 z10 ik jA jC jO jp js is9 jU hfuel
      exact absurd hfuel (by omega)
    | succ nf ih0 =>
      intro p s k g z8 z9 z10 ik jA jC jO jp js is9 jU hfuel H locs hP hD hS ls hl
      have hg5 : g 5 = m 5 := by have := jA.1; rw [cM_0, cM_0] at this; exact this
      have eGG : cM g (49 + 0) = cM m (49 + 0) := jA.2.2 0 (by omega) (by omega)
      have hB := lnS_b hC (k := k) (by omega)
      have hbl := blS_b (c := cM g) ik.1 (fun i a1 a2 => (jO i a1 a2).1.1)
      refine lv_iload_n hx hb dX8_chooses_6 rfl (lv_at hl 3 rfl) ?_
      refine lv_aload_n hx hb dX8_chooses_7 rfl (lv_at hl 0 rfl) ?_
      refine va_get (D := D) (ci := 8) (ws := [(v, .inr (8, [.ref a0, .ref a1, .ref a2, .ref a3, .int (iI (e4)), .ref a5, .int (iI (e6)), .ref a7, .int (iI (z8)), .int (iI (z9)), .int (iI (z10)), .ref a11, .int (iI (e12)), .int (iI (e13)), .int (iI (e14)), .ref a15])), (a0, fA cyI 54 g), (a7, fA cyI 3328 le)]) (v := .ref a0) (C := RX8) (T := TX8) (N := 16) hx hb hts (fun _ h => List.mem_cons_of_mem _ (List.mem_append_right _ h)) hown hK.1 hP 0 rfl rfl 0 (by decide) (hts _ fl_X8_chooses_7) (fun _ h9 => h9) rfl dX8_chooses_8 ?_
      refine fp_iconst hx hb dX8_chooses_11 ?_
      refine fp_iald (wsC := [(v, .inr (8, [.ref a0, .ref a1, .ref a2, .ref a3, .int (iI (e4)), .ref a5, .int (iI (e6)), .ref a7, .int (iI (z8)), .int (iI (z9)), .int (iI (z10)), .ref a11, .int (iI (e12)), .int (iI (e13)), .int (iI (e14)), .ref a15])), (a0, fA cyI 54 g), (a7, fA cyI 3328 le)]) hx hb hK hP 1 rfl (by omega) (by decide) dX8_chooses_12 ?_
      refine fp_icmp_ge (tgt := 105) hx hb (by omega) dX8_chooses_13 (by decide) (fun q13 => ?_) (fun q13 => ?_)
      · skip
        exact fp_wvret (g, z8, z9, z10) hx hb hr hlocks hS hP ⟨jA, jC, by rw [show m 5 = k by omega]; exact jO, jU⟩ rfl dX8_chooses_105
      · skip
        have hk : 0 ≤ k ∧ k < m 5 := by omega
        have hkc : 0 ≤ k ∧ k < cM m 0 := by omega
        have hM := most_rg hC hkc
        have hMg := (Agr_len jA hkc).2
        have hLk : LmOK (cM m) (cM m (49 + 0)) le (k + 1) := fun k7 a1 a2 => hLm k7 (by omega) a2
        have hdr := Lm_rg hC hG hLm (k' := k) (p := p) (s := s) (by omega) (by omega) is9
        have hrw : ∀ i9 : Int, 0 ≤ i9 → i9 < 2 * (mostC (cM g) k + 1) → 0 ≤ mwR (cM g) (cM g (49 + 0)) le k p s i9 ∧ mwR (cM g) (cM g (49 + 0)) le k p s i9 ≤ 10000198 := fun i9 a1 a2 => by rw [eGG, (Agr_mw jA hkc).1]; exact mwR_rg hC hG hkc (by omega) is9 (by omega) hLk
        have hci : 0 ≤ (0 : Int) ∧ 0 < 2 * (mostC (cM g) k + 1) := by omega
        refine lv_aload_n hx hb dX8_chooses_16 rfl (lv_at hl 0 rfl) ?_
        refine va_get (D := D) (ci := 8) (ws := [(v, .inr (8, [.ref a0, .ref a1, .ref a2, .ref a3, .int (iI (e4)), .ref a5, .int (iI (e6)), .ref a7, .int (iI (z8)), .int (iI (z9)), .int (iI (z10)), .ref a11, .int (iI (e12)), .int (iI (e13)), .int (iI (e14)), .ref a15])), (a0, fA cyI 54 g), (a7, fA cyI 3328 le)]) (v := .ref a7) (C := RX8) (T := TX8) (N := 16) hx hb hts (fun _ h => List.mem_cons_of_mem _ (List.mem_append_right _ h)) hown hK.1 hP 0 rfl rfl 7 (by decide) (hts _ fl_X8_chooses_25) (fun _ h9 => h9) rfl dX8_chooses_17 ?_
        refine lv_iload_n hx hb dX8_chooses_20 rfl (lv_at hl 3 rfl) ?_
        refine lv_iload_n hx hb dX8_chooses_21 rfl (lv_at hl 1 rfl) ?_
        refine lv_iload_n hx hb dX8_chooses_22 rfl (lv_at hl 2 rfl) ?_
        refine fp_pS (As := [.int (iI (k)), .int (iI (p)), .int (iI (s))]) (rest := [.ref a7]) (wsC := [(v, .inr (8, [.ref a0, .ref a1, .ref a2, .ref a3, .int (iI (e4)), .ref a5, .int (iI (e6)), .ref a7, .int (iI (z8)), .int (iI (z9)), .int (iI (z10)), .ref a11, .int (iI (e12)), .int (iI (e13)), .int (iI (e14)), .ref a15])), (a0, fA cyI 54 g), (a7, fA cyI 3328 le)]) ⟨hx, hb, hml, hown, hts⟩ (c_X8_stateOf l D cyI k p s) (va_cwS 3 hts gX8_chooses_X8_stateOf rfl rfl rfl (by decide +kernel) ⟨Nat.le_of_ble_eq_true rfl, Nat.le_of_ble_eq_true rfl⟩) hK hP hD [] (by decide) rfl rfl hl.1 rfl (Nat.le_of_ble_eq_true rfl) dX8_chooses_23 ⟨Nat.zero_le _, Nat.zero_le _⟩ ?_
        refine fp_iald (wsC := [(v, .inr (8, [.ref a0, .ref a1, .ref a2, .ref a3, .int (iI (e4)), .ref a5, .int (iI (e6)), .ref a7, .int (iI (z8)), .int (iI (z9)), .int (iI (z10)), .ref a11, .int (iI (e12)), .int (iI (e13)), .int (iI (e14)), .ref a15])), (a0, fA cyI 54 g), (a7, fA cyI 3328 le)]) hx hb hK hP 2 rfl (by omega) (by decide) dX8_chooses_26 ?_
        refine lv_istore (lv' := [(4, .int (iI (le (256 * k + 4 * p + s)))), (0, .ref v), (1, .int (iI (p))), (2, .int (iI (s))), (3, .int (iI (k)))]) hx hb dX8_chooses_27 hl (by decide) rfl (fun ls hl => ?_)
        refine fp_iconst hx hb dX8_chooses_29 ?_
        refine lv_istore (lv' := [(5, .int (iI (0))), (4, .int (iI (le (256 * k + 4 * p + s)))), (0, .ref v), (1, .int (iI (p))), (2, .int (iI (s))), (3, .int (iI (k)))]) hx hb dX8_chooses_30 hl (by decide) rfl (fun ls hl => ?_)
        have hl := lv_sub hl (l' := [(0, .ref v), (1, .int (iI (p))), (2, .int (iI (s))), (3, .int (iI (k))), (4, .int (iI (le (256 * k + 4 * p + s)))), (5, .int (iI (0)))]) [2, 3, 4, 5, 1, 0] rfl
        have lp2 : ∀ (nf : Nat) (ch : Int) (z8 : Int) (z9 : Int) (z10 : Int), (0 ≤ ch ∧ ch < 2 * (mostC (cM g) k + 1)) → (∀ j9 : Int, 0 ≤ j9 → j9 < ch → le (256 * k + 4 * p + s) < mwR (cM g) (cM g (49 + 0)) le k p s j9) → (2 * (mostC (cM g) k + 1) + 1 ≤ ch + (nf : Int)) → ∀ (H : Heap) (locs : List Loc), va_P D vwCl [(v, .inr (8, [.ref a0, .ref a1, .ref a2, .ref a3, .int (iI (e4)), .ref a5, .int (iI (e6)), .ref a7, .int (iI (z8)), .int (iI (z9)), .int (iI (z10)), .ref a11, .int (iI (e12)), .int (iI (e13)), .int (iI (e14)), .ref a15])), (a0, fA cyI 54 g), (a7, fA cyI 3328 le)] H → va_D (fp_A [(v, .inr (8, [.ref a0, .ref a1, .ref a2, .ref a3, .int (iI (e4)), .ref a5, .int (iI (e6)), .ref a7, .int (iI (e8)), .int (iI (e9)), .int (iI (e10)), .ref a11, .int (iI (e12)), .int (iI (e13)), .int (iI (e14)), .ref a15])), (a0, fA cyI 54 m), (a7, fA cyI 3328 le)]) [(v, .inr (8, [.ref a0, .ref a1, .ref a2, .ref a3, .int (iI (e4)), .ref a5, .int (iI (e6)), .ref a7, .int (iI (z8)), .int (iI (z9)), .int (iI (z10)), .ref a11, .int (iI (e12)), .int (iI (e13)), .int (iI (e14)), .ref a15])), (a0, fA cyI 54 g), (a7, fA cyI 3328 le)] → va_S (fp_A [(v, .inr (8, [.ref a0, .ref a1, .ref a2, .ref a3, .int (iI (e4)), .ref a5, .int (iI (e6)), .ref a7, .int (iI (e8)), .int (iI (e9)), .int (iI (e10)), .ref a11, .int (iI (e12)), .int (iI (e13)), .int (iI (e14)), .ref a15])), (a0, fA cyI 54 m), (a7, fA cyI 3328 le)]) sx.heap H locs → ∀ (ls : Array Slot), lv_has ls 7 [(0, .ref v), (1, .int (iI (p))), (2, .int (iI (s))), (3, .int (iI (k))), (4, .int (iI (le (256 * k + 4 * p + s)))), (5, .int (iI (ch)))] → W pg l en ({ frames := 4, cells := 0, slots := 0, locals := 97 } : Room) sx mi ar bl mt cd H locs 0 0 (MQ bl (fp_Qw D [(v, .inr (8, [.ref a0, .ref a1, .ref a2, .ref a3, .int (iI (e4)), .ref a5, .int (iI (e6)), .ref a7, .int (iI (e8)), .int (iI (e9)), .int (iI (e10)), .ref a11, .int (iI (e12)), .int (iI (e13)), .int (iI (e14)), .ref a15])), (a0, fA cyI 54 m), (a7, fA cyI 3328 le)] (fun (u9 : (Int → Int) × (Int) × (Int) × (Int)) => (Agr (cM u9.1) (cM m)) ∧ (CatOK (cM u9.1)) ∧ (Opt (cM m) (cM u9.1) (cM m (49 + 0)) (m 5)) ∧ (∀ j9 : Int, ¬ (30 ≤ j9 ∧ j9 < 30 + m 5) → ¬ (42 ≤ j9 ∧ j9 < 42 + m 5) → u9.1 j9 = m j9)) (fun (u9 : (Int → Int) × (Int) × (Int) × (Int)) => none) (fun (u9 : (Int → Int) × (Int) × (Int) × (Int)) => [(v, .inr (8, [.ref a0, .ref a1, .ref a2, .ref a3, .int (iI (e4)), .ref a5, .int (iI (e6)), .ref a7, .int (iI (u9.2.1)), .int (iI (u9.2.2.1)), .int (iI (u9.2.2.2)), .ref a11, .int (iI (e12)), .int (iI (e13)), .int (iI (e14)), .ref a15])), (a0, fA cyI 54 u9.1), (a7, fA cyI 3328 le)])) ar sx 0 0 (fp_A [(v, .inr (8, [.ref a0, .ref a1, .ref a2, .ref a3, .int (iI (e4)), .ref a5, .int (iI (e6)), .ref a7, .int (iI (e8)), .int (iI (e9)), .int (iI (e10)), .ref a11, .int (iI (e12)), .int (iI (e13)), .int (iI (e14)), .ref a15])), (a0, fA cyI 54 m), (a7, fA cyI 3328 le)])) (F0 mi 32 ls []) := by
          intro nf
          induction nf with
          | zero =>
            intro ch z8 z9 z10 ic jq hfuel
            exact absurd hfuel (by omega)
          | succ nf ih2 =>
            intro ch z8 z9 z10 ic jq hfuel H locs hP hD hS ls hl
            refine lv_aload_n hx hb dX8_chooses_32 rfl (lv_at hl 0 rfl) ?_
            refine lv_iload_n hx hb dX8_chooses_33 rfl (lv_at hl 3 rfl) ?_
            refine lv_iload_n hx hb dX8_chooses_34 rfl (lv_at hl 1 rfl) ?_
            refine lv_iload_n hx hb dX8_chooses_35 rfl (lv_at hl 2 rfl) ?_
            refine lv_iload hx hb dX8_chooses_36 (lv_at hl 5 rfl) ?_
            refine fp_wV (As := [.int (iI (k)), .int (iI (p)), .int (iI (s)), .int (iI (ch))]) (rest := []) (wsC := [(v, .inr (8, [.ref a0, .ref a1, .ref a2, .ref a3, .int (iI (e4)), .ref a5, .int (iI (e6)), .ref a7, .int (iI (z8)), .int (iI (z9)), .int (iI (z10)), .ref a11, .int (iI (e12)), .int (iI (e13)), .int (iI (e14)), .ref a15])), (a0, fA cyI 54 g), (a7, fA cyI 3328 le)]) ⟨hx, hb, hml, hown, hts⟩ (c_X8_costWith l D cyI v a0 a1 a2 a3 e4 a5 e6 a7 z8 z9 z10 a11 e12 e13 e14 a15 g le k p s ch jC (by omega) (by omega) (by omega) (by omega) (fun p9 s9 a1 a2 a3 a4 => Lm_rg hC hG hLk (by omega) ⟨a1, a2⟩ ⟨a3, a4⟩)) (cwV 4 hts gX8_chooses_X8_costWith rfl rfl rfl (by decide +kernel) ⟨Nat.le_of_ble_eq_true rfl, Nat.le_of_ble_eq_true rfl⟩) (fun _ => rfl) hK hP hD hS [0, 1, 2] (by decide) rfl rfl rfl rfl hl.1 rfl (Nat.le_of_ble_eq_true rfl) dX8_chooses_38 ⟨Nat.zero_le _, Nat.zero_le _⟩ (fun u9v H locs hu hP hD hS => ?_)
            refine W.eq (g2 := F0 mi 41 ls [.int (iI (mwR (cM g) (cM g (49 + 0)) le k p s ch))]) rfl ?_
            have hP : va_P D vwCl [(v, .inr (8, [.ref a0, .ref a1, .ref a2, .ref a3, .int (iI (e4)), .ref a5, .int (iI (e6)), .ref a7, .int (iI (p + ch / (mostC (cM g) k + 1) + lenC (cM g) k)), .int (iI (msT (cM g) (cM g (49 + 0)) k p s (ch / (mostC (cM g) k + 1)) (ch % (mostC (cM g) k + 1)))), .int (iI (mcT (cM g) (cM g (49 + 0)) k p s (ch / (mostC (cM g) k + 1)) (ch % (mostC (cM g) k + 1)))), .ref a11, .int (iI (e12)), .int (iI (e13)), .int (iI (e14)), .ref a15])), (a0, fA cyI 54 g), (a7, fA cyI 3328 le)] H := hP
            have hD : va_D (fp_A [(v, .inr (8, [.ref a0, .ref a1, .ref a2, .ref a3, .int (iI (e4)), .ref a5, .int (iI (e6)), .ref a7, .int (iI (e8)), .int (iI (e9)), .int (iI (e10)), .ref a11, .int (iI (e12)), .int (iI (e13)), .int (iI (e14)), .ref a15])), (a0, fA cyI 54 m), (a7, fA cyI 3328 le)]) [(v, .inr (8, [.ref a0, .ref a1, .ref a2, .ref a3, .int (iI (e4)), .ref a5, .int (iI (e6)), .ref a7, .int (iI (p + ch / (mostC (cM g) k + 1) + lenC (cM g) k)), .int (iI (msT (cM g) (cM g (49 + 0)) k p s (ch / (mostC (cM g) k + 1)) (ch % (mostC (cM g) k + 1)))), .int (iI (mcT (cM g) (cM g (49 + 0)) k p s (ch / (mostC (cM g) k + 1)) (ch % (mostC (cM g) k + 1)))), .ref a11, .int (iI (e12)), .int (iI (e13)), .int (iI (e14)), .ref a15])), (a0, fA cyI 54 g), (a7, fA cyI 3328 le)] := hD
            have hcr := hrw ch ic.1 ic.2
            refine lv_iload hx hb dX8_chooses_41 (lv_at hl 4 rfl) ?_
            refine fp_icmp_le (tgt := 52) hx hb (by omega) dX8_chooses_43 (by decide) (fun q43 => ?_) (fun q43 => ?_)
            · skip
              have hst := ch_step hC jA jC hG hkc hLm jO jp js is9 ic (by rw [← eGG]; omega) (by rw [← eGG]; exact jq)
              obtain ⟨hs_a, hs_c, hs_o, hs_p, hs_n⟩ := hst
              have ew : 2 * (mostC (cM g) k + 1) / 2 = mostC (cM g) k + 1 := by omega
              have hd := dm_b (w := mostC (cM g) k + 1) (i := ch) (by omega) (by omega)
              have hsm : Same (choL (cM g) k (ch / (mostC (cM g) k + 1)) (ch % (mostC (cM g) k + 1))) (cM (upI (upI g (30 + k) (ch / (mostC (cM g) k + 1))) (42 + k) (ch % (mostC (cM g) k + 1)))) := cM_cho (by omega) (by omega)
              have hrow : ∀ i9 : Int, 0 ≤ i9 → i9 < k + 1 → choL (cM g) k (ch / (mostC (cM g) k + 1)) (ch % (mostC (cM g) k + 1)) (i9 * 4 + 3) = cM (upI (upI g (30 + k) (ch / (mostC (cM g) k + 1))) (42 + k) (ch % (mostC (cM g) k + 1))) (i9 * 4 + 3) ∧ choL (cM g) k (ch / (mostC (cM g) k + 1)) (ch % (mostC (cM g) k + 1)) (i9 * 4 + 4) = cM (upI (upI g (30 + k) (ch / (mostC (cM g) k + 1))) (42 + k) (ch % (mostC (cM g) k + 1))) (i9 * 4 + 4) := fun i9 a1 a2 => by
                have := hsm.2.1 i9 a1 (by rw [hs_a.1]; omega)
                exact ⟨this.2.2.1, this.2.2.2⟩
              have hA2 := Same_Agr hsm hs_a
              have hC2 := Same_Cat hsm hs_c
              have hO2 := Opt_g hs_o hrow
              have hp2 : p + (ch / (mostC (cM g) k + 1)) + lenC (cM g) k = lnS (cM m) (k + 1) + blS (cM (upI (upI g (30 + k) (ch / (mostC (cM g) k + 1))) (42 + k) (ch % (mostC (cM g) k + 1)))) (k + 1) := by rw [hs_p, blS_c (fun i9 a1 a2 => (hrow i9 a1 a2).1)]
              have hs2 : nrm (cM m (49 + 0)) (p + (ch / (mostC (cM g) k + 1)) + lenC (cM g) k) (msT (cM g) (cM g (49 + 0)) k p s (ch / (mostC (cM g) k + 1)) (ch % (mostC (cM g) k + 1))) = ssI (cM m) (cM (upI (upI g (30 + k) (ch / (mostC (cM g) k + 1))) (42 + k) (ch % (mostC (cM g) k + 1)))) (cM m (49 + 0)) (k + 1).toNat := by rw [eGG, hs_n]; exact ssI_c _ (fun i9 a1 a2 => hrow i9 a1 (by omega))
              have hU2 : ∀ j9 : Int, ¬ (30 ≤ j9 ∧ j9 < 30 + m 5) → ¬ (42 ≤ j9 ∧ j9 < 42 + m 5) → (upI (upI g (30 + k) (ch / (mostC (cM g) k + 1))) (42 + k) (ch % (mostC (cM g) k + 1))) j9 = m j9 := fun j9 a1 a2 => by rw [upI_n (by omega), upI_n (by omega)]; exact jU j9 a1 a2
              have hs3 := msT_rg (c := cM g) (G := cM g (49 + 0)) (k := k) (p := p) (b := (ch / (mostC (cM g) k + 1))) (q := (ch % (mostC (cM g) k + 1))) is9
              refine lv_aload_n hx hb dX8_chooses_52 rfl (lv_at hl 0 rfl) ?_
              refine lv_iload_n hx hb dX8_chooses_53 rfl (lv_at hl 3 rfl) ?_
              refine fp_pV (As := [.int (iI (k))]) (rest := []) (wsC := [(v, .inr (8, [.ref a0, .ref a1, .ref a2, .ref a3, .int (iI (e4)), .ref a5, .int (iI (e6)), .ref a7, .int (iI (p + ch / (mostC (cM g) k + 1) + lenC (cM g) k)), .int (iI (msT (cM g) (cM g (49 + 0)) k p s (ch / (mostC (cM g) k + 1)) (ch % (mostC (cM g) k + 1)))), .int (iI (mcT (cM g) (cM g (49 + 0)) k p s (ch / (mostC (cM g) k + 1)) (ch % (mostC (cM g) k + 1)))), .ref a11, .int (iI (e12)), .int (iI (e13)), .int (iI (e14)), .ref a15])), (a0, fA cyI 54 g), (a7, fA cyI 3328 le)]) ⟨hx, hb, hml, hown, hts⟩ (c_X8_choicesOf l D cyI v a0 a1 a2 a3 e4 a5 e6 a7 (p + ch / (mostC (cM g) k + 1) + lenC (cM g) k) (msT (cM g) (cM g (49 + 0)) k p s (ch / (mostC (cM g) k + 1)) (ch % (mostC (cM g) k + 1))) (mcT (cM g) (cM g (49 + 0)) k p s (ch / (mostC (cM g) k + 1)) (ch % (mostC (cM g) k + 1))) a11 e12 e13 e14 a15 g k jC (by omega)) (cwV 1 hts gX8_chooses_X8_choicesOf rfl rfl rfl (by decide +kernel) ⟨Nat.le_of_ble_eq_true rfl, Nat.le_of_ble_eq_true rfl⟩) hK hP hD [0, 1] (by decide) rfl rfl rfl rfl hl.1 rfl (Nat.le_of_ble_eq_true rfl) dX8_chooses_54 ⟨Nat.zero_le _, Nat.zero_le _⟩ ?_
              refine fp_iconst hx hb dX8_chooses_57 ?_
              refine fp_idiv hx hb (by omega) dX8_chooses_58 ?_
              rw [show ((2 * (mostC (cM g) k + 1)) / 2 : Int) = mostC (cM g) k + 1 from ew]
              refine lv_istore (lv' := [(6, .int (iI (mostC (cM g) k + 1))), (0, .ref v), (1, .int (iI (p))), (2, .int (iI (s))), (3, .int (iI (k))), (4, .int (iI (le (256 * k + 4 * p + s)))), (5, .int (iI (ch)))]) hx hb dX8_chooses_59 hl (by decide) rfl (fun ls hl => ?_)
              refine lv_aload_n hx hb dX8_chooses_61 rfl (lv_at hl 1 rfl) ?_
              refine va_get (D := D) (ci := 8) (ws := [(v, .inr (8, [.ref a0, .ref a1, .ref a2, .ref a3, .int (iI (e4)), .ref a5, .int (iI (e6)), .ref a7, .int (iI (p + ch / (mostC (cM g) k + 1) + lenC (cM g) k)), .int (iI (msT (cM g) (cM g (49 + 0)) k p s (ch / (mostC (cM g) k + 1)) (ch % (mostC (cM g) k + 1)))), .int (iI (mcT (cM g) (cM g (49 + 0)) k p s (ch / (mostC (cM g) k + 1)) (ch % (mostC (cM g) k + 1)))), .ref a11, .int (iI (e12)), .int (iI (e13)), .int (iI (e14)), .ref a15])), (a0, fA cyI 54 g), (a7, fA cyI 3328 le)]) (v := .ref a0) (C := RX8) (T := TX8) (N := 16) hx hb hts (fun _ h => List.mem_cons_of_mem _ (List.mem_append_right _ h)) hown hK.1 hP 0 rfl rfl 0 (by decide) (hts _ fl_X8_chooses_7) (fun _ h9 => h9) rfl dX8_chooses_62 ?_
              refine fp_bipush hx hb dX8_chooses_65 (by decide) ?_
              refine lv_iload_n hx hb dX8_chooses_67 rfl (lv_at hl 4 rfl) ?_
              refine fp_iadd hx hb dX8_chooses_68 ?_
              refine lv_iload hx hb dX8_chooses_69 (lv_at hl 6 rfl) ?_
              refine lv_iload hx hb dX8_chooses_71 (lv_at hl 0 rfl) ?_
              refine fp_idiv hx hb (by omega) dX8_chooses_73 ?_
              refine fp_iast (wsC := [(v, .inr (8, [.ref a0, .ref a1, .ref a2, .ref a3, .int (iI (e4)), .ref a5, .int (iI (e6)), .ref a7, .int (iI (p + ch / (mostC (cM g) k + 1) + lenC (cM g) k)), .int (iI (msT (cM g) (cM g (49 + 0)) k p s (ch / (mostC (cM g) k + 1)) (ch % (mostC (cM g) k + 1)))), .int (iI (mcT (cM g) (cM g (49 + 0)) k p s (ch / (mostC (cM g) k + 1)) (ch % (mostC (cM g) k + 1)))), .ref a11, .int (iI (e12)), .int (iI (e13)), .int (iI (e14)), .ref a15])), (a0, fA cyI 54 g), (a7, fA cyI 3328 le)]) hx hb hK hP hD hS 1 rfl (by omega) (by decide) dX8_chooses_74 (fun H locs hP hD hS => ?_)
              have hP : va_P D vwCl [(v, .inr (8, [.ref a0, .ref a1, .ref a2, .ref a3, .int (iI (e4)), .ref a5, .int (iI (e6)), .ref a7, .int (iI (p + ch / (mostC (cM g) k + 1) + lenC (cM g) k)), .int (iI (msT (cM g) (cM g (49 + 0)) k p s (ch / (mostC (cM g) k + 1)) (ch % (mostC (cM g) k + 1)))), .int (iI (mcT (cM g) (cM g (49 + 0)) k p s (ch / (mostC (cM g) k + 1)) (ch % (mostC (cM g) k + 1)))), .ref a11, .int (iI (e12)), .int (iI (e13)), .int (iI (e14)), .ref a15])), (a0, fA cyI 54 (upI (g) (30 + k) (ch / (mostC (cM g) k + 1)))), (a7, fA cyI 3328 le)] H := hP
              have hD : va_D (fp_A [(v, .inr (8, [.ref a0, .ref a1, .ref a2, .ref a3, .int (iI (e4)), .ref a5, .int (iI (e6)), .ref a7, .int (iI (e8)), .int (iI (e9)), .int (iI (e10)), .ref a11, .int (iI (e12)), .int (iI (e13)), .int (iI (e14)), .ref a15])), (a0, fA cyI 54 m), (a7, fA cyI 3328 le)]) [(v, .inr (8, [.ref a0, .ref a1, .ref a2, .ref a3, .int (iI (e4)), .ref a5, .int (iI (e6)), .ref a7, .int (iI (p + ch / (mostC (cM g) k + 1) + lenC (cM g) k)), .int (iI (msT (cM g) (cM g (49 + 0)) k p s (ch / (mostC (cM g) k + 1)) (ch % (mostC (cM g) k + 1)))), .int (iI (mcT (cM g) (cM g (49 + 0)) k p s (ch / (mostC (cM g) k + 1)) (ch % (mostC (cM g) k + 1)))), .ref a11, .int (iI (e12)), .int (iI (e13)), .int (iI (e14)), .ref a15])), (a0, fA cyI 54 (upI (g) (30 + k) (ch / (mostC (cM g) k + 1)))), (a7, fA cyI 3328 le)] := hD
              refine lv_aload_n hx hb dX8_chooses_75 rfl (lv_at hl 1 rfl) ?_
              refine va_get (D := D) (ci := 8) (ws := [(v, .inr (8, [.ref a0, .ref a1, .ref a2, .ref a3, .int (iI (e4)), .ref a5, .int (iI (e6)), .ref a7, .int (iI (p + ch / (mostC (cM g) k + 1) + lenC (cM g) k)), .int (iI (msT (cM g) (cM g (49 + 0)) k p s (ch / (mostC (cM g) k + 1)) (ch % (mostC (cM g) k + 1)))), .int (iI (mcT (cM g) (cM g (49 + 0)) k p s (ch / (mostC (cM g) k + 1)) (ch % (mostC (cM g) k + 1)))), .ref a11, .int (iI (e12)), .int (iI (e13)), .int (iI (e14)), .ref a15])), (a0, fA cyI 54 (upI (g) (30 + k) (ch / (mostC (cM g) k + 1)))), (a7, fA cyI 3328 le)]) (v := .ref a0) (C := RX8) (T := TX8) (N := 16) hx hb hts (fun _ h => List.mem_cons_of_mem _ (List.mem_append_right _ h)) hown hK.1 hP 0 rfl rfl 0 (by decide) (hts _ fl_X8_chooses_7) (fun _ h9 => h9) rfl dX8_chooses_76 ?_
              refine fp_bipush hx hb dX8_chooses_79 (by decide) ?_
              refine lv_iload_n hx hb dX8_chooses_81 rfl (lv_at hl 4 rfl) ?_
              refine fp_iadd hx hb dX8_chooses_82 ?_
              refine lv_iload hx hb dX8_chooses_83 (lv_at hl 6 rfl) ?_
              refine lv_iload hx hb dX8_chooses_85 (lv_at hl 0 rfl) ?_
              refine fp_irem hx hb (by omega) dX8_chooses_87 ?_
              refine fp_iast (wsC := [(v, .inr (8, [.ref a0, .ref a1, .ref a2, .ref a3, .int (iI (e4)), .ref a5, .int (iI (e6)), .ref a7, .int (iI (p + ch / (mostC (cM g) k + 1) + lenC (cM g) k)), .int (iI (msT (cM g) (cM g (49 + 0)) k p s (ch / (mostC (cM g) k + 1)) (ch % (mostC (cM g) k + 1)))), .int (iI (mcT (cM g) (cM g (49 + 0)) k p s (ch / (mostC (cM g) k + 1)) (ch % (mostC (cM g) k + 1)))), .ref a11, .int (iI (e12)), .int (iI (e13)), .int (iI (e14)), .ref a15])), (a0, fA cyI 54 (upI (g) (30 + k) (ch / (mostC (cM g) k + 1)))), (a7, fA cyI 3328 le)]) hx hb hK hP hD hS 1 rfl (by omega) (by decide) dX8_chooses_88 (fun H locs hP hD hS => ?_)
              have hP : va_P D vwCl [(v, .inr (8, [.ref a0, .ref a1, .ref a2, .ref a3, .int (iI (e4)), .ref a5, .int (iI (e6)), .ref a7, .int (iI (p + ch / (mostC (cM g) k + 1) + lenC (cM g) k)), .int (iI (msT (cM g) (cM g (49 + 0)) k p s (ch / (mostC (cM g) k + 1)) (ch % (mostC (cM g) k + 1)))), .int (iI (mcT (cM g) (cM g (49 + 0)) k p s (ch / (mostC (cM g) k + 1)) (ch % (mostC (cM g) k + 1)))), .ref a11, .int (iI (e12)), .int (iI (e13)), .int (iI (e14)), .ref a15])), (a0, fA cyI 54 (upI (upI (g) (30 + k) (ch / (mostC (cM g) k + 1))) (42 + k) (ch % (mostC (cM g) k + 1)))), (a7, fA cyI 3328 le)] H := hP
              have hD : va_D (fp_A [(v, .inr (8, [.ref a0, .ref a1, .ref a2, .ref a3, .int (iI (e4)), .ref a5, .int (iI (e6)), .ref a7, .int (iI (e8)), .int (iI (e9)), .int (iI (e10)), .ref a11, .int (iI (e12)), .int (iI (e13)), .int (iI (e14)), .ref a15])), (a0, fA cyI 54 m), (a7, fA cyI 3328 le)]) [(v, .inr (8, [.ref a0, .ref a1, .ref a2, .ref a3, .int (iI (e4)), .ref a5, .int (iI (e6)), .ref a7, .int (iI (p + ch / (mostC (cM g) k + 1) + lenC (cM g) k)), .int (iI (msT (cM g) (cM g (49 + 0)) k p s (ch / (mostC (cM g) k + 1)) (ch % (mostC (cM g) k + 1)))), .int (iI (mcT (cM g) (cM g (49 + 0)) k p s (ch / (mostC (cM g) k + 1)) (ch % (mostC (cM g) k + 1)))), .ref a11, .int (iI (e12)), .int (iI (e13)), .int (iI (e14)), .ref a15])), (a0, fA cyI 54 (upI (upI (g) (30 + k) (ch / (mostC (cM g) k + 1))) (42 + k) (ch % (mostC (cM g) k + 1)))), (a7, fA cyI 3328 le)] := hD
              refine lv_aload_n hx hb dX8_chooses_89 rfl (lv_at hl 1 rfl) ?_
              refine va_get (D := D) (ci := 8) (ws := [(v, .inr (8, [.ref a0, .ref a1, .ref a2, .ref a3, .int (iI (e4)), .ref a5, .int (iI (e6)), .ref a7, .int (iI (p + ch / (mostC (cM g) k + 1) + lenC (cM g) k)), .int (iI (msT (cM g) (cM g (49 + 0)) k p s (ch / (mostC (cM g) k + 1)) (ch % (mostC (cM g) k + 1)))), .int (iI (mcT (cM g) (cM g (49 + 0)) k p s (ch / (mostC (cM g) k + 1)) (ch % (mostC (cM g) k + 1)))), .ref a11, .int (iI (e12)), .int (iI (e13)), .int (iI (e14)), .ref a15])), (a0, fA cyI 54 (upI (upI (g) (30 + k) (ch / (mostC (cM g) k + 1))) (42 + k) (ch % (mostC (cM g) k + 1)))), (a7, fA cyI 3328 le)]) (v := .int (iI (p + ch / (mostC (cM g) k + 1) + lenC (cM g) k))) (C := RX8) (T := TX8) (N := 16) hx hb hts (fun _ h => List.mem_cons_of_mem _ (List.mem_append_right _ h)) hown hK.1 hP 0 rfl rfl 8 (by decide) (hts _ fl_X8_chooses_111) (fun _ h9 => h9) rfl dX8_chooses_90 ?_
              refine lv_istore_n (lv' := [(1, .int (iI (p + ch / (mostC (cM g) k + 1) + lenC (cM g) k))), (6, .int (iI (mostC (cM g) k + 1))), (0, .ref v), (2, .int (iI (s))), (3, .int (iI (k))), (4, .int (iI (le (256 * k + 4 * p + s)))), (5, .int (iI (ch)))]) hx hb dX8_chooses_93 rfl hl (by decide) rfl (fun ls hl => ?_)
              refine lv_aload_n hx hb dX8_chooses_94 rfl (lv_at hl 2 rfl) ?_
              refine va_get (D := D) (ci := 8) (ws := [(v, .inr (8, [.ref a0, .ref a1, .ref a2, .ref a3, .int (iI (e4)), .ref a5, .int (iI (e6)), .ref a7, .int (iI (p + ch / (mostC (cM g) k + 1) + lenC (cM g) k)), .int (iI (msT (cM g) (cM g (49 + 0)) k p s (ch / (mostC (cM g) k + 1)) (ch % (mostC (cM g) k + 1)))), .int (iI (mcT (cM g) (cM g (49 + 0)) k p s (ch / (mostC (cM g) k + 1)) (ch % (mostC (cM g) k + 1)))), .ref a11, .int (iI (e12)), .int (iI (e13)), .int (iI (e14)), .ref a15])), (a0, fA cyI 54 (upI (upI (g) (30 + k) (ch / (mostC (cM g) k + 1))) (42 + k) (ch % (mostC (cM g) k + 1)))), (a7, fA cyI 3328 le)]) (v := .int (iI (msT (cM g) (cM g (49 + 0)) k p s (ch / (mostC (cM g) k + 1)) (ch % (mostC (cM g) k + 1))))) (C := RX8) (T := TX8) (N := 16) hx hb hts (fun _ h => List.mem_cons_of_mem _ (List.mem_append_right _ h)) hown hK.1 hP 0 rfl rfl 9 (by decide) (hts _ fl_X8_chooses_117) (fun _ h9 => h9) rfl dX8_chooses_95 ?_
              refine lv_istore_n (lv' := [(2, .int (iI (msT (cM g) (cM g (49 + 0)) k p s (ch / (mostC (cM g) k + 1)) (ch % (mostC (cM g) k + 1))))), (1, .int (iI (p + ch / (mostC (cM g) k + 1) + lenC (cM g) k))), (6, .int (iI (mostC (cM g) k + 1))), (0, .ref v), (3, .int (iI (k))), (4, .int (iI (le (256 * k + 4 * p + s)))), (5, .int (iI (ch)))]) hx hb dX8_chooses_98 rfl hl (by decide) rfl (fun ls hl => ?_)
              refine fp_iinc (k := 4) (lv' := [(3, .int (iI (k + 1))), (2, .int (iI (msT (cM g) (cM g (49 + 0)) k p s (ch / (mostC (cM g) k + 1)) (ch % (mostC (cM g) k + 1))))), (1, .int (iI (p + ch / (mostC (cM g) k + 1) + lenC (cM g) k))), (6, .int (iI (mostC (cM g) k + 1))), (0, .ref v), (4, .int (iI (le (256 * k + 4 * p + s)))), (5, .int (iI (ch)))]) hx hb dX8_chooses_99 hl rfl (by decide) rfl (fun ls hl => ?_)
              refine lv_goto (tgt := 6) hx hb dX8_chooses_102 (by decide) ?_
              exact ih0 (p + ch / (mostC (cM g) k + 1) + lenC (cM g) k) (msT (cM g) (cM g (49 + 0)) k p s (ch / (mostC (cM g) k + 1)) (ch % (mostC (cM g) k + 1))) (k + 1) (upI (upI (g) (30 + k) (ch / (mostC (cM g) k + 1))) (42 + k) (ch % (mostC (cM g) k + 1))) (p + ch / (mostC (cM g) k + 1) + lenC (cM g) k) (msT (cM g) (cM g (49 + 0)) k p s (ch / (mostC (cM g) k + 1)) (ch % (mostC (cM g) k + 1))) (mcT (cM g) (cM g (49 + 0)) k p s (ch / (mostC (cM g) k + 1)) (ch % (mostC (cM g) k + 1))) (by omega) hA2 hC2 hO2 hp2 hs2 hs3 hU2 (by omega) H locs hP hD hS ls (lv_sub hl [4, 2, 1, 0] rfl)
            · skip
              refine fp_iinc (k := 5) (lv' := [(5, .int (iI (ch + 1))), (0, .ref v), (1, .int (iI (p))), (2, .int (iI (s))), (3, .int (iI (k))), (4, .int (iI (le (256 * k + 4 * p + s))))]) hx hb dX8_chooses_46 hl rfl (by decide) rfl (fun ls hl => ?_)
              refine lv_goto (tgt := 32) hx hb dX8_chooses_49 (by decide) ?_
              have hjq : ∀ j9 : Int, 0 ≤ j9 → j9 < ch + 1 → le (256 * k + 4 * p + s) < mwR (cM g) (cM g (49 + 0)) le k p s j9 := fun j9 a1 a2 => by
                by_cases e : j9 = ch
                · rw [e]; exact (by omega)
                · exact jq j9 a1 (by omega)
              have hcb : 0 ≤ ch + 1 ∧ ch + 1 < 2 * (mostC (cM g) k + 1) := ⟨by omega, ch_more (p := p) (s := s) (ch := ch + 1) hC jA hG hkc hLm (by omega) is9 (by rw [← eGG]; exact hjq)⟩
              exact ih2 (ch + 1) (p + ch / (mostC (cM g) k + 1) + lenC (cM g) k) (msT (cM g) (cM g (49 + 0)) k p s (ch / (mostC (cM g) k + 1)) (ch % (mostC (cM g) k + 1))) (mcT (cM g) (cM g (49 + 0)) k p s (ch / (mostC (cM g) k + 1)) (ch % (mostC (cM g) k + 1))) hcb hjq (by omega) H locs hP hD hS ls (lv_sub hl [1, 2, 3, 4, 5, 0] rfl)
        exact lp2 (((2 * (mostC (cM g) k + 1) : Int) + 1 - (0)).toNat) 0 z8 z9 z10 hci (fun j9 a1 a2 => by omega) (by omega) H locs hP hD hS ls hl
  exact lp0 (((m 5 : Int) + 1 - (0)).toNat) 0 0 0 m e8 e9 e10 (by omega) (Agr_rf _) hC (fun j a1 a2 => by omega) rfl (nrm_0 _ _) (by omega) (fun _ _ _ => rfl) (by omega) sx.heap [] hP hD hS ls hl
