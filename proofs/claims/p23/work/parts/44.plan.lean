/-! the table and the choice depend on what agrees alone -/
theorem Agr_bs {g f : Int → Int} (h : Agr g f) {G : Int} : ∀ (m : Nat) (k p s : Int), 0 ≤ k → k + m = f 0 → bsI g G m k p s = bsI f G m k p s := by
  intro m
  induction m with
  | zero =>
    intro k p s _ _
    have h1 := h.2.2 1 (by omega) (by omega)
    have h4 := h.2.2 4 (by omega) (by omega)
    show gfI p G * gcC g = gfI p G * gcC f
    unfold gcC
    rw [h1, h4]
  | succ m ih =>
    intro k p s h0 h1
    have hk : 0 ≤ k ∧ k < f 0 := by omega
    have hl := Agr_len h hk
    show mnB (fun b q => ctV g G k p s b q (bsI g G m (k + 1) (p + lenC g k + b) (sbI g G k p (p + lenC g k + b) s b q))) (mostC g k + 1).toNat 2 = mnB (fun b q => ctV f G k p s b q (bsI f G m (k + 1) (p + lenC f k + b) (sbI f G k p (p + lenC f k + b) s b q))) (mostC f k + 1).toNat 2
    rw [hl.1, hl.2]
    refine mnB_c 2 (fun b i a1 a2 a3 a4 => ?_)
    rw [Agr_ct h hk, Agr_sb h hk, ih (k + 1) _ _ (by omega) (by omega)]
theorem Agr_tr {a b c : Int → Int} (h : Agr a b) (h' : Agr b c) : Agr a c :=
  ⟨h.1.trans h'.1, fun k x y => ⟨(h.2.1 k x (by rw [h'.1]; exact y)).1.trans (h'.2.1 k x y).1, (h.2.1 k x (by rw [h'.1]; exact y)).2.trans (h'.2.1 k x y).2⟩, fun j x y => (h.2.2 j x y).trans (h'.2.2 j x y)⟩
theorem Agr_of {c c' : Int → Int} (h : Same c c') : Agr c c' := Same_Agr (Same_sy h) (Agr_rf c')
theorem Opt_f {f f' g : Int → Int} {G k : Int} (hA : Agr f f') (hk : k ≤ f' 0) (h : Opt f g G k) : Opt f' g G k := by
  have hln : ∀ i : Int, i ≤ f' 0 → lnS f i = lnS f' i := fun i a => sumI_c _ (fun j b c => (Agr_len hA ⟨b, by omega⟩).1)
  have hss : ∀ n : Nat, (n : Int) ≤ f' 0 → ssI f g G n = ssI f' g G n := by
    intro n
    induction n with
    | zero => intro _; rfl
    | succ n ih =>
      intro hn
      show sbI f G n _ _ _ _ _ = sbI f' G n _ _ _ _ _
      rw [Agr_sb hA (by omega), ih (by omega), hln n (by omega), hln ((n : Int) + 1) (by omega)]
  intro j h3 h4
  have h5 := h j h3 h4
  have hj : 0 ≤ j ∧ j < f' 0 := by omega
  have e1 : ∀ p s b q : Int, ctB f G j p s b q = ctB f' G j p s b q := fun p s b q => by
    unfold ctB
    rw [Agr_ct hA hj, (Agr_len hA hj).1, Agr_sb hA hj, hA.1, Agr_bs hA _ (j + 1) _ _ (by omega) (by omega)]
  have e2 := hss j.toNat (by omega)
  rw [(Agr_len hA hj).2, hln j (by omega), e2, hA.1, Agr_bs hA _ j _ _ h3 (by omega), e1] at h5
  refine ⟨h5.1, h5.2.1, fun b q a1 a2 a3 a4 => ?_⟩
  rw [← e1]
  exact h5.2.2 b q a1 a2 a3 a4
theorem Same_cpA {c g : Int → Int} (hA : Agr g c) (hn : g 0 ≤ 12) : Same (cpI c g 0 0 49) g := by
  refine ⟨by rw [cp_lo (by omega)], fun k a b => ?_, fun j a b => ?_⟩
  · rw [cp_lo (by omega)] at b
    rw [cp_lo (by omega), cp_lo (by omega), cp_lo (by omega), cp_lo (by omega)]
    exact ⟨rfl, rfl, rfl, rfl⟩
  · rw [cp_hi (by omega)]
    exact (hA.2.2 j a b).symm
/-! plates that face, and what the cheapest choices cost -/
theorem la_4 {c : Int → Int} (hC : CatOK c) : laC c % 4 = 0 := by
  have hX := hC.2.2
  unfold SetOK at hX
  have h := (la_b hC).2.2.1
  rcases hX.1 with e | e | e <;> rw [e] at h <;> omega
theorem own_k {c : Int → Int} (hC : CatOK c) {p k : Int} (h : ownC c p = k) (hk : 0 ≤ k) : ¬ kindC c p = 0 ∧ ¬ kindC c p = 4 := by
  unfold ownC at h
  split at h
  · omega
  · rename_i h1
    exact ⟨fun z => h1 (Or.inl z), fun z => h1 (Or.inr z)⟩
theorem wh_own {c : Int → Int} (hC : CatOK c) {k : Int} (hk : 0 ≤ k ∧ k < c 0) (hp : ¬ c (k * 4 + 2) = 0) : whC c k = 0 ↔ (¬ othI (ppC c k) (laC c) = -5 ∧ fpC c k ≤ othI (ppC c k) (laC c) ∧ othI (ppC c k) (laC c) ≤ lsC c k) := by
  have ho := oth_rg (ppC c k) (laC c)
  unfold whC
  rw [if_neg hp]
  by_cases q : othI (ppC c k) (laC c) = -5
  · rw [if_pos q]
    exact ⟨fun z => by omega, fun z => absurd q z.1⟩
  · rw [if_neg q]
    have hi := own_iff hC (p := othI (ppC c k) (laC c)) (by omega) hk
    by_cases r : kindC c (othI (ppC c k) (laC c)) = 0 ∨ kindC c (othI (ppC c k) (laC c)) = 4
    · rw [if_pos r]
      refine ⟨fun z => by omega, fun z => ?_⟩
      have h1 := own_k hC (hi.mpr z.2) hk.1
      exact absurd r (fun y => y.elim h1.1 h1.2)
    · rw [if_neg r]
      by_cases s : ownC c (othI (ppC c k) (laC c)) = k
      · rw [if_pos s]
        exact ⟨fun _ => ⟨q, hi.mp s⟩, fun _ => rfl⟩
      · rw [if_neg s]
        exact ⟨fun z => by omega, fun z => absurd (hi.mpr z.2) s⟩
theorem wh_fac {c : Int → Int} (hC : CatOK c) {k : Int} (hk : 0 ≤ k ∧ k < c 0) (hp : ¬ c (k * 4 + 2) = 0) : whC c k = 0 ↔ ¬ facI (ppC c k) (c (k * 4 + 4)) (c (k * 4 + 1)) = 0 := by
  rw [wh_own hC hk hp]
  have hL := lot_f hC hk
  have hb := pp_b hC hk
  have hl := len_rg hC hk
  have h4 := la_4 hC
  have hla := (la_b hC).2.1
  have hi := its_rg hC hk
  have hs := pgC_s (c := c) hk.1
  rw [bI_t hp] at hl
  unfold LotOK at hL
  have e1 : lsC c k = fpC c k + c (k * 4 + 1) := by unfold lsC; omega
  have e2 : ppC c k = fpC c k + c (k * 4 + 4) := rfl
  have e3 : fpC c k + c (k * 4 + 1) ≤ laC c := by unfold fpC; omega
  rw [e1]
  by_cases x : ppC c k % 2 = 0
  · have ef : facI (ppC c k) (c (k * 4 + 4)) (c (k * 4 + 1)) = bI (c (k * 4 + 4) < c (k * 4 + 1)) := by unfold facI; rw [if_pos x]
    rw [ef]
    unfold othI
    by_cases y : ppC c k ≤ 1 ∨ laC c ≤ ppC c k
    · rw [if_pos y, bI_f (by omega)]
      omega
    · rw [if_neg y, if_pos x]
      by_cases z : c (k * 4 + 4) < c (k * 4 + 1)
      · rw [bI_t z]; omega
      · rw [bI_f z]; omega
  · have ef : facI (ppC c k) (c (k * 4 + 4)) (c (k * 4 + 1)) = bI (0 < c (k * 4 + 4)) := by unfold facI; rw [if_neg x]
    rw [ef]
    unfold othI
    by_cases y : ppC c k ≤ 1 ∨ laC c ≤ ppC c k
    · rw [if_pos y, bI_f (by omega)]
      omega
    · rw [if_neg y, if_neg x]
      by_cases z : 0 < c (k * 4 + 4)
      · rw [bI_t z]; omega
      · rw [bI_f z]; omega
theorem sumI_add {f g : Int → Int} : ∀ n : Nat, sumI n f + sumI n g = sumI n (fun k => f k + g k) := by
  intro n
  induction n with
  | zero => rfl
  | succ n ih =>
    show sumI n f + f n + (sumI n g + g n) = sumI n (fun k => f k + g k) + (f n + g n)
    omega
theorem sumI_ptw {f g : Int → Int} : ∀ n : Nat, (∀ k : Int, 0 ≤ k → k < n → f k ≤ g k) → sumI n f ≤ sumI n g ∧ (sumI n g ≤ sumI n f → ∀ k : Int, 0 ≤ k → k < n → f k = g k) := by
  intro n
  induction n with
  | zero => intro _; exact ⟨Int.le_refl _, fun _ k a b => by omega⟩
  | succ n ih =>
    intro h
    have h1 := ih (fun k a b => h k a (by omega))
    have h2 := h n (by omega) (by omega)
    refine ⟨?_, fun z k a b => ?_⟩
    · show sumI n f + f n ≤ sumI n g + g n
      have := h1.1
      omega
    · have z' : sumI n g + g n ≤ sumI n f + f n := z
      have := h1.1
      by_cases e : k = n
      · subst e; omega
      · exact h1.2 (by omega) k a (by omega)
theorem pl_12 {c : Int → Int} (hC : CatOK c) : plC c 1 + plC c 2 = sumI (c 0).toNat (fun k => bI (¬ c (k * 4 + 2) = 0)) := by
  have hN := hC.1
  unfold plC
  rw [sumI_add]
  refine sumI_c _ (fun k a b => ?_)
  have hL := lot_f hC (k := k) (by omega)
  unfold LotOK at hL
  show bI (c (k * 4 + 2) = 1) + bI (c (k * 4 + 2) = 2) = bI (¬ c (k * 4 + 2) = 0)
  have e : c (k * 4 + 2) = 0 ∨ c (k * 4 + 2) = 1 ∨ c (k * 4 + 2) = 2 := by omega
  rcases e with e | e | e
  · rw [bI_f (by omega), bI_f (by omega), bI_f (by omega)]; rfl
  · rw [bI_t e, bI_f (by omega), bI_t (by omega)]; rfl
  · rw [bI_f (by omega), bI_t e, bI_t (by omega)]; rfl
theorem fc_le {c : Int → Int} (hC : CatOK c) : fcC c ≤ plC c 1 + plC c 2 ∧ (plC c 1 + plC c 2 ≤ fcC c ↔ ∀ k : Int, 0 ≤ k → k < c 0 → ¬ c (k * 4 + 2) = 0 → whC c k = 0) := by
  have hN := hC.1
  rw [pl_12 hC]
  unfold fcC
  have h := sumI_ptw (f := fun k => bI (¬ c (k * 4 + 2) = 0 ∧ whC c k = 0)) (g := fun k => bI (¬ c (k * 4 + 2) = 0)) (c 0).toNat (fun k a b => by
    show bI _ ≤ bI _
    by_cases p : c (k * 4 + 2) = 0
    · rw [bI_f (fun z => z.1 p), bI_f (fun z => z p)]; omega
    · rw [bI_t p]
      have := bI_rg (¬ c (k * 4 + 2) = 0 ∧ whC c k = 0)
      omega)
  refine ⟨h.1, fun z k a b p => ?_, fun z => ?_⟩
  · have h2 : bI (¬ c (k * 4 + 2) = 0 ∧ whC c k = 0) = bI (¬ c (k * 4 + 2) = 0) := h.2 z k a (by omega)
    rw [bI_t p] at h2
    have h3 : ¬ c (k * 4 + 2) = 0 ∧ whC c k = 0 := bI_ne (by omega)
    exact h3.2
  · refine Int.le_of_eq (sumI_c _ (fun k a b => ?_))
    show bI (¬ c (k * 4 + 2) = 0) = bI (¬ c (k * 4 + 2) = 0 ∧ whC c k = 0)
    by_cases p : c (k * 4 + 2) = 0
    · rw [bI_f (p := ¬ c (k * 4 + 2) = 0) (fun z => z p), bI_f (fun z => z.1 p)]
    · rw [bI_t p, bI_t ⟨p, z k a (by omega) p⟩]
theorem opt_face {f g : Int → Int} (hC : CatOK f) (hAg : Agr g f) (hCg : CatOK g) {G : Int} (hG : G = 4 ∨ G = 8 ∨ G = 16) (hO : Opt f g G (f 0)) {k : Int} (hk : 0 ≤ k ∧ k < g 0) (hp : ¬ g (k * 4 + 2) = 0) : whC g k = 0 := by
  have hk' : 0 ≤ k ∧ k < f 0 := by rw [← hAg.1]; exact hk
  rw [wh_fac hCg hk hp]
  intro z
  obtain ⟨h1, h2, -⟩ := hO k hk'.1 hk'.2
  have hP := pg_P hAg (k := k) (by omega)
  have hpb := pgC_b hCg (k := k) (by omega)
  have hlt := bs_lt hC (p := pgC g k) (s := ssI f g G k.toNat) hG (k := k) (by omega) (by omega)
  rw [hP] at h2
  rw [← h2] at hlt
  have ha := hAg.2.1 k hk'.1 hk'.2
  have e1 : pgC g k + 1 + g (k * 4 + 3) + g (k * 4 + 4) = ppC g k := by unfold ppC fpC; omega
  unfold ctB ctV at hlt
  rw [e1, ← ha.1, ← ha.2, if_pos ⟨hp, z⟩] at hlt
  omega
/-- no choices by which all plates face cost less than the table says -/
theorem bs_path {c : Int → Int} (hC : CatOK c) {G : Int} (hG : G = 4 ∨ G = 8 ∨ G = 16) (hF : ∀ k : Int, 0 ≤ k → k < c 0 → ¬ c (k * 4 + 2) = 0 → whC c k = 0) : ∀ j : Nat, (j : Int) ≤ c 0 → bsI c G (c 0).toNat 0 0 0 ≤ sumI j (fun i => c (i * 4 + 3)) * c (49 + 3) + sumI j (saP c c G) + bsI c G (c 0 - j).toNat j (pgC c j) (ssI c c G j) := by
  intro j
  induction j with
  | zero =>
    intro _
    show _ ≤ 0 * c (49 + 3) + 0 + bsI c G (c 0 - ((0 : Nat) : Int)).toNat ((0 : Nat) : Int) 0 0
    rw [Int.zero_mul, Int.zero_add, Int.zero_add, show c 0 - ((0 : Nat) : Int) = c 0 by omega]
    exact Int.le_refl _
  | succ j ih =>
    intro hj
    have ih1 := ih (by omega)
    have hk : 0 ≤ (j : Int) ∧ (j : Int) < c 0 := by omega
    have hAg := Agr_rf c
    have hL := lot_f hC hk
    unfold LotOK at hL
    have hM : 0 ≤ c ((j : Int) * 4 + 4) ∧ c ((j : Int) * 4 + 4) ≤ mostC c j := by
      unfold mostC
      split <;> omega
    have hP := pg_P hAg (k := (j : Int)) (by omega)
    have hP1 := pg_P hAg (k := (j : Int) + 1) (by omega)
    have h2 : bsI c G (c 0 - (j : Int)).toNat j (pgC c j) (ssI c c G j) ≤ ctB c G j (pgC c j) (ssI c c G j) (c ((j : Int) * 4 + 3)) (c ((j : Int) * 4 + 4)) := by
      rw [bsI_s hk.2]
      exact (mnB_le 2).2 _ _ (by omega) (by omega) (by omega) (by omega)
    have hn : pgC c (j : Int) + lenC c j + c ((j : Int) * 4 + 3) = pgC c ((j : Int) + 1) := by
      rw [← hP1, lnS_s hk.1, blS_s hk.1]
      omega
    have hs : ssI c c G (j + 1) = sbI c G j (pgC c j) (pgC c ((j : Int) + 1)) (ssI c c G j) (c ((j : Int) * 4 + 3)) (c ((j : Int) * 4 + 4)) := by
      rw [← hP, ← hP1]
      rfl
    have e4 : pgC c j + 1 + c ((j : Int) * 4 + 3) + c ((j : Int) * 4 + 4) = ppC c j := by unfold ppC fpC; omega
    have hnf : ¬ (¬ c ((j : Int) * 4 + 2) = 0 ∧ facI (ppC c j) (c ((j : Int) * 4 + 4)) (c ((j : Int) * 4 + 1)) = 0) := fun z => (wh_fac hC hk z.1).mp (hF j hk.1 hk.2 z.1) z.2
    unfold ctB at h2
    rw [hn, ← hs] at h2
    unfold ctV at h2
    rw [e4, if_neg hnf] at h2
    have e1 : sumI (j + 1) (fun i => c (i * 4 + 3)) = sumI j (fun i => c (i * 4 + 3)) + c ((j : Int) * 4 + 3) := rfl
    have e2 : sumI (j + 1) (saP c c G) = sumI j (saP c c G) + saP c c G j := rfl
    have e3 : saP c c G j = saV c G j (pgC c j) (ssI c c G j) (c ((j : Int) * 4 + 3)) (c ((j : Int) * 4 + 4)) := by
      unfold saP
      rw [Int.toNat_natCast]
    have ec : ((j + 1 : Nat) : Int) = (j : Int) + 1 := rfl
    rw [e1, e2, e3, Int.add_mul, ec]
    omega
theorem bs_cs {c : Int → Int} (hC : CatOK c) (hF : ∀ k : Int, 0 ≤ k → k < c 0 → ¬ c (k * 4 + 2) = 0 → whC c k = 0) : bsI c (c (49 + 0)) (c 0).toNat 0 0 0 ≤ csC c := by
  have hN := hC.1
  have hX := hC.2.2
  unfold SetOK at hX
  have hG := hX.1
  have hAg := Agr_rf c
  have e1 := bs_path hC hG hF (c 0).toNat (by omega)
  have e2 := co_path hAg hC rfl hG (c 0).toNat (by omega)
  have en : (((c 0).toNat : Nat) : Int) = c 0 := by omega
  have e3 : bsI c (c (49 + 0)) (c 0 - (((c 0).toNat : Nat) : Int)).toNat (((c 0).toNat : Nat) : Int) (pgC c (((c 0).toNat : Nat) : Int)) (ssI c c (c (49 + 0)) (c 0).toNat) = gfI (pgC c (c 0)) (c (49 + 0)) * gcC c := by
    rw [en, show (c 0 - c 0).toNat = 0 by omega]
    rfl
  have e4 : coC c = sumI (gaC c).toNat (fun h => inC c h 0 (c 0).toNat + inC c h 1 (c 0).toNat) := by
    unfold coC
    refine sumI_c _ (fun h a b => ?_)
    rw [← in_col hC (g := h) (s := 0) (by omega), ← in_col hC (g := h) (s := 1) (by omega)]
  rw [e3, ← e2, ← e4] at e1
  unfold csC gaC blC
  omega
/-- behind plan(): its lots are those of the cheapest choices -/
theorem sm_Same {c g : Int → Int} (hC : CatOK c) (hA : Agr g c) (h : sameI c g (c 0 * 4).toNat = 1) : Same c g := by
  have hN := hC.1
  have h1 := (sameI_iff (f := c) (g := g) (c 0 * 4).toNat).mp h
  exact ⟨h1 0 (by omega) (by omega), fun k a b => ⟨h1 _ (by omega) (by omega), h1 _ (by omega) (by omega), h1 _ (by omega) (by omega), h1 _ (by omega) (by omega)⟩, fun j a b => (hA.2.2 j a b).symm⟩
theorem plan_ok {c g c2 : Int → Int} {z : Int} (hC : CatOK c ∧ c 0 ≤ 9) (hO : Agr g c ∧ CatOK g ∧ Opt c g (c (49 + 0)) (c 0)) (hz : z = plR c g) (hc : c2 = if 0 ≤ plR c g then cpI c g 0 0 49 else c) : Same g c2 ∧ CatOK c2 ∧ (z = -5 ∨ z = csC c2) ∧ ¬ z = -4 ∧ fcC c2 = plC c2 1 + plC c2 2 ∧ csC c2 = bsI (upI c2 (49 + 0) (c2 (49 + 0))) (c2 (49 + 0)) (c2 0).toNat 0 0 0 ∧ c2 0 = c 0 := by
  obtain ⟨hA, hCg, hOp⟩ := hO
  have hX := hC.1.2.2
  unfold SetOK at hX
  have key : Same g c2 ∧ (z = -5 ∨ z = csC c2) ∧ ¬ z = -4 := by
    by_cases q : sameI c g (c 0 * 4).toNat = 1
    · have e : plR c g = -5 := by unfold plR; rw [if_pos q]
      rw [e, if_neg (by omega)] at hc
      rw [hc]
      exact ⟨Same_sy (sm_Same hC.1 hA q), Or.inl (hz.trans e), by omega⟩
    · have e : plR c g = csC (cpI c g 0 0 49) := by unfold plR; rw [if_neg q]
      have hcp := cpK hC hCg hA.1
      have hnn := cs_nn hcp.1
      rw [e, if_pos hnn.1] at hc
      rw [hc]
      exact ⟨Same_sy (Same_cpA hA hCg.1.2), Or.inr (hz.trans e), by omega⟩
  obtain ⟨hS, hz1, hz2⟩ := key
  have hC2 := Same_Cat hS hCg
  have e0 : c2 0 = c 0 := hS.1.symm.trans hA.1
  have eG : c2 (49 + 0) = c (49 + 0) := (hS.2.2 0 (by omega) (by omega)).symm.trans (hA.2.2 0 (by omega) (by omega))
  have hAg2 : Agr c2 c := Same_Agr hS hA
  refine ⟨hS, hC2, hz1, hz2, ?_, ?_, e0⟩
  · rw [← Same_fc hS hCg, ← Same_pl hS, ← Same_pl hS]
    have h1 := fc_le hCg
    have h2 := h1.2.mpr (fun k a b p => opt_face hC.1 hA hCg hX.1 hOp ⟨a, b⟩ p)
    omega
  · rw [upI_id, ← Same_cs hS hCg, eG, e0, cs_bs hC.1 hA hCg rfl hX.1 hOp]
    exact (Agr_bs hAg2 _ 0 0 0 (by omega) (by have := hC.1.1; omega)).symm
