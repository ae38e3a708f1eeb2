/-! what an act does to the sums -/
theorem lq_0 {c : Int → Int} {k : Int} (hk : 0 ≤ k ∧ k < c 0) : ltR c k 0 = c (k * 4 + 1) := by unfold ltR; rw [if_neg (fun z => z hk)]; rfl
theorem lq_1 {c : Int → Int} {k : Int} (hk : 0 ≤ k ∧ k < c 0) : ltR c k 1 = c (k * 4 + 2) := by unfold ltR; rw [if_neg (fun z => z hk)]; rfl
theorem lq_2 {c : Int → Int} {k : Int} (hk : 0 ≤ k ∧ k < c 0) : ltR c k 2 = c (k * 4 + 3) := by unfold ltR; rw [if_neg (fun z => z hk)]; rfl
theorem lq_3 {c : Int → Int} {k : Int} (hk : 0 ≤ k ∧ k < c 0) : ltR c k 3 = if c (k * 4 + 2) = 0 then -5 else c (k * 4 + 4) := by unfold ltR; rw [if_neg (fun z => z hk)]; rfl
theorem lq_5 {c : Int → Int} {k : Int} (hk : 0 ≤ k ∧ k < c 0) : ltR c k 5 = if c (k * 4 + 2) = 0 then -5 else ppC c k := by unfold ltR; rw [if_neg (fun z => z hk)]; rfl
theorem lq_6 {c : Int → Int} {k : Int} (hk : 0 ≤ k ∧ k < c 0) : ltR c k 6 = bI (whC c k = 0) := by unfold ltR; rw [if_neg (fun z => z hk)]; rfl
theorem mov_1 {a b x : Int} (h : x = b) : movI a b x = a := by unfold movI; rw [if_pos h]
theorem mov_2 {a b x : Int} (h : a ≤ x ∧ x < b) : movI a b x = x + 1 := by unfold movI; rw [if_neg (by omega), if_pos h]
theorem mov_3 {a b x : Int} (h : b < x ∧ x ≤ a) : movI a b x = x - 1 := by unfold movI; rw [if_neg (by omega), if_neg (by omega), if_pos h]
theorem mov_4 {a b x : Int} (h : (x < a ∧ x < b) ∨ (a < x ∧ b < x)) : movI a b x = x := by unfold movI; rw [if_neg (by omega), if_neg (by omega), if_neg (by omega)]
def smR (f : Int → Int) (a b : Int) (m : Nat) : Int := if a ≤ b then (if (m : Int) ≤ a then sumI m f else if (m : Int) ≤ b then sumI (m + 1) f - f a else sumI m f) else if (m : Int) ≤ b then sumI m f else if (m : Int) ≤ a then f a + sumI (m - 1) f else sumI m f
theorem sum_mov {f : Int → Int} {a b : Int} (ha : 0 ≤ a) (hb : 0 ≤ b) : ∀ m : Nat, sumI m (fun i => f (movI a b i)) = smR f a b m := by
  intro m
  induction m with
  | zero =>
    unfold smR
    split
    · rw [if_pos (by omega)]; rfl
    · rw [if_pos (by omega)]; rfl
  | succ m ih =>
    have e : sumI (m + 1) (fun i => f (movI a b i)) = sumI m (fun i => f (movI a b i)) + f (movI a b (m : Int)) := rfl
    have s1 : sumI (m + 1) f = sumI m f + f (m : Int) := rfl
    have s2 : sumI (m + 1 + 1) f = sumI (m + 1) f + f ((m : Int) + 1) := rfl
    have cm : ((m + 1 : Nat) : Int) = (m : Int) + 1 := rfl
    rw [e, ih]
    unfold smR
    rw [cm]
    by_cases h1 : a ≤ b
    · rw [if_pos h1, if_pos h1]
      by_cases c1 : (m : Int) + 1 ≤ a
      · rw [if_pos c1, if_pos (by omega), mov_4 (by omega)]; omega
      · by_cases c2 : (m : Int) + 1 ≤ b
        · rw [if_neg c1, if_pos c2, mov_2 (by omega)]
          by_cases c3 : (m : Int) ≤ a
          · have c4 : (m : Int) = a := by omega
            rw [if_pos c3, ← c4]; omega
          · rw [if_neg c3, if_pos (by omega)]; omega
        · rw [if_neg c1, if_neg c2]
          by_cases c3 : (m : Int) = b
          · rw [mov_1 c3]
            by_cases c4 : (m : Int) ≤ a
            · have c5 : (m : Int) = a := by omega
              rw [if_pos c4, ← c5]; omega
            · rw [if_neg c4, if_pos (by omega)]; omega
          · rw [mov_4 (by omega), if_neg (by omega), if_neg (by omega)]; omega
    · rw [if_neg h1, if_neg h1]
      by_cases c1 : (m : Int) + 1 ≤ b
      · rw [if_pos c1, if_pos (by omega), mov_4 (by omega)]; omega
      · rw [if_neg c1]
        by_cases c2 : (m : Int) + 1 ≤ a
        · rw [if_pos c2]
          show _ = f a + sumI m f
          by_cases c3 : (m : Int) = b
          · rw [if_pos (by omega), mov_1 c3]; omega
          · rw [if_neg (by omega), if_pos (by omega), mov_3 (by omega)]
            obtain ⟨j, rfl⟩ : ∃ j : Nat, m = j + 1 := ⟨m - 1, by omega⟩
            have s3 : sumI (j + 1) f = sumI j f + f (j : Int) := rfl
            rw [show (((j + 1 : Nat) : Int) - 1) = (j : Int) by omega]
            show f a + sumI j f + f (j : Int) = _
            omega
        · rw [if_neg c2]
          by_cases c3 : (m : Int) = a
          · rw [if_neg (by omega), if_pos (by omega), mov_3 (by omega)]
            obtain ⟨j, rfl⟩ : ∃ j : Nat, m = j + 1 := ⟨m - 1, by omega⟩
            have s3 : sumI (j + 1) f = sumI j f + f (j : Int) := rfl
            rw [show (((j + 1 : Nat) : Int) - 1) = (j : Int) by omega, ← c3]
            show f ((j + 1 : Nat) : Int) + sumI j f + f (j : Int) = _
            omega
          · rw [if_neg (by omega), if_neg (by omega), mov_4 (by omega)]; omega
theorem sum_mvn {f : Int → Int} {a b n : Int} (ha : 0 ≤ a ∧ a < n) (hb : 0 ≤ b ∧ b < n) : sumI n.toNat (fun i => f (movI a b i)) = sumI n.toNat f := by
  rw [sum_mov ha.1 hb.1]
  unfold smR
  split
  · rw [if_neg (by omega), if_neg (by omega)]
  · rw [if_neg (by omega), if_neg (by omega)]
theorem its_sh {c : Int → Int} {a b k : Int} (hk : 0 ≤ k ∧ k < 12) : itsC (shL c a b) k = itsC c (movI a b k) := by
  unfold itsC lenC
  rw [sh_at hk (by omega), sh_at hk (by omega), sh_at hk (by omega)]
theorem pg_sh {c : Int → Int} (hC : CatOK c) {a b : Int} (ha : 0 ≤ a ∧ a < c 0) (hb : 0 ≤ b ∧ b < c 0) : pgC (shL c a b) (shL c a b 0) = pgC c (c 0) ∧ blC (shL c a b) = blC c := by
  have hN := hC.1
  have e0 : shL c a b 0 = c 0 := sh_n (by omega)
  constructor
  · rw [e0]
    exact (sumI_c _ (fun k h1 h2 => its_sh (by omega))).trans (sum_mvn (f := itsC c) ha hb)
  · unfold blC
    rw [e0]
    exact (sumI_c _ (fun k h1 h2 => sh_at (by omega) (by omega))).trans (sum_mvn (f := fun k => c (k * 4 + 3)) ha hb)
theorem pg_rm {c : Int → Int} (hC : CatOK c) {k : Int} (hk : 0 ≤ k ∧ k < c 0) : pgC (rmC c k) (rmC c k 0) = pgC c (c 0) - itsC c k := by
  have hN := hC.1
  have e0 : rmC c k 0 = c 0 - 1 := upI_s rfl
  have e1 : sumI (c 0 - 1).toNat (itsC (rmC c k)) = sumI (c 0 - 1).toNat (fun i => itsC c (movI k (c 0 - 1) i)) := sumI_c _ (fun i h1 h2 => by
    rw [← its_sh (c := c) (a := k) (b := c 0 - 1) (k := i) (by omega)]
    unfold itsC lenC rmC
    rw [upI_n (by omega), upI_n (by omega), upI_n (by omega)])
  have e2 : sumI (c 0).toNat (itsC c) = sumI (c 0 - 1).toNat (itsC c) + itsC c (c 0 - 1) := by
    have h := sumI_s (itsC c) (show 0 ≤ c 0 - 1 by omega)
    rw [show c 0 - 1 + 1 = c 0 by omega] at h
    exact h
  have e3 : sumI ((c 0 - 1).toNat + 1) (itsC c) = sumI (c 0).toNat (itsC c) := by rw [show (c 0 - 1).toNat + 1 = (c 0).toNat by omega]
  unfold pgC
  rw [e0, e1, sum_mov hk.1 (by omega)]
  unfold smR
  rw [if_pos (by omega)]
  by_cases q : k = c 0 - 1
  · rw [if_pos (by omega), e2, q]; omega
  · rw [if_neg (by omega), if_pos (by omega), e3]
theorem pg_ap {c : Int → Int} (hC : CatOK c) (h8 : c 0 < 12) {t p : Int} : appL c t p 0 0 0 = c 0 + 1 ∧ pgC (appL c t p 0 0) (appL c t p 0 0 0) = pgC c (c 0) + t + bI (¬ p = 0) ∧ blC (appL c t p 0 0) = blC c := by
  have hN := hC.1
  have e : appL c t p 0 0 = upI (putL c (c 0) t p 0 0) 0 (c 0 + 1) := by unfold appL; exact if_pos h8
  have e0 : appL c t p 0 0 0 = c 0 + 1 := by rw [e, upI_s rfl]
  have en : ∀ j : Int, 1 ≤ j → j ≤ c 0 * 4 → appL c t p 0 0 j = c j := fun j h1 h2 => by rw [e, upI_n (by omega), put_n (by omega)]
  have ea : ∀ o : Int, 1 ≤ o → appL c t p 0 0 (c 0 * 4 + o) = putL c (c 0) t p 0 0 (c 0 * 4 + o) := fun o h1 => by rw [e, upI_n (by omega)]
  have hp := put_at (c := c) (k := c 0) (t := t) (p := p) (b := 0) (q := 0)
  refine ⟨e0, ?_, ?_⟩
  · unfold pgC
    rw [e0, sumI_s _ hN.1]
    have e1 : sumI (c 0).toNat (itsC (appL c t p 0 0)) = sumI (c 0).toNat (itsC c) := sumI_c _ (fun k h1 h2 => by
      unfold itsC lenC
      rw [en _ (by omega) (by omega), en _ (by omega) (by omega), en _ (by omega) (by omega)])
    have e2 : itsC (appL c t p 0 0) (c 0) = t + bI (¬ p = 0) := by
      unfold itsC lenC
      rw [ea 3 (by omega), ea 1 (by omega), ea 2 (by omega), hp.1, hp.2.1, hp.2.2.1]
      omega
    rw [e1, e2]
    omega
  · unfold blC
    rw [e0, sumI_s _ hN.1, ea 3 (by omega), hp.2.2.1, Int.add_zero]
    exact sumI_c _ (fun k h1 h2 => en _ (by omega) (by omega))
theorem ch_at {c : Int → Int} (hC : CatOK c) {k t p : Int} (hk : 0 ≤ k ∧ k < c 0) : chC c k t p 0 = c 0 ∧ chC c k t p (k * 4 + 1) = t ∧ chC c k t p (k * 4 + 2) = p ∧ blC (chC c k t p) = blC c ∧ chC c k t p (k * 4 + 4) = (if p = 0 then 0 else min (c (k * 4 + 4)) t) := by
  have h := put_at (c := c) (k := k) (t := t) (p := p) (b := c (k * 4 + 3)) (q := if p = 0 then 0 else min (c (k * 4 + 4)) t)
  have e0 : chC c k t p 0 = c 0 := put_n (by omega)
  refine ⟨e0, h.1, h.2.1, ?_, h.2.2.2⟩
  unfold blC
  rw [e0]
  refine sumI_c _ (fun i h1 h2 => ?_)
  by_cases q : i = k
  · rw [q]; exact h.2.2.1
  · exact put_n (by omega)
theorem pg_up {c : Int → Int} (hC : CatOK c) {w v : Int} (hw : 0 ≤ w) : upI c (49 + w) v 0 = c 0 ∧ pgC (upI c (49 + w) v) (upI c (49 + w) v 0) = pgC c (c 0) := by
  have hN := hC.1
  have e0 : upI c (49 + w) v 0 = c 0 := upI_n (by omega)
  refine ⟨e0, ?_⟩
  rw [e0]
  refine sumI_c _ (fun k h1 h2 => ?_)
  unfold itsC lenC
  rw [upI_n (by omega), upI_n (by omega), upI_n (by omega)]
theorem cho_id {c : Int → Int} {k b q : Int} (hb : c (k * 4 + 3) = b) (hq : c (k * 4 + 4) = q) : choL c k b q = c := by
  unfold choL
  rw [← hb, upI_id, ← hq, upI_id]
theorem pg_nn {c : Int → Int} (hC : CatOK c) : 0 ≤ pgC c (c 0) ∧ pgC c (c 0) ≤ 60 := by
  have hN := hC.1
  have := pgC_b hC (k := c 0) (by omega)
  omega
theorem bl_nn {c : Int → Int} (hC : CatOK c) : 0 ≤ blC c ∧ blC c ≤ 12 := by
  have hN := hC.1
  have h := sumI_b (f := fun k => c (k * 4 + 3)) (lo := 0) (hi := 1) (c 0).toNat (fun k a b => by
    have h5 := lot_f hC (k := k) (by omega)
    unfold LotOK at h5
    omega)
  unfold blC
  omega
theorem pl_nn {c : Int → Int} (hC : CatOK c) : (0 ≤ plC c 1 ∧ 0 ≤ plC c 2) ∧ plC c 1 + plC c 2 ≤ 24 := by
  have hN := hC.1
  have h1 := sumI_b (f := fun k => bI (c (k * 4 + 2) = 1)) (lo := 0) (hi := 1) (c 0).toNat (fun k a b => bI_rg _)
  have h2 := sumI_b (f := fun k => bI (c (k * 4 + 2) = 2)) (lo := 0) (hi := 1) (c 0).toNat (fun k a b => bI_rg _)
  unfold plC
  omega
theorem fc_nn {c : Int → Int} (hC : CatOK c) : 0 ≤ fcC c ∧ fcC c ≤ 12 := by
  have hN := hC.1
  have h1 := sumI_b (f := fun k => bI (¬ c (k * 4 + 2) = 0 ∧ whC c k = 0)) (lo := 0) (hi := 1) (c 0).toNat (fun k a b => bI_rg _)
  unfold fcC
  omega
