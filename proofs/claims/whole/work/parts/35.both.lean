/-! what the two keep in common -/
def HR (d d8 : Int → Int) (n : Int) : Prop := ∀ i : Int, 0 ≤ i → i < n → CatOK (shfI d (i * 54)) ∧ Same (shfI d (i * 54)) (cM (shfI d8 (i * 54)))
theorem Same_54 {a b : Int → Int} (h : ∀ j : Int, 0 ≤ j → j < 54 → a j = b j) (hn : a 0 ≤ 12) : Same a b :=
  ⟨h 0 (by omega) (by omega), fun k x y => ⟨h _ (by omega) (by omega), h _ (by omega) (by omega), h _ (by omega) (by omega), h _ (by omega) (by omega)⟩, fun j x y => h _ (by omega) (by omega)⟩
theorem HR_one {a a0 b b0 : Int → Int} (ha : ∀ j : Int, 0 ≤ j → j < 54 → a j = a0 j) (hb : ∀ j : Int, 0 ≤ j → j < 54 → b j = b0 j) (hC : CatOK a0) (hS : Same a0 (cM b0)) : CatOK a ∧ Same a (cM b) := by
  have h1 : Same a0 a := Same_54 (fun j x y => (ha j x y).symm) hC.1.2
  have h2 : Same (cM b0) (cM b) := Same_ce hb (by have := hS.1; rw [cM_0] at this; have := hC.1.2; omega)
  exact ⟨Same_Cat h1 hC, Same_tr (Same_sy h1) (Same_tr hS h2)⟩
theorem HR_rec {d d8 c m : Int → Int} {n : Int} (h : HR d d8 n) (hn : 0 ≤ n ∧ n ≤ 4) (hC : CatOK c) (hS : Same c (cM m)) : HR (recH d c n) (recH d8 m n) (recN n) := by
  intro i h1 h2
  unfold recN at h2
  unfold recH
  by_cases q : 4 ≤ n
  · rw [if_pos q] at h2
    rw [if_pos q, if_pos q]
    by_cases e : i = 3
    · refine HR_one (a0 := c) (b0 := m) (fun j x y => ?_) (fun j x y => ?_) hC hS
      · unfold shfI
        rw [cpI_in (by omega)]
        congr 1
        omega
      · unfold shfI
        rw [cpI_in (by omega)]
        congr 1
        omega
    · have h3 := h (i + 1) (by omega) (by omega)
      refine HR_one (a0 := shfI d ((i + 1) * 54)) (b0 := shfI d8 ((i + 1) * 54)) (fun j x y => ?_) (fun j x y => ?_) h3.1 h3.2
      · unfold shfI
        rw [cpI_out (by omega), cpI_in (by omega)]
        congr 1
        omega
      · unfold shfI
        rw [cpI_out (by omega), cpI_in (by omega)]
        congr 1
        omega
  · rw [if_neg q] at h2
    rw [if_neg q, if_neg q]
    by_cases e : i = n
    · refine HR_one (a0 := c) (b0 := m) (fun j x y => ?_) (fun j x y => ?_) hC hS
      · unfold shfI
        rw [cpI_in (by omega)]
        congr 1
        omega
      · unfold shfI
        rw [cpI_in (by omega)]
        congr 1
        omega
    · have h3 := h i (by omega) (by omega)
      refine HR_one (a0 := shfI d (i * 54)) (b0 := shfI d8 (i * 54)) (fun j x y => ?_) (fun j x y => ?_) h3.1 h3.2
      · unfold shfI
        rw [cpI_out (by omega)]
      · unfold shfI
        rw [cpI_out (by omega)]
theorem recN_rg {n : Int} (hn : 0 ≤ n ∧ n ≤ 4) : 0 ≤ recN n ∧ recN n ≤ 4 := by
  unfold recN
  split <;> omega
/-- an act, done or refused -/
theorem act_ok {c m g2 : Int → Int} {R R' : Int} {N N' : Int → Int} (hC : CatOK c) (hS : Same c (cM m)) (eR : R = R') (hN : 0 ≤ R → CatOK N ∧ Same N N') (hp : Same (if 0 ≤ R' then N' else cM m) (cM g2)) : CatOK (if 0 ≤ R then N else c) ∧ Same (if 0 ≤ R then N else c) (cM g2) := by
  subst eR
  by_cases q : 0 ≤ R
  · rw [if_pos q] at hp
    rw [if_pos q]
    exact ⟨(hN q).1, Same_tr (hN q).2 hp⟩
  · rw [if_neg q] at hp
    rw [if_neg q]
    exact ⟨hC, Same_tr hS hp⟩
theorem act_h {d d8 c m : Int → Int} {n R R' : Int} (h : HR d d8 n) (hn : 0 ≤ n ∧ n ≤ 4) (hC : CatOK c) (hS : Same c (cM m)) (eR : R = R') : HR (if 0 ≤ R then recH d c n else d) (if 0 ≤ R' then recH d8 m n else d8) (if 0 ≤ R then recN n else n) ∧ (0 ≤ (if 0 ≤ R then recN n else n) ∧ (if 0 ≤ R then recN n else n) ≤ 4) ∧ (if 0 ≤ R' then recN n else n) = (if 0 ≤ R then recN n else n) := by
  subst eR
  by_cases q : 0 ≤ R
  · rw [if_pos q, if_pos q, if_pos q]
    exact ⟨HR_rec h hn hC hS, recN_rg hn, rfl⟩
  · rw [if_neg q, if_neg q, if_neg q]
    exact ⟨h, hn, rfl⟩
theorem adN {c c' : Int → Int} (hC : CatOK c) (hS : Same c c') {t p : Int} (h : 0 ≤ adR c t p) : CatOK (appL c t p 0 0) ∧ Same (appL c t p 0 0) (appL c' t p 0 0) := by
  have hN := hC.1
  unfold adR at h
  split at h
  · omega
  · rename_i h1
    split at h
    · omega
    · have h2 : (1 ≤ t ∧ t ≤ 3) ∧ (0 ≤ p ∧ p ≤ 2) := Decidable.byContradiction h1
      exact ⟨Cat_app hC (by omega) ⟨by omega, by omega, by omega, by omega, by omega, by omega, by omega, by omega, fun _ => rfl⟩, Same_app hS hN.1⟩
theorem rmN {c c' : Int → Int} (hC : CatOK c) (hS : Same c c') {k : Int} (h : 0 ≤ rmR c k) : CatOK (rmC c k) ∧ Same (rmC c k) (rmC c' k) := by
  unfold rmR at h
  by_cases q : 0 ≤ k ∧ k < c 0
  · exact ⟨Cat_rm hC q, Same_rm hS hC.1.2 q⟩
  · rw [if_pos q] at h; omega
theorem chN {c c' : Int → Int} (hC : CatOK c) (hS : Same c c') {k t p : Int} (h : 0 ≤ chR c k t p) : CatOK (chC c k t p) ∧ Same (chC c k t p) (chC c' k t p) := by
  unfold chR at h
  by_cases q : 0 ≤ k ∧ k < c 0
  · rw [if_neg (fun z => z q)] at h
    by_cases r : (1 ≤ t ∧ t ≤ 3) ∧ (0 ≤ p ∧ p ≤ 2)
    · exact ⟨Cat_ch hC q r, Same_ch hS hC.1.2 q⟩
    · rw [if_pos r] at h; omega
  · rw [if_pos q] at h; omega
theorem mvN {c c' : Int → Int} (hC : CatOK c) (hS : Same c c') {a b : Int} (h : 0 ≤ mvR c a b) : CatOK (shL c a b) ∧ Same (shL c a b) (shL c' a b) := by
  unfold mvR at h
  by_cases q : (0 ≤ a ∧ a < c 0) ∧ (0 ≤ b ∧ b < c 0)
  · exact ⟨Cat_sh hC q.1 q.2, Same_sh hS hC.1.2 q.1 q.2⟩
  · rw [if_pos q] at h; omega
theorem coN {c c' : Int → Int} (hC : CatOK c) (hS : Same c c') {k b q : Int} (hb : 0 ≤ b ∧ b ≤ 1) (h : 0 ≤ coR c k b q) : CatOK (choL c k b q) ∧ Same (choL c k b q) (choL c' k b q) := by
  have hN := hC.1
  unfold coR at h
  by_cases r : 0 ≤ k ∧ k < c 0
  · rw [if_neg (fun z => z r)] at h
    by_cases s : 0 ≤ q ∧ q ≤ mostC c k
    · exact ⟨Cat_cho hC r hb s, Same_cho hS hN.2 (by omega)⟩
    · rw [if_pos s] at h; omega
  · rw [if_pos r] at h; omega
theorem stN {c c' : Int → Int} (hC : CatOK c) (hS : Same c c') {w v : Int} (h : 0 ≤ stR c w v) : CatOK (upI c (49 + w) v) ∧ Same (upI c (49 + w) v) (upI c' (49 + w) v) := by
  unfold stR at h
  by_cases r : 0 ≤ w ∧ w ≤ 4
  · rw [if_neg (fun z => z r)] at h
    by_cases s : (w = 0 ∧ (v = 4 ∨ v = 8 ∨ v = 16)) ∨ (¬ w = 0 ∧ 0 ≤ v ∧ (v ≤ 99 ∨ (w = 4 ∧ v ≤ 999)))
    · exact ⟨Cat_st hC r s, Same_up hS r hC.1.2⟩
    · rw [if_pos s] at h; omega
  · rw [if_pos r] at h; omega
theorem ldN {c c' x rc : Int → Int} {n : Int} (hC : CatOK c) (hS : Same c c') : CatOK (cpI c (flC x n 61 0 (upI rc 0 0)) 0 0 49) ∧ Same (cpI c (flC x n 61 0 (upI rc 0 0)) 0 0 49) (cpI c' (flC x n 61 0 (upI rc 0 0)) 0 0 49) := by
  have hL := flC_ok (x := x) (n := n) 61 0 _ (Lots_0 rc)
  exact ⟨Cat_cp hC hL.1 hL.2, Same_cp hS (Same_rf _) hL.1.2⟩
theorem plU {c m g g3 : Int → Int} (hC : CatOK c) (hS : Same c (cM m)) (hA : Agr g c) (hO : Opt c g (c (49 + 0)) (c 0)) (hA3 : Agr (cM g3) (cM m)) (hO3 : Opt (cM m) (cM g3) (cM m (49 + 0)) (cM m 0)) : Same g (cM g3) := by
  have hN := hC.1
  have h1 := Opt_f (Agr_of hS) (by rw [hS.1]; omega) hO
  rw [(Same_set hS).1, hS.1] at h1
  have hn : (((cM m 0).toNat : Nat) : Int) = cM m 0 := by have := hS.1; omega
  have h2 := Opt_u (cM m 0).toNat (by rw [hn]; exact h1) (by rw [hn]; exact hO3)
  have hA2 := Agr_tr hA (Agr_of hS)
  refine ⟨hA2.1.trans hA3.1.symm, fun k a b => ?_, fun j a b => (hA2.2.2 j a b).trans (hA3.2.2 j a b).symm⟩
  rw [hA2.1] at b
  have h3 := hA2.2.1 k a b
  have h4 := hA3.2.1 k a b
  have h5 := h2 k a (by omega)
  exact ⟨h3.1.trans h4.1.symm, h3.2.trans h4.2.symm, h5.1, h5.2⟩
theorem sm_eq {c c' g g' : Int → Int} (hS : Same c c') (hg : Same g g') (h0 : g 0 = c 0) (hn : 0 ≤ c 0) : sameI c g (c 0 * 4).toNat = sameI c' g' (c' 0 * 4).toNat := by
  have key : ∀ {a a' b b' : Int → Int}, Same a a' → Same b b' → b 0 = a 0 → 0 ≤ a 0 → sameI a b (a 0 * 4).toNat = 1 → sameI a' b' (a' 0 * 4).toNat = 1 := by
    intro a a' b b' ha hb e hn h
    rw [same_iff] at h ⊢
    intro j x y
    rw [← ha.1] at y
    have h1 := h j x y
    by_cases z : j = 0
    · rw [z, ← ha.1, ← hb.1]; exact e.symm
    · have h2 := ha.2.1 ((j - 1) / 4) (by omega) (by omega)
      have h3 := hb.2.1 ((j - 1) / 4) (by omega) (by omega)
      have h4 : j = (j - 1) / 4 * 4 + 1 ∨ j = (j - 1) / 4 * 4 + 2 ∨ j = (j - 1) / 4 * 4 + 3 ∨ j = (j - 1) / 4 * 4 + 4 := by omega
      rcases h4 with h4 | h4 | h4 | h4
      · rw [h4] at h1 ⊢; rw [← h2.1, ← h3.1]; exact h1
      · rw [h4] at h1 ⊢; rw [← h2.2.1, ← h3.2.1]; exact h1
      · rw [h4] at h1 ⊢; rw [← h2.2.2.1, ← h3.2.2.1]; exact h1
      · rw [h4] at h1 ⊢; rw [← h2.2.2.2, ← h3.2.2.2]; exact h1
  have h1 := sameI_01 c g (c 0 * 4).toNat
  have h2 := sameI_01 c' g' (c' 0 * 4).toNat
  have k1 := key hS hg h0 hn
  have k2 := key (Same_sy hS) (Same_sy hg) (by rw [← hg.1, ← hS.1]; exact h0) (by rw [← hS.1]; exact hn)
  omega
theorem plN {c m g g3 : Int → Int} (hC : CatOK c) (hS : Same c (cM m)) (hg : Same g (cM g3)) (hCg : CatOK g) (h0 : g 0 = c 0) : plR c g = plR (cM m) (cM g3) ∧ CatOK (cpI c g 0 0 49) ∧ Same (cpI c g 0 0 49) (cpI (cM m) (cM g3) 0 0 49) := by
  have h1 := Same_cp hS hg hCg.1.2
  have h2 := Cat_cp hC hCg.1 hCg.2.1
  refine ⟨?_, h2, h1⟩
  unfold plR
  rw [sm_eq hS hg h0 hC.1.1, Same_cs h1 h2]
theorem lcN {c m g : Int → Int} (hC : CatOK c) (hS : Same c (cM m)) {sz : Int} (hz : sz = 4 ∨ sz = 8 ∨ sz = 16) (hA : Agr g (upI c (49 + 0) sz)) (hCg : CatOK g) (hO : Opt (upI c (49 + 0) sz) g sz (c 0)) : csC g = bsI (upI (cM m) (49 + 0) sz) sz (cM m 0).toNat 0 0 0 := by
  have hN := hC.1
  have e0 : upI c (49 + 0) sz 0 = c 0 := upI_n (by omega)
  have h1 := cs_bs (Cat_sz hC hz) hA hCg (G := sz) (upI_s rfl) hz (by rw [e0]; exact hO)
  rw [h1, e0, ← hS.1]
  exact Agr_bs (Agr_of (Same_up hS (w := 0) (v := sz) (by omega) hN.2)) _ 0 0 0 (by omega) (by rw [upI_n (by omega), ← hS.1]; omega)
/-! the script's numbers -/
def scI (xs : Nat → Int32) (k : Int) : Int := (xs k.toNat).toInt
theorem scI_rg (xs : Nat → Int32) (k : Int) : -2147483648 ≤ scI xs k ∧ scI xs k ≤ 2147483647 := iI_rg _
def chrI (a : Int) : Int := ((iI a).toUInt32 % 65536).toInt32.toInt
theorem chrI_rg (a : Int) : 0 ≤ chrI a ∧ chrI a ≤ 65535 := by
  have h : ((iI a).toUInt32 % 65536).toNat < 65536 := by
    rw [UInt32.toNat_mod]
    exact Nat.mod_lt _ (by decide)
  have e : chrI a = (((iI a).toUInt32 % 65536).toNat : Int) := by
    show ((iI a).toUInt32 % 65536).toBitVec.toInt = _
    rw [BitVec.toInt_eq_toNat_of_lt]
    · rfl
    · show 2 * ((iI a).toUInt32 % 65536).toNat < _
      omega
  omega
