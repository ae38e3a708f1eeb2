/-! what the cheapest choices cost: told by the table, told by the pages -/
theorem ai_or {a b t : Int} (ha : 0 ≤ a ∧ a ≤ 3) (hb : 0 ≤ b ∧ b ≤ 3) (ht : t = 0 ∨ t = 1) : ¬ andI (orI a b) (t + 1) = 0 ↔ (¬ andI a (t + 1) = 0 ∨ ¬ andI b (t + 1) = 0) := by
  have h1 : a = 0 ∨ a = 1 ∨ a = 2 ∨ a = 3 := by omega
  have h2 : b = 0 ∨ b = 1 ∨ b = 2 ∨ b = 3 := by omega
  rcases ht with rfl | rfl <;> rcases h1 with rfl | rfl | rfl | rfl <;> rcases h2 with rfl | rfl | rfl | rfl <;> decide
theorem ai_bit {x t : Int} (ht : t = 0 ∨ t = 1) : ¬ andI (bitI x) (t + 1) = 0 ↔ bI (2 ≤ x % 4) = t := by
  have h := bI_01 (2 ≤ x % 4)
  unfold bitI
  rcases h with h | h <;> rw [h] <;> rcases ht with rfl | rfl <;> decide
theorem ai_0 {t : Int} (ht : t = 0 ∨ t = 1) : andI 0 (t + 1) = 0 := by rcases ht with rfl | rfl <;> decide
theorem pg_P {f g : Int → Int} (hAg : Agr g f) {k : Int} (hk : 0 ≤ k ∧ k ≤ f 0) : lnS f k + blS g k = pgC g k := by
  obtain ⟨n, rfl⟩ := Int.eq_ofNat_of_zero_le hk.1
  rw [pgC_ln n]
  have e : lnS f n = lnS g n := sumI_c _ (fun j a b => (Agr_len hAg ⟨a, by omega⟩).1.symm)
  rw [e]
theorem in_old {g : Int → Int} (hC : CatOK g) {G : Int} (eG : g (49 + 0) = G) (hG : G = 4 ∨ G = 8 ∨ G = 16) {h t : Int} {k : Nat} (hk : (k : Int) ≤ g 0) (hh : gI G (pgC g k + 1) < h) : ¬ inC g h t k = 1 := by
  intro z
  obtain ⟨j, h1, h2, h3, h4, h5⟩ := (inC_iff g h t k).mp z
  have hp := pp_b hC (k := j) (by omega)
  have hm : pgC g (j + 1) ≤ pgC g k := sumI_le (f := itsC g) (by omega) (by omega) (fun i a b => by have := its_rg hC (k := i) (by omega); omega)
  have h6 := gI_m hG (x := ppC g j) (y := pgC g k + 1) (by have := hp.2.2.2.2 (by omega); omega)
  rw [eG] at h4
  unfold gI at *
  omega
theorem in_ne {g : Int → Int} {h t : Int} {k : Nat} (hc : ¬ (g ((k : Int) * 4 + 2) = 2 ∧ (ppC g (k : Int) - 1) / g (49 + 0) = h ∧ bI (2 ≤ ppC g (k : Int) % 4) = t)) : inC g h t (k + 1) = inC g h t k := by
  have h1 := inC_01 g h t k
  show (if inC g h t k = 1 ∨ _ then (1 : Int) else 0) = _
  by_cases q : inC g h t k = 1
  · rw [if_pos (Or.inl q), q]
  · rw [if_neg (fun z => z.elim q hc)]
    omega
theorem st_in {f g : Int → Int} (hAg : Agr g f) (hC : CatOK g) {G : Int} (eG : g (49 + 0) = G) (hG : G = 4 ∨ G = 8 ∨ G = 16) : ∀ k : Nat, (k : Int) ≤ g 0 → ∀ t : Int, t = 0 ∨ t = 1 → (¬ andI (ssI f g G k) (t + 1) = 0 ↔ inC g (gI G (pgC g k + 1)) t k = 1) := by
  have hN := hC.1
  intro k
  induction k with
  | zero =>
    intro _ t ht
    have e1 : ssI f g G 0 = 0 := rfl
    have e2 : inC g (gI G (pgC g ((0 : Nat) : Int) + 1)) t 0 = 0 := rfl
    rw [e1, e2, ai_0 ht]
    omega
  | succ k ih =>
    intro hk t ht
    have hk' : 0 ≤ (k : Int) ∧ (k : Int) < g 0 := by omega
    have ih1 := ih (by omega) t ht
    have hp := pp_b hC hk'
    have hL := lot_f hC hk'
    have hi := its_rg hC hk'
    have hs := pgC_s (c := g) hk'.1
    unfold LotOK at hL
    have hSr := ssI_rg f g G k
    have e0 : f ((k : Int) * 4 + 2) = g ((k : Int) * 4 + 2) := (hAg.2.1 k hk'.1 (by rw [← hAg.1]; omega)).2.symm
    have ecast : (((k + 1 : Nat) : Int)) = (k : Int) + 1 := rfl
    have eS : ssI f g G (k + 1) = sbI f G k (pgC g k) (pgC g ((k : Int) + 1)) (ssI f g G k) (g ((k : Int) * 4 + 3)) (g ((k : Int) * 4 + 4)) := by
      rw [← pg_P hAg (k := (k : Int)) (by rw [← hAg.1]; omega), ← pg_P hAg (k := (k : Int) + 1) (by rw [← hAg.1]; omega)]
      rfl
    have epl : pgC g k + 1 + g ((k : Int) * 4 + 3) + g ((k : Int) * 4 + 4) = ppC g k := by
      unfold ppC fpC
      omega
    have hm1 := gI_m hG (x := pgC g k + 1) (y := pgC g ((k : Int) + 1) + 1) (by omega)
    have hA : ¬ andI (sdI G (pgC g k + 1) (ssI f g G k) (pgC g ((k : Int) + 1) + 1)) (t + 1) = 0 ↔ inC g (gI G (pgC g ((k : Int) + 1) + 1)) t k = 1 := by
      unfold sdI
      by_cases e1 : gI G (pgC g k + 1) = gI G (pgC g ((k : Int) + 1) + 1)
      · rw [if_pos e1, ← e1]
        exact ih1
      · rw [if_neg e1, ai_0 ht]
        have := in_old hC eG hG (t := t) (k := k) (h := gI G (pgC g ((k : Int) + 1) + 1)) (by omega) (by omega)
        exact ⟨fun z => absurd rfl z, fun z => absurd z this⟩
    have hsd := sd_rg (G := G) (a := pgC g k + 1) (b := pgC g ((k : Int) + 1) + 1) hSr
    have hbt := bit_rg (ppC g k)
    rw [ecast, eS]
    unfold sbI
    rw [epl, e0]
    show _ ↔ (if inC g (gI G (pgC g ((k : Int) + 1) + 1)) t k = 1 ∨ (g ((k : Int) * 4 + 2) = 2 ∧ (ppC g (k : Int) - 1) / g (49 + 0) = gI G (pgC g ((k : Int) + 1) + 1) ∧ bI (2 ≤ ppC g (k : Int) % 4) = t) then (1 : Int) else 0) = 1
    rw [eG]
    by_cases e2 : g ((k : Int) * 4 + 2) = 2 ∧ gI G (ppC g k) = gI G (pgC g ((k : Int) + 1) + 1)
    · rw [if_pos e2, ai_or hsd (by omega) ht, hA, ai_bit ht]
      by_cases e3 : inC g (gI G (pgC g ((k : Int) + 1) + 1)) t k = 1 ∨ bI (2 ≤ ppC g (k : Int) % 4) = t
      · rw [if_pos (e3.elim Or.inl (fun z => Or.inr ⟨e2.1, e2.2, z⟩))]
        exact ⟨fun _ => rfl, fun _ => e3⟩
      · rw [if_neg (fun z => e3 (z.elim Or.inl (fun y => Or.inr y.2.2)))]
        exact ⟨fun z => absurd z e3, fun z => by omega⟩
    · rw [if_neg e2, hA]
      by_cases e3 : inC g (gI G (pgC g ((k : Int) + 1) + 1)) t k = 1
      · rw [if_pos (Or.inl e3)]
        exact ⟨fun _ => rfl, fun _ => e3⟩
      · rw [if_neg (fun z => z.elim e3 (fun y => e2 ⟨y.1, y.2.1⟩))]
        exact ⟨fun z => absurd z e3, fun z => by omega⟩
def saP (f g : Int → Int) (G j : Int) : Int := saV f G j (pgC g j) (ssI f g G j.toNat) (g (j * 4 + 3)) (g (j * 4 + 4))
theorem co_path {f g : Int → Int} (hAg : Agr g f) (hC : CatOK g) {G : Int} (eG : g (49 + 0) = G) (hG : G = 4 ∨ G = 8 ∨ G = 16) : ∀ k : Nat, (k : Int) ≤ g 0 → sumI (gaC g).toNat (fun h => inC g h 0 k + inC g h 1 k) * f (49 + 2) = sumI k (saP f g G) := by
  have hN := hC.1
  intro k
  induction k with
  | zero =>
    intro _
    rw [sumI_z (f := fun h => inC g h 0 0 + inC g h 1 0) _ (fun h _ _ => rfl), Int.zero_mul]
    rfl
  | succ k ih =>
    intro hk
    have hk' : 0 ≤ (k : Int) ∧ (k : Int) < g 0 := by omega
    have ih1 := ih (by omega)
    have hp := pp_b hC hk'
    have hL := lot_f hC hk'
    unfold LotOK at hL
    have hla := la_b hC
    have e0 : f ((k : Int) * 4 + 2) = g ((k : Int) * 4 + 2) := (hAg.2.1 k hk'.1 (by rw [← hAg.1]; omega)).2.symm
    have epl : pgC g k + 1 + g ((k : Int) * 4 + 3) + g ((k : Int) * 4 + 4) = ppC g k := by
      unfold ppC fpC
      omega
    have er : sumI (k + 1) (saP f g G) = sumI k (saP f g G) + saP f g G k := rfl
    rw [er, ← ih1]
    by_cases e2 : g ((k : Int) * 4 + 2) = 2
    · have hpl := hp.2.2.2.2 (by omega)
      have h01 := bI_01 (2 ≤ ppC g (k : Int) % 4)
      have hm1 := gI_m hG (x := pgC g k + 1) (y := ppC g k) (by omega)
      have hi0 := inC_01 g (gI G (ppC g k)) 0 k
      have hi1 := inC_01 g (gI G (ppC g k)) 1 k
      have hgr : 0 ≤ gI G (ppC g k) ∧ gI G (ppC g k) < gaC g := by
        unfold gaC gfI gI
        rw [eG]
        rcases hG with rfl | rfl | rfl <;> omega
      have hst : andI (sdI G (pgC g k + 1) (ssI f g G k) (ppC g k)) (bitI (ppC g k)) = 0 ↔ ¬ inC g (gI G (ppC g k)) (bI (2 ≤ ppC g (k : Int) % 4)) k = 1 := by
        have eb : bitI (ppC g k) = bI (2 ≤ ppC g (k : Int) % 4) + 1 := by unfold bitI; omega
        rw [eb]
        unfold sdI
        by_cases e1 : gI G (pgC g k + 1) = gI G (ppC g k)
        · rw [if_pos e1, ← e1]
          have := st_in hAg hC eG hG k (by omega) (bI (2 ≤ ppC g (k : Int) % 4)) h01
          exact ⟨fun z y => this.mpr y z, fun z => Decidable.byContradiction (fun y => z (this.mp y))⟩
        · rw [if_neg e1, ai_0 h01]
          exact ⟨fun _ => in_old hC eG hG (by omega) (by omega), fun _ => rfl⟩
      have hnew : ∀ t : Int, t = 0 ∨ t = 1 → inC g (gI G (ppC g k)) t (k + 1) = if bI (2 ≤ ppC g (k : Int) % 4) = t then 1 else inC g (gI G (ppC g k)) t k := by
        intro t ht
        by_cases q : bI (2 ≤ ppC g (k : Int) % 4) = t
        · rw [if_pos q]
          show (if _ ∨ (_ ∧ (ppC g (k : Int) - 1) / g (49 + 0) = gI G (ppC g k) ∧ _) then (1 : Int) else 0) = 1
          rw [if_pos (Or.inr ⟨e2, by rw [eG]; rfl, q⟩)]
        · rw [if_neg q]
          exact in_ne (fun z => q z.2.2)
      have hsum := sumI_pt (f := fun h => inC g h 0 (k + 1) + inC g h 1 (k + 1)) (g := fun h => inC g h 0 k + inC g h 1 k) (k0 := gI G (ppC g k)) (d := 1 - inC g (gI G (ppC g k)) (bI (2 ≤ ppC g (k : Int) % 4)) k) (gaC g).toNat
        (fun h a b c => by
          have hne : ¬ (ppC g (k : Int) - 1) / g (49 + 0) = h := fun z => c (by rw [← z, eG]; rfl)
          show inC g h 0 (k + 1) + inC g h 1 (k + 1) = inC g h 0 k + inC g h 1 k
          rw [in_ne (fun z => hne z.2.1), in_ne (fun z => hne z.2.1)])
        (by
          show inC g (gI G (ppC g k)) 0 (k + 1) + inC g (gI G (ppC g k)) 1 (k + 1) = inC g (gI G (ppC g k)) 0 k + inC g (gI G (ppC g k)) 1 k + (1 - inC g (gI G (ppC g k)) (bI (2 ≤ ppC g (k : Int) % 4)) k)
          rw [hnew 0 (Or.inl rfl), hnew 1 (Or.inr rfl)]
          rcases h01 with h01 | h01
          · rw [h01, if_pos rfl, if_neg (by omega)]
            omega
          · rw [h01, if_neg (by omega), if_pos rfl]
            omega) hgr.1 (by omega)
      rw [hsum, Int.add_mul]
      congr 1
      unfold saP saV
      rw [e0, epl, Int.toNat_natCast]
      have h2 := inC_01 g (gI G (ppC g k)) (bI (2 ≤ ppC g (k : Int) % 4)) k
      by_cases q : inC g (gI G (ppC g k)) (bI (2 ≤ ppC g (k : Int) % 4)) k = 1
      · rw [if_neg (fun z => hst.mp z.2 q), q, Int.sub_self, Int.zero_mul]
      · rw [if_pos ⟨e2, hst.mpr q⟩, show inC g (gI G (ppC g k)) (bI (2 ≤ ppC g (k : Int) % 4)) k = 0 by omega, Int.sub_zero, Int.one_mul]
    · have e3 : saP f g G k = 0 := by
        unfold saP saV
        exact if_neg (fun z => e2 (by rw [← e0]; exact z.1))
      rw [e3, Int.add_zero]
      congr 1
      exact sumI_c _ (fun h _ _ => by rw [in_ne (fun z => e2 z.1), in_ne (fun z => e2 z.1)])
theorem sumI_ml {F : Int → Int} (v : Int) : ∀ n : Nat, sumI n (fun i => F i * v) = sumI n F * v := by
  intro n
  induction n with
  | zero => exact (Int.zero_mul v).symm
  | succ n ih =>
    show sumI n _ + F n * v = (sumI n F + F n) * v
    rw [ih, Int.add_mul]
theorem cs_path {f g : Int → Int} (hC : CatOK f) (hAg : Agr g f) (hCg : CatOK g) {G : Int} (hG : G = 4 ∨ G = 8 ∨ G = 16) (hO : Opt f g G (f 0)) : ∀ j : Nat, (j : Int) ≤ f 0 → bsI f G (f 0).toNat 0 0 0 = sumI j (fun i => g (i * 4 + 3)) * f (49 + 3) + sumI j (saP f g G) + bsI f G (f 0 - j).toNat j (pgC g j) (ssI f g G j) := by
  intro j
  induction j with
  | zero =>
    intro _
    show _ = 0 * f (49 + 3) + 0 + bsI f G (f 0 - ((0 : Nat) : Int)).toNat ((0 : Nat) : Int) 0 0
    rw [Int.zero_mul, Int.zero_add, Int.zero_add, show f 0 - ((0 : Nat) : Int) = f 0 by omega]
    rfl
  | succ j ih =>
    intro hj
    have ih1 := ih (by omega)
    have hk : 0 ≤ (j : Int) ∧ (j : Int) < f 0 := by omega
    obtain ⟨h1, h2, -⟩ := hO j hk.1 hk.2
    have hP := pg_P hAg (k := (j : Int)) (by omega)
    have hP1 := pg_P hAg (k := (j : Int) + 1) (by omega)
    have hpb := pgC_b hCg (k := (j : Int)) (by rw [hAg.1]; omega)
    have hlt := bs_lt hC (p := pgC g j) (s := ssI f g G j) hG (k := (j : Int)) (by omega) (by omega)
    rw [hP, Int.toNat_natCast] at h2
    have hn : pgC g (j : Int) + lenC f j + g ((j : Int) * 4 + 3) = pgC g ((j : Int) + 1) := by
      rw [← hP1, lnS_s hk.1, blS_s hk.1]
      omega
    have hs : ssI f g G (j + 1) = sbI f G j (pgC g j) (pgC g ((j : Int) + 1)) (ssI f g G j) (g ((j : Int) * 4 + 3)) (g ((j : Int) * 4 + 4)) := by
      rw [← hP, ← hP1]
      rfl
    unfold ctB at h2
    rw [hn, ← hs] at h2
    unfold ctV at h2
    have e1 : sumI (j + 1) (fun i => g (i * 4 + 3)) = sumI j (fun i => g (i * 4 + 3)) + g ((j : Int) * 4 + 3) := rfl
    have e2 : sumI (j + 1) (saP f g G) = sumI j (saP f g G) + saP f g G j := rfl
    have e3 : saP f g G j = saV f G j (pgC g j) (ssI f g G j) (g ((j : Int) * 4 + 3)) (g ((j : Int) * 4 + 4)) := by
      unfold saP
      rw [Int.toNat_natCast]
    have ec : ((j + 1 : Nat) : Int) = (j : Int) + 1 := rfl
    rw [e1, e2, e3, Int.add_mul, ec]
    split at h2
    · omega
    · omega
/-- the cheapest choices cost what the table says -/
theorem cs_bs {f g : Int → Int} (hC : CatOK f) (hAg : Agr g f) (hCg : CatOK g) {G : Int} (eG : f (49 + 0) = G) (hG : G = 4 ∨ G = 8 ∨ G = 16) (hO : Opt f g G (f 0)) : csC g = bsI f G (f 0).toNat 0 0 0 := by
  have hN := hC.1
  have eGg : g (49 + 0) = G := (hAg.2.2 0 (by omega) (by omega)).trans eG
  have e1 := cs_path hC hAg hCg hG hO (f 0).toNat (by omega)
  have e2 := co_path hAg hCg eGg hG (f 0).toNat (by rw [hAg.1]; omega)
  rw [e1, ← e2]
  have en : (((f 0).toNat : Nat) : Int) = f 0 := by omega
  have e3 : bsI f G (f 0 - (((f 0).toNat : Nat) : Int)).toNat (((f 0).toNat : Nat) : Int) (pgC g (((f 0).toNat : Nat) : Int)) (ssI f g G (f 0).toNat) = gfI (pgC g (f 0)) G * gcC f := by
    rw [en, show (f 0 - f 0).toNat = 0 by omega]
    rfl
  have e4 : coC g = sumI (gaC g).toNat (fun h => inC g h 0 (f 0).toNat + inC g h 1 (f 0).toNat) := by
    unfold coC
    refine sumI_c _ (fun h a b => ?_)
    rw [← in_col hCg (g := h) (s := 0) (by omega), ← in_col hCg (g := h) (s := 1) (by omega), hAg.1]
  have e5 : gcC g = gcC f := by
    unfold gcC
    rw [hAg.2.2 1 (by omega) (by omega), hAg.2.2 4 (by omega) (by omega)]
  rw [e3]
  unfold csC
  rw [e4, e5, hAg.2.2 2 (by omega) (by omega), hAg.2.2 3 (by omega) (by omega)]
  unfold gaC blC
  rw [hAg.1, eGg]
  omega
