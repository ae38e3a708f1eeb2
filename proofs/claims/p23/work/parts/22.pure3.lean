/-! the reference's table against the planner's -/
def Same (c c' : Int → Int) : Prop := c 0 = c' 0 ∧ (∀ k : Int, 0 ≤ k → k < c 0 → c (k * 4 + 1) = c' (k * 4 + 1) ∧ c (k * 4 + 2) = c' (k * 4 + 2) ∧ c (k * 4 + 3) = c' (k * 4 + 3) ∧ c (k * 4 + 4) = c' (k * 4 + 4)) ∧ ∀ j : Int, 0 ≤ j → j < 5 → c (49 + j) = c' (49 + j)
theorem Same_rf (c : Int → Int) : Same c c := ⟨rfl, fun _ _ _ => ⟨rfl, rfl, rfl, rfl⟩, fun _ _ _ => rfl⟩
theorem Same_sy {c c' : Int → Int} (h : Same c c') : Same c' c := ⟨h.1.symm, fun k a b => by have := h.2.1 k a (by rw [h.1]; exact b); exact ⟨this.1.symm, this.2.1.symm, this.2.2.1.symm, this.2.2.2.symm⟩, fun j a b => (h.2.2 j a b).symm⟩
theorem Same_tr {a b c : Int → Int} (h : Same a b) (h' : Same b c) : Same a c := ⟨h.1.trans h'.1, fun k x y => by
    have h1 := h.2.1 k x y
    have h2 := h'.2.1 k x (by rw [← h.1]; exact y)
    exact ⟨h1.1.trans h2.1, h1.2.1.trans h2.2.1, h1.2.2.1.trans h2.2.2.1, h1.2.2.2.trans h2.2.2.2⟩, fun j x y => (h.2.2 j x y).trans (h'.2.2 j x y)⟩
theorem Same_Cat {c c' : Int → Int} (h : Same c c') (hC : CatOK c) : CatOK c' := by
  refine ⟨by rw [← h.1]; exact hC.1, fun k a b => ?_, ?_⟩
  · have h1 := h.2.1 k a (by rw [h.1]; exact b)
    rw [← h1.1, ← h1.2.1, ← h1.2.2.1, ← h1.2.2.2]
    exact hC.2.1 k a (by rw [h.1]; exact b)
  · have h2 := fun j a b => (h.2.2 j a b).symm
    rw [h2 0 (by omega) (by omega), h2 1 (by omega) (by omega), h2 2 (by omega) (by omega), h2 3 (by omega) (by omega), h2 4 (by omega) (by omega)]
    exact hC.2.2
theorem Same_Agr {c c' f : Int → Int} (h : Same c c') (hA : Agr c f) : Agr c' f := by
  refine ⟨h.1.symm.trans hA.1, fun k a b => ?_, fun j a b => (h.2.2 j a b).symm.trans (hA.2.2 j a b)⟩
  have h1 := h.2.1 k a (by rw [hA.1]; exact b)
  have h2 := hA.2.1 k a b
  exact ⟨h1.1.symm.trans h2.1, h1.2.1.symm.trans h2.2⟩
theorem Opt_g {f g g' : Int → Int} {G k : Int} (h : Opt f g G k) (hg : ∀ i : Int, 0 ≤ i → i < k → g (i * 4 + 3) = g' (i * 4 + 3) ∧ g (i * 4 + 4) = g' (i * 4 + 4)) : Opt f g' G k := by
  intro j h3 h4
  have e1 : blS g j = blS g' j := blS_c (fun i a1 a2 => (hg i a1 (by omega)).1)
  have e2 : ssI f g G j.toNat = ssI f g' G j.toNat := ssI_c _ (fun i a1 a2 => hg i a1 (by omega))
  have e3 := hg j h3 h4
  have h5 := h j h3 h4
  rw [e1, e2, e3.1, e3.2] at h5
  exact h5
theorem cM_cho {m : Int → Int} {k b q : Int} (hk : 0 ≤ k ∧ k < 12) (hn : m 5 ≤ 12) : Same (choL (cM m) k b q) (cM (upI (upI m (30 + k) b) (42 + k) q)) := by
  refine ⟨?_, fun i a b' => ?_, fun j a b' => ?_⟩
  · rw [cho_n (by omega), cM_0, cM_0, upI_n (by omega), upI_n (by omega)]
  · rw [cho_n (by omega), cM_0] at b'
    rw [cM_t (by omega), cM_p (by omega), cM_b (by omega), cM_q (by omega)]
    rw [cho_n (by omega), cho_n (by omega), cM_t (by omega), cM_p (by omega)]
    rw [upI_n (k := 42 + k) (by omega), upI_n (by omega), upI_n (k := 42 + k) (by omega), upI_n (by omega)]
    by_cases e : i = k
    · subst e
      rw [cho_b rfl, cho_q rfl, upI_n (k := 42 + i) (by omega), upI_s rfl, upI_s rfl]
      exact ⟨rfl, rfl, rfl, rfl⟩
    · rw [cho_n (by omega), cho_n (by omega), cM_b (by omega), cM_q (by omega)]
      rw [upI_n (k := 42 + k) (by omega), upI_n (by omega), upI_n (k := 42 + k) (by omega), upI_n (by omega)]
      exact ⟨rfl, rfl, rfl, rfl⟩
  · rw [cho_n (by omega), cM_s (by omega), cM_s (by omega), upI_n (by omega), upI_n (by omega)]
theorem Agr_mw {g f : Int → Int} (h : Agr g f) {G : Int} {l : Int → Int} {k p s i : Int} (hk : 0 ≤ k ∧ k < f 0) : mwR g G l k p s i = mwR f G l k p s i ∧ ∀ b q : Int, msT g G k p s b q = msT f G k p s b q := by
  have h1 := h.2.1 k hk.1 hk.2
  have h2 := h.2.2 2 (by omega) (by omega)
  have h3 := h.2.2 3 (by omega) (by omega)
  have h4 := Agr_len h hk
  have e1 : ∀ b q : Int, mpl g k p b q = mpl f k p b q := fun b q => by unfold mpl; rw [h1.2, h4.1]
  have e2 : ∀ b q : Int, ms0 g G k p s b q = ms0 f G k p s b q := fun b q => by unfold ms0; rw [e1]
  have e3 : ∀ b q : Int, ms1 g G k p s b q = ms1 f G k p s b q := fun b q => by unfold ms1; rw [h1.2, e2, e1]
  have e4 : ∀ b q : Int, msT g G k p s b q = msT f G k p s b q := fun b q => by unfold msT; rw [e1, e3, h4.1]
  have e5 : ∀ b q : Int, mcT g G k p s b q = mcT f G k p s b q := fun b q => by unfold mcT; rw [h1.2, h2, h3, e2, e1]
  have e6 : ∀ b q : Int, mfa g k p b q = mfa f k p b q := fun b q => by unfold mfa; rw [h1.2, h4.1]
  refine ⟨?_, e4⟩
  unfold mwR mwV
  rw [h4.1, h4.2, e4, e5, e6]
theorem gI_m {G x y : Int} (hG : G = 4 ∨ G = 8 ∨ G = 16) (h : x ≤ y) : gI G x ≤ gI G y := by
  unfold gI
  rcases hG with rfl | rfl | rfl <;> omega
def nrm (G p s : Int) : Int := if 0 < p ∧ gI G p = gI G (p + 1) then s else 0
theorem nrm_0 (G s : Int) : nrm G 0 s = 0 := if_neg (fun z => by omega)
/-- one choice: its cost and what is behind it, told both ways -/
theorem nrm_1 {c : Int → Int} (hC : CatOK c) {G : Int} (hG : G = 4 ∨ G = 8 ∨ G = 16) {k p s b q : Int} (hk : 0 ≤ k ∧ k < c 0) (hp : 0 ≤ p) (hb : 0 ≤ b ∧ b ≤ 1) (hq : 0 ≤ q ∧ q ≤ mostC c k) (v : Int) :
    ctV c G k p (nrm G p s) b q v = min (mwV c G k p s b q v) 1000000 ∧ sbI c G k p (p + lenC c k + b) (nrm G p s) b q = nrm G (p + b + lenC c k) (msT c G k p s b q) := by
  have hL := lot_f hC hk
  have hl := len_rg hC hk
  unfold LotOK at hL
  have hln : lenC c k = c (k * 4 + 1) + bI (¬ c (k * 4 + 2) = 0) := rfl
  have hmo : mostC c k = if c (k * 4 + 2) = 0 then 0 else c (k * 4 + 1) := rfl
  have g1 := gI_m hG (x := p) (y := p + 1) (by omega)
  by_cases h0 : c (k * 4 + 2) = 0
  · rw [bI_f (by omega)] at hln
    rw [if_pos h0] at hmo
    have eq0 : q = 0 := by omega
    have epl : mpl c k p b q = p + b + lenC c k := if_pos h0
    have efa : mfa c k p b q = 1 := if_pos h0
    have g2 := gI_m hG (x := p + 1) (y := p + b + lenC c k) (by omega)
    have g3 := gI_m hG (x := p + b + lenC c k) (y := p + lenC c k + b + 1) (by omega)
    constructor
    · unfold ctV mwV mcT saV
      rw [if_neg (fun z => z.1 h0), if_pos efa, if_neg (fun z => by omega), if_neg (fun z => by omega)]
      congr 1
      omega
    · have e1 : sbI c G k p (p + lenC c k + b) (nrm G p s) b q = sdI G (p + 1) (nrm G p s) (p + lenC c k + b + 1) := if_neg (fun z => by omega)
      have e2 : ms1 c G k p s b q = ms0 c G k p s b q := if_neg (by omega)
      have e3 : msT c G k p s b q = ms0 c G k p s b q := by
        unfold msT
        rw [epl, if_pos rfl, e2]
      rw [e1, e3]
      unfold ms0 nrm sdI
      rw [epl]
      rw [show p + b + lenC c k + 1 = p + lenC c k + b + 1 by omega]
      by_cases x1 : 0 < p ∧ gI G p = gI G (p + 1)
      · rw [if_pos x1]
        by_cases x2 : gI G (p + 1) = gI G (p + lenC c k + b + 1)
        · rw [if_pos x2, if_pos ⟨by omega, by omega⟩, if_pos ⟨x1.1, by omega⟩]
        · rw [if_neg x2]
          by_cases x3 : 0 < p + b + lenC c k ∧ gI G (p + b + lenC c k) = gI G (p + lenC c k + b + 1)
          · rw [if_pos x3, if_neg (by omega)]
          · rw [if_neg x3]
      · rw [if_neg x1]
        rw [show (if gI G (p + 1) = gI G (p + lenC c k + b + 1) then (0 : Int) else 0) = 0 by split <;> rfl]
        rw [if_neg (c := 0 < p ∧ gI G (p + b + lenC c k) = gI G p) (by omega)]
        split <;> rfl
  · rw [bI_t h0] at hln
    rw [if_neg h0] at hmo
    have epl : mpl c k p b q = p + b + 1 + q := if_neg h0
    have e9 : p + 1 + b + q = p + b + 1 + q := by omega
    have g2 := gI_m hG (x := p + 1) (y := p + b + 1 + q) (by omega)
    have g3 := gI_m hG (x := p + b + 1 + q) (y := p + b + lenC c k) (by omega)
    have g4 := gI_m hG (x := p + b + lenC c k) (y := p + lenC c k + b + 1) (by omega)
    have efa : mfa c k p b q = facI (p + b + 1 + q) q (c (k * 4 + 1)) := by
      unfold mfa facI
      rw [if_neg h0]
      by_cases y : (p + b + 1 + q) % 2 = 0
      · rw [if_pos y, if_pos y]
        refine bI_c ?_
        omega
      · rw [if_neg y, if_neg y]
        refine bI_c ?_
        omega
    have es0 : sdI G (p + 1) (nrm G p s) (p + b + 1 + q) = ms0 c G k p s b q := by
      unfold sdI nrm ms0
      rw [epl]
      by_cases x1 : 0 < p ∧ gI G p = gI G (p + 1)
      · rw [if_pos x1]
        by_cases x2 : gI G (p + 1) = gI G (p + b + 1 + q)
        · rw [if_pos x2, if_pos ⟨x1.1, by omega⟩]
        · rw [if_neg x2, if_neg (by omega)]
      · rw [if_neg x1, if_neg (c := 0 < p ∧ gI G (p + b + 1 + q) = gI G p) (by omega)]
        split <;> rfl
    constructor
    · unfold ctV mwV saV mcT
      rw [e9, es0, efa, epl]
      have h01 : facI (p + b + 1 + q) q (c (k * 4 + 1)) = 0 ∨ facI (p + b + 1 + q) q (c (k * 4 + 1)) = 1 := by unfold facI; split <;> exact bI_01 _
      rcases h01 with h01 | h01
      · rw [if_pos ⟨h0, h01⟩, if_neg (by omega)]
        rfl
      · rw [if_neg (fun z => by omega), if_pos h01]
        congr 1
        omega
    · have en : sdI G (p + 1) (nrm G p s) (p + lenC c k + b + 1) = if gI G (p + b + 1 + q) = gI G (p + lenC c k + b + 1) then ms0 c G k p s b q else 0 := by
        rw [← es0]
        unfold sdI
        by_cases x2 : gI G (p + b + 1 + q) = gI G (p + lenC c k + b + 1)
        · rw [if_pos x2, x2]
        · rw [if_neg x2, if_neg (by omega)]
      have er : nrm G (p + b + lenC c k) (msT c G k p s b q) = if gI G (p + b + 1 + q) = gI G (p + lenC c k + b + 1) then ms1 c G k p s b q else 0 := by
        unfold nrm msT
        rw [epl, show p + b + lenC c k + 1 = p + lenC c k + b + 1 by omega]
        by_cases x2 : gI G (p + b + 1 + q) = gI G (p + lenC c k + b + 1)
        · rw [if_pos x2, if_pos ⟨by omega, by omega⟩, if_pos (by omega)]
        · rw [if_neg x2]
          by_cases x3 : 0 < p + b + lenC c k ∧ gI G (p + b + lenC c k) = gI G (p + lenC c k + b + 1)
          · rw [if_pos x3, if_neg (by omega)]
          · rw [if_neg x3]
      rw [er]
      unfold sbI
      rw [en, e9]
      unfold ms1
      rw [epl]
      by_cases h2 : c (k * 4 + 2) = 2
      · by_cases x2 : gI G (p + b + 1 + q) = gI G (p + lenC c k + b + 1)
        · rw [if_pos ⟨h2, x2⟩, if_pos x2, if_pos x2, if_pos h2]
        · rw [if_neg (fun z => x2 z.2), if_neg x2, if_neg x2]
      · rw [if_neg (fun z => h2 z.1), if_neg h2]
/-- the two tables agree -/
theorem nrm_bs {c : Int → Int} (hC : CatOK c) {G : Int} (hG : G = 4 ∨ G = 8 ∨ G = 16) : ∀ (m : Nat) (k p s : Int), 0 ≤ k → k + m = c 0 → (0 ≤ p ∧ p ≤ 5 * k) → bsM c G m k p s = bsI c G m k p (nrm G p s) := by
  have hN := hC.1
  intro m
  induction m with
  | zero => intro k p s _ _ _; rfl
  | succ m ih =>
    intro k p s h0 h1 hp
    have hk : 0 ≤ k ∧ k < c 0 := by omega
    have hM := most_rg hC hk
    have hl := len_rg hC hk
    have hB := bs_rg hC hG (m + 1) k p (nrm G p s) h0 h1 hp
    have e1 : bsI c G (m + 1) k p (nrm G p s) = mnB (fun b q => ctV c G k p (nrm G p s) b q (bsI c G m (k + 1) (p + lenC c k + b) (sbI c G k p (p + lenC c k + b) (nrm G p s) b q))) (mostC c k + 1).toNat 2 := rfl
    have e2 : bsM c G (m + 1) k p s = mnI (fun i => mwV c G k p s (i / (mostC c k + 1)) (i % (mostC c k + 1)) (bsM c G m (k + 1) (p + i / (mostC c k + 1) + lenC c k) (msT c G k p s (i / (mostC c k + 1)) (i % (mostC c k + 1))))) (2 * (mostC c k + 1)).toNat 10000000 := rfl
    have hF : ∀ b q : Int, (0 ≤ b ∧ b ≤ 1) → (0 ≤ q ∧ q ≤ mostC c k) → ctV c G k p (nrm G p s) b q (bsI c G m (k + 1) (p + lenC c k + b) (sbI c G k p (p + lenC c k + b) (nrm G p s) b q)) = min (mwV c G k p s b q (bsM c G m (k + 1) (p + b + lenC c k) (msT c G k p s b q))) 1000000 := by
      intro b q hb hq
      have h2 := nrm_1 hC hG (s := s) hk hp.1 hb hq (bsI c G m (k + 1) (p + lenC c k + b) (sbI c G k p (p + lenC c k + b) (nrm G p s) b q))
      rw [h2.1, h2.2, ih (k + 1) (p + b + lenC c k) _ (by omega) (by omega) (by omega)]
      rw [show p + lenC c k + b = p + b + lenC c k by omega]
    have hle := mnB_le (F := fun b q => ctV c G k p (nrm G p s) b q (bsI c G m (k + 1) (p + lenC c k + b) (sbI c G k p (p + lenC c k + b) (nrm G p s) b q))) (w := (mostC c k + 1).toNat) 2
    have hat := mnB_at (F := fun b q => ctV c G k p (nrm G p s) b q (bsI c G m (k + 1) (p + lenC c k + b) (sbI c G k p (p + lenC c k + b) (nrm G p s) b q))) (w := (mostC c k + 1).toNat) 2
    have hle' := mnI_le (f := fun i => mwV c G k p s (i / (mostC c k + 1)) (i % (mostC c k + 1)) (bsM c G m (k + 1) (p + i / (mostC c k + 1) + lenC c k) (msT c G k p s (i / (mostC c k + 1)) (i % (mostC c k + 1))))) (z := 10000000) (2 * (mostC c k + 1)).toNat
    have hat' := mnI_at (f := fun i => mwV c G k p s (i / (mostC c k + 1)) (i % (mostC c k + 1)) (bsM c G m (k + 1) (p + i / (mostC c k + 1) + lenC c k) (msT c G k p s (i / (mostC c k + 1)) (i % (mostC c k + 1))))) (z := 10000000) (2 * (mostC c k + 1)).toNat
    rw [← e1] at hle hat
    rw [← e2] at hle' hat'
    have a1 : bsM c G (m + 1) k p s ≤ bsI c G (m + 1) k p (nrm G p s) := by
      rcases hat with h | ⟨b, q, h2, h3, h4⟩
      · omega
      · have h5 := hF b q (by omega) (by omega)
        have h6 := dm_u (w := mostC c k + 1) (b := b) (q := q) (by omega) (by omega)
        have hbw : 0 ≤ b * (mostC c k + 1) + q ∧ b * (mostC c k + 1) + q < 2 * (mostC c k + 1) := by
          have hb3 : b = 0 ∨ b = 1 := by omega
          rcases hb3 with rfl | rfl <;> omega
        have h7 := hle'.2 (b * (mostC c k + 1) + q) hbw.1 (by omega)
        rw [h6.1, h6.2] at h7
        rw [h5] at h4
        omega
    have a2 : bsI c G (m + 1) k p (nrm G p s) ≤ bsM c G (m + 1) k p s := by
      rcases hat' with h | ⟨i, h2, h3, h4⟩
      · omega
      · have hd := dm_b (w := mostC c k + 1) (i := i) (by omega) (by omega)
        have h5 := hF (i / (mostC c k + 1)) (i % (mostC c k + 1)) hd.1 (by omega)
        have h7 := hle.2 (i / (mostC c k + 1)) (i % (mostC c k + 1)) hd.1.1 (by omega) hd.2.1.1 (by omega)
        rw [h5] at h7
        omega
    omega
/-- the first way that costs no more, among all -/
theorem mw_ct {c : Int → Int} (hC : CatOK c) {G : Int} (hG : G = 4 ∨ G = 8 ∨ G = 16) {k p s b q : Int} (hk : 0 ≤ k ∧ k < c 0) (hp : 0 ≤ p ∧ p ≤ 5 * k) (hb : 0 ≤ b ∧ b ≤ 1) (hq : 0 ≤ q ∧ q ≤ mostC c k) : ctB c G k p (nrm G p s) b q = min (mwB c G k p s (b * (mostC c k + 1) + q)) 1000000 := by
  have hl := len_rg hC hk
  have hN := hC.1
  have h6 := dm_u (w := mostC c k + 1) (b := b) (q := q) (by omega) (by omega)
  unfold ctB mwB
  rw [h6.1, h6.2]
  have h2 := nrm_1 hC hG (s := s) hk hp.1 hb hq (bsI c G (c 0 - (k + 1)).toNat (k + 1) (p + lenC c k + b) (sbI c G k p (p + lenC c k + b) (nrm G p s) b q))
  rw [h2.1, h2.2, nrm_bs hC hG _ (k + 1) (p + b + lenC c k) _ (by omega) (by omega) (by omega)]
  rw [show p + lenC c k + b = p + b + lenC c k by omega]
/-! the reference's path -/
theorem ch_more {c g l : Int → Int} {G k p s ch : Int} (hC : CatOK c) (hAg : Agr g c) (hG : G = 4 ∨ G = 8 ∨ G = 16) (hk : 0 ≤ k ∧ k < c 0) (hL : LmOK c G l 0) (hp : 0 ≤ p ∧ p ≤ 5 * k) (hs3 : 0 ≤ s ∧ s ≤ 3)
    (h2 : ∀ j : Int, 0 ≤ j → j < ch → l (256 * k + 4 * p + s) < mwR g G l k p s j) : ch < 2 * (mostC g k + 1) := by
  have hN := hC.1
  have hM := most_rg hC hk
  have hlk : LmOK c G l (k + 1) := fun k' a1 a2 => hL k' (by omega) a2
  have e1 := hL k hk.1 (by omega) p s hp.1 hp.2 hs3.1 hs3.2
  have e2 := mn_bsM hC (s := s) hk hp hs3 hlk
  have e3 := nrm_bs hC hG (c 0 - k).toNat k p s hk.1 (by omega) hp
  have hlt := bs_lt hC (p := p) (s := nrm G p s) hG (k := k) (by omega) hp
  rw [(Agr_len hAg hk).2]
  rcases mnI_at (f := mwR c G l k p s) (z := 10000000) (2 * (mostC c k + 1)).toNat with h | ⟨i, a1, a2, a3⟩
  · omega
  · by_cases q : ch < 2 * (mostC c k + 1)
    · exact q
    · have h4 := h2 i a1 (by omega)
      rw [(Agr_mw hAg hk).1] at h4
      omega
theorem ch_step {c g l : Int → Int} {G k p s ch : Int} (hC : CatOK c) (hAg : Agr g c) (hCg : CatOK g) (hG : G = 4 ∨ G = 8 ∨ G = 16) (hk : 0 ≤ k ∧ k < c 0) (hL : LmOK c G l 0) (hO : Opt c g G k) (hp : p = lnS c k + blS g k) (hs : nrm G p s = ssI c g G k.toNat) (hs3 : 0 ≤ s ∧ s ≤ 3)
    (hch : 0 ≤ ch ∧ ch < 2 * (mostC g k + 1)) (h1 : mwR g G l k p s ch ≤ l (256 * k + 4 * p + s)) (h2 : ∀ j : Int, 0 ≤ j → j < ch → l (256 * k + 4 * p + s) < mwR g G l k p s j) :
    Agr (choL g k (ch / (mostC g k + 1)) (ch % (mostC g k + 1))) c ∧ CatOK (choL g k (ch / (mostC g k + 1)) (ch % (mostC g k + 1))) ∧ Opt c (choL g k (ch / (mostC g k + 1)) (ch % (mostC g k + 1))) G (k + 1) ∧
    p + ch / (mostC g k + 1) + lenC g k = lnS c (k + 1) + blS (choL g k (ch / (mostC g k + 1)) (ch % (mostC g k + 1))) (k + 1) ∧
    nrm G (p + ch / (mostC g k + 1) + lenC g k) (msT g G k p s (ch / (mostC g k + 1)) (ch % (mostC g k + 1))) = ssI c (choL g k (ch / (mostC g k + 1)) (ch % (mostC g k + 1))) G (k + 1).toNat := by
  have hN := hC.1
  have hM := most_rg hC hk
  have hl := len_rg hC hk
  have eL := Agr_len hAg hk
  rw [eL.2] at hch
  have hd := dm_b (w := mostC c k + 1) (i := ch) (by omega) hch
  rw [eL.1, eL.2, (Agr_mw (i := 0) (l := l) hAg hk).2]
  have hB := lnS_b hC (k := k) (by omega)
  have hbl := blS_b (c := g) hk.1 (fun i a1 a2 => (hO i a1 a2).1.1)
  have hpr : 0 ≤ p ∧ p ≤ 5 * k := by omega
  have hlk : LmOK c G l (k + 1) := fun k' a1 a2 => hL k' (by omega) a2
  have e1 := hL k hk.1 (by omega) p s hpr.1 hpr.2 hs3.1 hs3.2
  have e2 := mn_bsM hC (s := s) hk hpr hs3 hlk
  have e3 := nrm_bs hC hG (c 0 - k).toNat k p s hk.1 (by omega) hpr
  have hlt := bs_lt hC (p := p) (s := nrm G p s) hG (k := k) (by omega) hpr
  have hmw : ∀ i : Int, 0 ≤ i → i < 2 * (mostC c k + 1) → mwR g G l k p s i = mwB c G k p s i := fun i a1 a2 => by rw [(Agr_mw hAg hk).1, mwR_B hC hk hpr hs3 ⟨a1, a2⟩ hlk]
  have hle := (mnI_le (f := mwR c G l k p s) (z := 10000000) (2 * (mostC c k + 1)).toNat).2 ch hch.1 (by omega)
  rw [mwR_B hC hk hpr hs3 hch hlk] at hle
  rw [hmw ch hch.1 hch.2] at h1
  have hb := hd.1
  have hq : 0 ≤ ch % (mostC c k + 1) ∧ ch % (mostC c k + 1) ≤ mostC c k := by omega
  have hAg2 : Agr (choL g k (ch / (mostC c k + 1)) (ch % (mostC c k + 1))) c := Agr_cho hAg hk hN.2
  have hO2 : Opt c (choL g k (ch / (mostC c k + 1)) (ch % (mostC c k + 1))) G (k + 1) := by
    refine Opt_s hO hk.1 hb hq ?_ (fun b' q' a1 a2 a3 a4 => ?_)
    · rw [← hp, ← hs, mw_ct hC hG hk hpr hb hq, ← hd.2.2]
      omega
    · rw [← hp, ← hs]
      intro z
      have hb' : b' = 0 ∨ b' = 1 := by omega
      have hbb : ch / (mostC c k + 1) = 0 ∨ ch / (mostC c k + 1) = 1 := by omega
      have hi : b' * (mostC c k + 1) + q' < ch ∧ 0 ≤ b' * (mostC c k + 1) + q' := by
        have h9 := hd.2.2
        rcases hb' with rfl | rfl <;> rcases hbb with hbb | hbb <;> rw [hbb] at h9 a4 <;> omega
      rw [mw_ct hC hG hk hpr (by omega) ⟨a2, a3⟩] at z
      have h3 := h2 _ hi.2 hi.1
      rw [hmw _ hi.2 (by omega)] at h3
      omega
  have e6 : blS (choL g k (ch / (mostC c k + 1)) (ch % (mostC c k + 1))) k = blS g k := blS_c (fun i a1 a2 => cho_n (by omega))
  have e7 : ssI c (choL g k (ch / (mostC c k + 1)) (ch % (mostC c k + 1))) G k.toNat = ssI c g G k.toNat := ssI_c _ (fun i a1 a2 => ⟨cho_n (by omega), cho_n (by omega)⟩)
  refine ⟨hAg2, Cat_cho hCg ⟨hk.1, by rw [hAg.1]; exact hk.2⟩ hb (by rw [eL.2]; exact hq), hO2, ?_, ?_⟩
  · rw [blS_s hk.1, e6, cho_b rfl, lnS_s hk.1]
    omega
  · rw [ssI_s _ _ _ hk.1, blS_s hk.1, e6, e7, cho_b rfl, cho_q rfl, ← hs]
    rw [← (nrm_1 hC hG (s := s) hk hpr.1 hb hq 0).2, lnS_s hk.1]
    rw [show lnS c k + lenC c k + (blS g k + ch / (mostC c k + 1)) = p + lenC c k + ch / (mostC c k + 1) by omega, ← hp]
