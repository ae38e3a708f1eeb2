/-! the cheapest choices, as the reference finds them -/
def mpl (c : Int → Int) (k p b q : Int) : Int := if c (k * 4 + 2) = 0 then p + b + lenC c k else p + b + 1 + q
def mfa (c : Int → Int) (k p b q : Int) : Int := if c (k * 4 + 2) = 0 then 1 else bI (p + b + 1 ≤ (if (p + b + 1 + q) % 2 = 0 then p + b + 1 + q + 1 else p + b + 1 + q - 1) ∧ (if (p + b + 1 + q) % 2 = 0 then p + b + 1 + q + 1 else p + b + 1 + q - 1) ≤ p + b + lenC c k)
def ms0 (c : Int → Int) (G k p s b q : Int) : Int := if 0 < p ∧ gI G (mpl c k p b q) = gI G p then s else 0
def ms1 (c : Int → Int) (G k p s b q : Int) : Int := if c (k * 4 + 2) = 2 then orI (ms0 c G k p s b q) (bitI (mpl c k p b q)) else ms0 c G k p s b q
def msT (c : Int → Int) (G k p s b q : Int) : Int := if gI G (mpl c k p b q) = gI G (p + b + lenC c k) then ms1 c G k p s b q else 0
def mcT (c : Int → Int) (G k p s b q : Int) : Int := b * c (49 + 3) + (if c (k * 4 + 2) = 2 ∧ andI (ms0 c G k p s b q) (bitI (mpl c k p b q)) = 0 then c (49 + 2) else 0)
def mwV (c : Int → Int) (G k p s b q v : Int) : Int := if mfa c k p b q = 1 then mcT c G k p s b q + v else 10000000
def mwR (c : Int → Int) (G : Int) (le : Int → Int) (k p s i : Int) : Int := mwV c G k p s (i / (mostC c k + 1)) (i % (mostC c k + 1)) (le (256 * (k + 1) + 4 * (p + i / (mostC c k + 1) + lenC c k) + msT c G k p s (i / (mostC c k + 1)) (i % (mostC c k + 1))))
def bsM (c : Int → Int) (G : Int) : Nat → Int → Int → Int → Int
  | 0, _, p, _ => gfI p G * gcC c
  | m + 1, k, p, s => mnI (fun i => mwV c G k p s (i / (mostC c k + 1)) (i % (mostC c k + 1)) (bsM c G m (k + 1) (p + i / (mostC c k + 1) + lenC c k) (msT c G k p s (i / (mostC c k + 1)) (i % (mostC c k + 1))))) (2 * (mostC c k + 1)).toNat 10000000
def mwB (c : Int → Int) (G k p s i : Int) : Int := mwV c G k p s (i / (mostC c k + 1)) (i % (mostC c k + 1)) (bsM c G (c 0 - (k + 1)).toNat (k + 1) (p + i / (mostC c k + 1) + lenC c k) (msT c G k p s (i / (mostC c k + 1)) (i % (mostC c k + 1))))
theorem bsM_s {c : Int → Int} {G k p s : Int} (hk : k < c 0) : bsM c G (c 0 - k).toNat k p s = mnI (mwB c G k p s) (2 * (mostC c k + 1)).toNat 10000000 := by
  have e : (c 0 - k).toNat = (c 0 - (k + 1)).toNat + 1 := by omega
  rw [e]
  rfl
theorem ms0_rg {c : Int → Int} {G k p s b q : Int} (h : 0 ≤ s ∧ s ≤ 3) : 0 ≤ ms0 c G k p s b q ∧ ms0 c G k p s b q ≤ 3 := by
  unfold ms0
  split <;> omega
theorem ms1_rg {c : Int → Int} {G k p s b q : Int} (h : 0 ≤ s ∧ s ≤ 3) : 0 ≤ ms1 c G k p s b q ∧ ms1 c G k p s b q ≤ 3 := by
  have h1 := ms0_rg (c := c) (G := G) (k := k) (p := p) (b := b) (q := q) h
  have h2 := bit_rg (mpl c k p b q)
  unfold ms1
  split
  · exact orI_rg (by omega)
  · exact h1
theorem msT_rg {c : Int → Int} {G k p s b q : Int} (h : 0 ≤ s ∧ s ≤ 3) : 0 ≤ msT c G k p s b q ∧ msT c G k p s b q ≤ 3 := by
  have h1 := ms1_rg (c := c) (G := G) (k := k) (p := p) (b := b) (q := q) h
  unfold msT
  split <;> omega
theorem mcT_rg {c : Int → Int} (hC : CatOK c) {G k p s b q : Int} (hb : 0 ≤ b ∧ b ≤ 1) : 0 ≤ mcT c G k p s b q ∧ mcT c G k p s b q ≤ 198 := by
  have hX := hC.2.2
  unfold SetOK at hX
  have h4 : 0 ≤ b * c (49 + 3) ∧ b * c (49 + 3) ≤ 99 := by
    have hb3 : b = 0 ∨ b = 1 := by omega
    rcases hb3 with rfl | rfl <;> omega
  unfold mcT
  split <;> omega
theorem dm_b {w i : Int} (hw : 1 ≤ w) (hi : 0 ≤ i ∧ i < 2 * w) : (0 ≤ i / w ∧ i / w ≤ 1) ∧ (0 ≤ i % w ∧ i % w < w) ∧ i = i / w * w + i % w := by
  have h1 := Int.emod_nonneg i (show w ≠ 0 by omega)
  have h2 := Int.emod_lt_of_pos i (show 0 < w by omega)
  have h3 : i / w * w + i % w = i := by rw [Int.mul_comm]; exact Int.mul_ediv_add_emod i w
  have h4 : 0 ≤ i / w := Int.ediv_nonneg hi.1 (by omega)
  have h5 : i / w < 2 := Int.ediv_lt_of_lt_mul (by omega) hi.2
  exact ⟨by omega, by omega, h3.symm⟩
theorem dm_u {w b q : Int} (hw : 1 ≤ w) (hq : 0 ≤ q ∧ q < w) : (b * w + q) / w = b ∧ (b * w + q) % w = q := by
  constructor
  · rw [Int.add_comm, Int.add_mul_ediv_right _ _ (by omega), Int.ediv_eq_zero_of_lt hq.1 hq.2]
    omega
  · rw [Int.add_comm, Int.add_mul_emod_self_right, Int.emod_eq_of_lt hq.1 hq.2]
def LmOK (c : Int → Int) (G : Int) (l : Int → Int) (k : Int) : Prop := ∀ k' : Int, k ≤ k' → k' ≤ c 0 → ∀ p s : Int, 0 ≤ p → p ≤ 5 * k' → 0 ≤ s → s ≤ 3 → l (256 * k' + 4 * p + s) = bsM c G (c 0 - k').toNat k' p s
theorem bsM_rg {c : Int → Int} (hC : CatOK c) {G : Int} (hG : G = 4 ∨ G = 8 ∨ G = 16) : ∀ (m : Nat) (k p s : Int), 0 ≤ k → k + m = c 0 → (0 ≤ p ∧ p ≤ 5 * k) → 0 ≤ bsM c G m k p s ∧ bsM c G m k p s ≤ 10000000 := by
  have hN := hC.1
  have hX := hC.2.2
  unfold SetOK at hX
  intro m
  induction m with
  | zero =>
    intro k p s h0 h1 hp
    have hg := gf_b (q := p) hG (by omega)
    have h2 : 0 ≤ gcC c ∧ gcC c ≤ 198 := by unfold gcC; omega
    have h3 : 0 ≤ gfI p G * gcC c := Int.mul_nonneg hg.1 h2.1
    have h4 : gfI p G * gcC c ≤ 15 * 198 := Int.mul_le_mul hg.2.1 h2.2 h2.1 (by omega)
    show 0 ≤ gfI p G * gcC c ∧ gfI p G * gcC c ≤ 10000000
    omega
  | succ m ih =>
    intro k p s h0 h1 hp
    have hk : 0 ≤ k ∧ k < c 0 := by omega
    have hM := most_rg hC hk
    have hl := len_rg hC hk
    have hle := mnI_le (f := fun i => mwV c G k p s (i / (mostC c k + 1)) (i % (mostC c k + 1)) (bsM c G m (k + 1) (p + i / (mostC c k + 1) + lenC c k) (msT c G k p s (i / (mostC c k + 1)) (i % (mostC c k + 1))))) (z := 10000000) (2 * (mostC c k + 1)).toNat
    refine ⟨?_, hle.1⟩
    rcases mnI_at (f := fun i => mwV c G k p s (i / (mostC c k + 1)) (i % (mostC c k + 1)) (bsM c G m (k + 1) (p + i / (mostC c k + 1) + lenC c k) (msT c G k p s (i / (mostC c k + 1)) (i % (mostC c k + 1))))) (z := 10000000) (2 * (mostC c k + 1)).toNat with h | ⟨i, h2, h3, h4⟩
    · show 0 ≤ mnI _ _ _
      rw [h]
      omega
    · show 0 ≤ mnI _ _ _
      rw [h4]
      have hd := dm_b (w := mostC c k + 1) (i := i) (by omega) (by omega)
      have h5 := ih (k + 1) (p + i / (mostC c k + 1) + lenC c k) (msT c G k p s (i / (mostC c k + 1)) (i % (mostC c k + 1))) (by omega) (by omega) (by omega)
      have h6 := mcT_rg hC (G := G) (k := k) (p := p) (s := s) (b := i / (mostC c k + 1)) (q := i % (mostC c k + 1)) hd.1
      unfold mwV
      split <;> omega
theorem mwR_B {c : Int → Int} (hC : CatOK c) {G : Int} {l : Int → Int} {k p s i : Int} (hk : 0 ≤ k ∧ k < c 0) (hp : 0 ≤ p ∧ p ≤ 5 * k) (hs : 0 ≤ s ∧ s ≤ 3) (hi : 0 ≤ i ∧ i < 2 * (mostC c k + 1)) (hL : LmOK c G l (k + 1)) : mwR c G l k p s i = mwB c G k p s i := by
  have hM := most_rg hC hk
  have hl := len_rg hC hk
  have hd := dm_b (w := mostC c k + 1) (i := i) (by omega) hi
  have ht := msT_rg (c := c) (G := G) (k := k) (p := p) (b := i / (mostC c k + 1)) (q := i % (mostC c k + 1)) hs
  unfold mwR mwB
  rw [hL (k + 1) (by omega) (by omega) _ _ (by omega) (by omega) ht.1 ht.2]
theorem mwB_rg {c : Int → Int} (hC : CatOK c) {G : Int} (hG : G = 4 ∨ G = 8 ∨ G = 16) {k p s i : Int} (hk : 0 ≤ k ∧ k < c 0) (hp : 0 ≤ p ∧ p ≤ 5 * k) (hi : 0 ≤ i ∧ i < 2 * (mostC c k + 1)) : 0 ≤ mwB c G k p s i ∧ mwB c G k p s i ≤ 10000198 := by
  have hM := most_rg hC hk
  have hl := len_rg hC hk
  have hd := dm_b (w := mostC c k + 1) (i := i) (by omega) hi
  have h5 := bsM_rg hC hG (c 0 - (k + 1)).toNat (k + 1) (p + i / (mostC c k + 1) + lenC c k) (msT c G k p s (i / (mostC c k + 1)) (i % (mostC c k + 1))) (by omega) (by omega) (by omega)
  have h6 := mcT_rg hC (G := G) (k := k) (p := p) (s := s) (b := i / (mostC c k + 1)) (q := i % (mostC c k + 1)) hd.1
  unfold mwB mwV
  split <;> omega
theorem mfa_01 (c : Int → Int) (k p b q : Int) : mfa c k p b q = 0 ∨ mfa c k p b q = 1 := by
  unfold mfa
  split
  · exact Or.inr rfl
  · exact bI_01 _
/-! the reference's table, row by row -/
def RowD (c : Int → Int) (G : Int) (l : Int → Int) (k p s : Int) : Prop := LmOK c G l (k + 1) ∧ ∀ p' s' : Int, 0 ≤ p' → p' ≤ 5 * k → 0 ≤ s' → s' ≤ 3 → (p' < p ∨ (p' = p ∧ s' < s)) → l (256 * k + 4 * p' + s') = bsM c G (c 0 - k).toNat k p' s'
theorem RowD_0 {c : Int → Int} {G : Int} {l : Int → Int} {k : Int} (h : LmOK c G l (k + 1)) : RowD c G l k 0 0 := ⟨h, fun p' s' a1 _ a3 _ a5 => by omega⟩
theorem RowD_p {c : Int → Int} {G : Int} {l : Int → Int} {k p s : Int} (h : RowD c G l k p s) (hs : 4 ≤ s) : RowD c G l k (p + 1) 0 :=
  ⟨h.1, fun p' s' a1 a2 a3 a4 a5 => h.2 p' s' a1 a2 a3 a4 (by omega)⟩
theorem RowD_e {c : Int → Int} {G : Int} {l : Int → Int} {k p s : Int} (h : RowD c G l k p s) (hp : 5 * k < p) : LmOK c G l k := by
  intro k' h1 h2 p' s' a1 a2 a3 a4
  by_cases e : k' = k
  · subst e
    exact h.2 p' s' a1 a2 a3 a4 (Or.inl (by omega))
  · exact h.1 k' (by omega) h2 p' s' a1 a2 a3 a4
theorem RowD_s {c : Int → Int} {G : Int} {l : Int → Int} {k p s v : Int} (h : RowD c G l k p s) (hk : 0 ≤ k ∧ k ≤ 12) (hc : c 0 ≤ 12) (hp : 0 ≤ p ∧ p ≤ 63) (hs : 0 ≤ s ∧ s ≤ 3) (hv : v = bsM c G (c 0 - k).toNat k p s) : RowD c G (upI l (256 * k + 4 * p + s) v) k p (s + 1) := by
  refine ⟨fun k' h1 h2 p' s' a1 a2 a3 a4 => ?_, fun p' s' a1 a2 a3 a4 a5 => ?_⟩
  · rw [upI_n (by omega)]
    exact h.1 k' h1 h2 p' s' a1 a2 a3 a4
  · by_cases e : p' = p ∧ s' = s
    · rw [upI_s (by omega), e.1, e.2]
      exact hv
    · rw [upI_n (by omega)]
      exact h.2 p' s' a1 a2 a3 a4 (by omega)
theorem Lm_rg {c : Int → Int} (hC : CatOK c) {G : Int} (hG : G = 4 ∨ G = 8 ∨ G = 16) {l : Int → Int} {k k' p s : Int} (h : LmOK c G l k) (hk : k ≤ k' ∧ 0 ≤ k' ∧ k' ≤ c 0) (hp : 0 ≤ p ∧ p ≤ 5 * k') (hs : 0 ≤ s ∧ s ≤ 3) : 0 ≤ l (256 * k' + 4 * p + s) ∧ l (256 * k' + 4 * p + s) ≤ 10000000 := by
  rw [h k' hk.1 hk.2.2 p s hp.1 hp.2 hs.1 hs.2]
  exact bsM_rg hC hG (c 0 - k').toNat k' p s hk.2.1 (by omega) hp
theorem mn_bsM {c : Int → Int} (hC : CatOK c) {G : Int} {l : Int → Int} {k p s : Int} (hk : 0 ≤ k ∧ k < c 0) (hp : 0 ≤ p ∧ p ≤ 5 * k) (hs : 0 ≤ s ∧ s ≤ 3) (hL : LmOK c G l (k + 1)) : mnI (mwR c G l k p s) (2 * (mostC c k + 1)).toNat 10000000 = bsM c G (c 0 - k).toNat k p s := by
  have hM := most_rg hC hk
  rw [bsM_s hk.2]
  exact mnI_c _ (fun i a b => mwR_B hC hk hp hs (by omega) hL)
theorem mwR_rg {c : Int → Int} (hC : CatOK c) {G : Int} (hG : G = 4 ∨ G = 8 ∨ G = 16) {l : Int → Int} {k p s i : Int} (hk : 0 ≤ k ∧ k < c 0) (hp : 0 ≤ p ∧ p ≤ 5 * k) (hs : 0 ≤ s ∧ s ≤ 3) (hi : 0 ≤ i ∧ i < 2 * (mostC c k + 1)) (hL : LmOK c G l (k + 1)) : 0 ≤ mwR c G l k p s i ∧ mwR c G l k p s i ≤ 10000198 := by
  rw [mwR_B hC hk hp hs hi hL]
  exact mwB_rg hC hG hk hp hi
theorem mnI_up {f : Int → Int} {z : Int} (n : Nat) (h : ∀ i : Int, 0 ≤ i → i < n → 0 ≤ f i) (hz : 0 ≤ z) : 0 ≤ mnI f n z ∧ mnI f n z ≤ z := by
  have h1 := mnI_le (f := f) (z := z) n
  refine ⟨?_, h1.1⟩
  rcases mnI_at (f := f) (z := z) n with h2 | ⟨i, h2, h3, h4⟩
  · omega
  · rw [h4]; exact h i h2 h3
