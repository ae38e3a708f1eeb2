/-! pages as they are bound -/
theorem sumI_mono {f : Int → Int} {j : Int} (hj : 0 ≤ j) : ∀ (n : Nat), (∀ k : Int, 0 ≤ k → k < j + n → 0 ≤ f k) → sumI j.toNat f ≤ sumI (j + n).toNat f := by
  intro n
  induction n with
  | zero => intro _; rw [show j + ((0 : Nat) : Int) = j by omega]; exact Int.le_refl _
  | succ n ih =>
    intro h
    have h1 := ih (fun k h1 h2 => h k h1 (by omega))
    rw [show j + ((n + 1 : Nat) : Int) = (j + n) + 1 by omega, sumI_s f (by omega)]
    have h2 := h (j + n) (by omega) (by omega)
    omega
theorem sumI_le {f : Int → Int} {j k : Int} (hj : 0 ≤ j) (hk : j ≤ k) (h : ∀ i : Int, 0 ≤ i → i < k → 0 ≤ f i) : sumI j.toNat f ≤ sumI k.toNat f := by
  have h1 := sumI_mono (f := f) hj (k - j).toNat (fun i h1 h2 => h i h1 (by omega))
  rw [show j + ((k - j).toNat : Int) = k by omega] at h1
  exact h1
theorem sumI_nn {f : Int → Int} {k : Int} (hk : 0 ≤ k) (h : ∀ i : Int, 0 ≤ i → i < k → 0 ≤ f i) : 0 ≤ sumI k.toNat f := by
  have := sumI_le (f := f) (j := 0) (Int.le_refl 0) hk h
  rw [sumI_0] at this
  exact this
/-- which lot has a page: its length is taken off, lot by lot -/
def loR (its : Int → Int) : Nat → Int → Int → Int
  | 0, _, _ => -5
  | m + 1, k, left => if left ≤ its k then k else loR its m (k + 1) (left - its k)
theorem loR_at {its : Int → Int} : ∀ (m : Nat) (j k left : Int), 0 ≤ j → j ≤ k → k < j + m → (∀ i : Int, 0 ≤ i → i < k → 0 ≤ its i) → sumI k.toNat its - sumI j.toNat its < left → left ≤ sumI (k + 1).toNat its - sumI j.toNat its → loR its m j left = k := by
  intro m
  induction m with
  | zero => intro j k left h0 h1 h2; omega
  | succ m ih =>
    intro j k left h0 h1 h2 hn h3 h4
    show (if left ≤ its j then j else loR its m (j + 1) (left - its j)) = k
    by_cases e : j = k
    · subst e
      rw [sumI_s _ h0] at h4
      rw [if_pos (by omega)]
    · have h5 := sumI_le (f := its) (j := j + 1) (k := k) (by omega) (by omega) hn
      have h6 := sumI_s its h0
      rw [if_neg (by omega)]
      exact ih (j + 1) k (left - its j) (by omega) (by omega) (by omega) hn (by omega) (by omega)
theorem loR_out {its : Int → Int} : ∀ (m : Nat) (j left : Int), 0 ≤ j → (∀ i : Int, 0 ≤ i → i < j + m → 0 ≤ its i) → sumI (j + m).toNat its - sumI j.toNat its < left → loR its m j left = -5 := by
  intro m
  induction m with
  | zero => intro j left h0 hn h; rfl
  | succ m ih =>
    intro j left h0 hn h
    show (if left ≤ its j then j else loR its m (j + 1) (left - its j)) = -5
    have h6 := sumI_s its h0
    have e1 : j + ((m + 1 : Nat) : Int) = (j + 1) + m := by omega
    rw [e1] at h
    have h5 := sumI_le (f := its) (j := j + 1) (k := j + 1 + m) (by omega) (by omega) (fun i a b => hn i a (by omega))
    rw [if_neg (by omega)]
    exact ih (j + 1) (left - its j) (by omega) (fun i a b => hn i a (by omega)) (by omega)
def lotC (c : Int → Int) (p : Int) : Int := loR (itsC c) (c 0).toNat 0 p
def fpC (c : Int → Int) (k : Int) : Int := pgC c k + c (k * 4 + 3) + 1
def ppC (c : Int → Int) (k : Int) : Int := fpC c k + c (k * 4 + 4)
def kindC (c : Int → Int) (p : Int) : Int := if lotC c p = -5 then 4 else if p < fpC c (lotC c p) then 0 else if ¬ c (lotC c p * 4 + 2) = 0 ∧ p = ppC c (lotC c p) then 1 + c (lotC c p * 4 + 2) else 1
def ownC (c : Int → Int) (p : Int) : Int := if kindC c p = 0 ∨ kindC c p = 4 then -5 else lotC c p
theorem lot_f {c : Int → Int} (hC : CatOK c) {k : Int} (hk : 0 ≤ k ∧ k < c 0) : LotOK (c (k * 4 + 1)) (c (k * 4 + 2)) (c (k * 4 + 3)) (c (k * 4 + 4)) := hC.2.1 k hk.1 hk.2
theorem len_rg {c : Int → Int} (hC : CatOK c) {k : Int} (hk : 0 ≤ k ∧ k < c 0) : 1 ≤ lenC c k ∧ lenC c k ≤ 4 ∧ lenC c k = c (k * 4 + 1) + bI (¬ c (k * 4 + 2) = 0) := by
  have h := lot_f hC hk
  have h2 := bI_rg (¬ c (k * 4 + 2) = 0)
  unfold LotOK at h
  refine ⟨?_, ?_, rfl⟩ <;> (unfold lenC; omega)
theorem its_rg {c : Int → Int} (hC : CatOK c) {k : Int} (hk : 0 ≤ k ∧ k < c 0) : 1 ≤ itsC c k ∧ itsC c k ≤ 5 ∧ itsC c k = c (k * 4 + 3) + lenC c k := by
  have h := lot_f hC hk
  have h2 := len_rg hC hk
  unfold LotOK at h
  refine ⟨?_, ?_, rfl⟩ <;> (unfold itsC; omega)
theorem pgC_s {c : Int → Int} {k : Int} (hk : 0 ≤ k) : pgC c (k + 1) = pgC c k + itsC c k := sumI_s _ hk
theorem pgC_b {c : Int → Int} (hC : CatOK c) {k : Int} (hk : 0 ≤ k ∧ k ≤ c 0) : k ≤ pgC c k ∧ pgC c k ≤ 5 * k := by
  have h := sumI_b (f := itsC c) (lo := 1) (hi := 5) k.toNat (fun i h1 h2 => by have := its_rg hC (k := i) (by omega); omega)
  unfold pgC
  omega
theorem lotC_at {c : Int → Int} (hC : CatOK c) {k p : Int} (hk : 0 ≤ k ∧ k < c 0) (h1 : pgC c k < p) (h2 : p ≤ pgC c (k + 1)) : lotC c p = k := by
  refine loR_at (c 0).toNat 0 k p (by omega) hk.1 (by omega) (fun i a b => by have := its_rg hC (k := i) (by omega); omega) ?_ ?_
  · rw [sumI_0]
    unfold pgC at h1
    omega
  · rw [sumI_0]
    unfold pgC at h2
    omega
theorem lotC_out {c : Int → Int} (hC : CatOK c) {p : Int} (h1 : pgC c (c 0) < p) : lotC c p = -5 := by
  have hN := hC.1
  refine loR_out (c 0).toNat 0 p (by omega) (fun i a b => by have := its_rg hC (k := i) (by omega); omega) ?_
  rw [sumI_0, show (0 : Int) + ((c 0).toNat : Int) = c 0 by omega]
  unfold pgC at h1
  omega
/-- the kinds of the pages of a lot: its blank, its own pages -/
theorem kind_b {c : Int → Int} (hC : CatOK c) {k p : Int} (hk : 0 ≤ k ∧ k < c 0) (hb : ¬ c (k * 4 + 3) = 0) (hp : p = pgC c k + 1) : kindC c p = 0 ∧ ownC c p = -5 := by
  have h := lot_f hC hk
  have h2 := its_rg hC hk
  have h3 := pgC_s (c := c) hk.1
  unfold LotOK at h
  have e1 : lotC c p = k := lotC_at hC hk (by omega) (by omega)
  have e2 : kindC c p = 0 := by
    unfold kindC fpC
    rw [e1, if_neg (by omega), if_pos (by omega)]
  exact ⟨e2, by unfold ownC; rw [if_pos (Or.inl e2)]⟩
theorem kind_o {c : Int → Int} (hC : CatOK c) {k p r : Int} (hk : 0 ≤ k ∧ k < c 0) (hr : 0 ≤ r ∧ r < lenC c k) (hp : p = pgC c k + c (k * 4 + 3) + 1 + r) : kindC c p = (if ¬ c (k * 4 + 2) = 0 ∧ r = c (k * 4 + 4) then 1 + c (k * 4 + 2) else 1) ∧ ownC c p = k := by
  have h := lot_f hC hk
  have h2 := its_rg hC hk
  have h3 := pgC_s (c := c) hk.1
  unfold LotOK at h
  have e1 : lotC c p = k := lotC_at hC hk (by omega) (by omega)
  have e2 : kindC c p = (if ¬ c (k * 4 + 2) = 0 ∧ r = c (k * 4 + 4) then 1 + c (k * 4 + 2) else 1) := by
    unfold kindC ppC fpC
    rw [e1, if_neg (by omega), if_neg (by omega)]
    by_cases q : ¬ c (k * 4 + 2) = 0 ∧ r = c (k * 4 + 4)
    · rw [if_pos q, if_pos ⟨q.1, by omega⟩]
    · rw [if_neg q, if_neg (fun z => q ⟨z.1, by omega⟩)]
  refine ⟨e2, ?_⟩
  unfold ownC
  rw [e2, e1]
  by_cases q : ¬ c (k * 4 + 2) = 0 ∧ r = c (k * 4 + 4)
  · rw [if_pos q, if_neg (by omega)]
  · rw [if_neg q, if_neg (by omega)]
theorem kind_e {c : Int → Int} (hC : CatOK c) {p : Int} (h1 : pgC c (c 0) < p) : kindC c p = 4 ∧ ownC c p = -5 := by
  have e1 := lotC_out hC h1
  have e2 : kindC c p = 4 := by
    unfold kindC
    rw [if_pos e1]
  exact ⟨e2, by unfold ownC; rw [if_pos (Or.inr e2)]⟩
/-- every page of the lots lies in one of them -/
theorem page_in {c : Int → Int} (hC : CatOK c) {p : Int} (h1 : 1 ≤ p) (h2 : p ≤ pgC c (c 0)) : ∃ k : Int, (0 ≤ k ∧ k < c 0) ∧ pgC c k < p ∧ p ≤ pgC c (k + 1) := by
  have hN := hC.1
  have key : ∀ n : Nat, (n : Int) ≤ c 0 → p ≤ pgC c n → ∃ k : Int, (0 ≤ k ∧ k < c 0) ∧ pgC c k < p ∧ p ≤ pgC c (k + 1) := by
    intro n
    induction n with
    | zero =>
      intro _ h
      have e : pgC c ((0 : Nat) : Int) = 0 := rfl
      omega
    | succ n ih =>
      intro hn h
      by_cases q : p ≤ pgC c n
      · exact ih (by omega) q
      · exact ⟨n, ⟨by omega, by omega⟩, by omega, h⟩
  exact key (c 0).toNat (by omega) (by rw [show ((c 0).toNat : Int) = c 0 by omega]; exact h2)
theorem kind_rg {c : Int → Int} (hC : CatOK c) {p : Int} (h1 : 1 ≤ p) : (0 ≤ kindC c p ∧ kindC c p ≤ 4) ∧ (-5 ≤ ownC c p ∧ ownC c p ≤ 12) := by
  by_cases q : p ≤ pgC c (c 0)
  · obtain ⟨k, hk, h2, h3⟩ := page_in hC h1 q
    have h := lot_f hC hk
    have h4 := its_rg hC hk
    have h5 := pgC_s (c := c) hk.1
    have hN := hC.1
    unfold LotOK at h
    by_cases b : p = pgC c k + 1 ∧ ¬ c (k * 4 + 3) = 0
    · have := kind_b hC hk b.2 b.1
      omega
    · have h6 := kind_o hC (p := p) (r := p - pgC c k - c (k * 4 + 3) - 1) hk (by omega) (by omega)
      rw [h6.1, h6.2]
      split <;> omega
  · have := kind_e hC (p := p) (by omega)
    omega
def LayP (c : Int → Int) (m : Int) (o kd : Int → Int) : Prop := ∀ p : Int, 1 ≤ p → p ≤ m → o p = ownC c p ∧ kd p = kindC c p
def LayF (c : Int → Int) (k : Int) (f g : Int → Int) : Prop := ∀ i : Int, 0 ≤ i → i < k → f i = fpC c i ∧ g i = if c (i * 4 + 2) = 0 then 0 else ppC c i
theorem LayP_s {c : Int → Int} {m ow ki : Int} {o kd : Int → Int} (h : LayP c m o kd) (h1 : ow = ownC c (m + 1)) (h2 : ki = kindC c (m + 1)) : LayP c (m + 1) (upI o (m + 1) ow) (upI kd (m + 1) ki) := by
  intro p hp1 hp2
  by_cases e : p = m + 1
  · rw [upI_s e, upI_s e, e]
    exact ⟨h1, h2⟩
  · rw [upI_n e, upI_n e]
    exact h p hp1 (by omega)
theorem gf_b {q g : Int} (hg : g = 4 ∨ g = 8 ∨ g = 16) (hq : 0 ≤ q ∧ q ≤ 60) : 0 ≤ gfI q g ∧ gfI q g ≤ 15 ∧ q ≤ gfI q g * g ∧ gfI q g * g ≤ 64 ∧ gfI q g * g ≤ q + g - 1 := by
  unfold gfI
  rcases hg with rfl | rfl | rfl <;> omega
def othI (p laid : Int) : Int := if p ≤ 1 ∨ laid ≤ p then -5 else if p % 2 = 0 then p + 1 else p - 1
def blkI (z : Int) : Int := bI (z = 0 ∨ z = 4)
def plkI (z : Int) : Int := bI (¬ (z = 0 ∨ z = 4) ∧ ¬ z = 1)
def whyI (o kd pp : Int → Int) (laid lot : Int) : Int := if pp lot = 0 then 0 else if othI (pp lot) laid = -5 then 1 else if kd (othI (pp lot) laid) = 0 ∨ kd (othI (pp lot) laid) = 4 then 3 else if o (othI (pp lot) laid) = lot then 0 else 2
/-- the owners in a row of pages: the latest, how many -/
def ltI (o : Int → Int) (base : Int) : Nat → Int
  | 0 => -5
  | i + 1 => if o (base + ((i : Int) + 1)) = -5 then ltI o base i else o (base + ((i : Int) + 1))
def lcI (o : Int → Int) (base : Int) : Nat → Int
  | 0 => 0
  | i + 1 => lcI o base i + bI (¬ o (base + ((i : Int) + 1)) = -5 ∧ ¬ o (base + ((i : Int) + 1)) = ltI o base i)
theorem ltI_s (o : Int → Int) (base : Int) {i : Int} (h : 1 ≤ i) : ltI o base i.toNat = if o (base + i) = -5 then ltI o base (i - 1).toNat else o (base + i) := by
  obtain ⟨n, rfl⟩ : ∃ n : Nat, i = (n : Int) + 1 := ⟨(i - 1).toNat, by omega⟩
  rw [show ((n : Int) + 1).toNat = n + 1 by omega, show ((n : Int) + 1 - 1).toNat = n by omega]
  rfl
theorem lcI_s (o : Int → Int) (base : Int) {i : Int} (h : 1 ≤ i) : lcI o base i.toNat = lcI o base (i - 1).toNat + bI (¬ o (base + i) = -5 ∧ ¬ o (base + i) = ltI o base (i - 1).toNat) := by
  obtain ⟨n, rfl⟩ : ∃ n : Nat, i = (n : Int) + 1 := ⟨(i - 1).toNat, by omega⟩
  rw [show ((n : Int) + 1).toNat = n + 1 by omega, show ((n : Int) + 1 - 1).toNat = n by omega]
  rfl
/-- is there one from i on -/
def anyI (f : Int → Int) : Nat → Int → Int
  | 0, _ => 0
  | m + 1, i => if f i = 1 then 1 else anyI f m (i + 1)
theorem anyI_01 (f : Int → Int) : ∀ (m : Nat) (i : Int), anyI f m i = 0 ∨ anyI f m i = 1 := by
  intro m
  induction m with
  | zero => intro i; exact Or.inl rfl
  | succ m ih =>
    intro i
    show (if _ then _ else _) = _ ∨ (if _ then _ else _) = _
    split
    · exact Or.inr rfl
    · exact ih (i + 1)
theorem anyI_iff (f : Int → Int) : ∀ (m : Nat) (i : Int), anyI f m i = 1 ↔ ∃ j : Int, i ≤ j ∧ j < i + m ∧ f j = 1 := by
  intro m
  induction m with
  | zero =>
    intro i
    constructor
    · intro h; exact absurd h (by show ¬ (0 : Int) = 1; omega)
    · rintro ⟨j, h1, h2, -⟩; omega
  | succ m ih =>
    intro i
    show (if f i = 1 then (1 : Int) else anyI f m (i + 1)) = 1 ↔ _
    by_cases q : f i = 1
    · rw [if_pos q]
      exact ⟨fun _ => ⟨i, by omega, by omega, q⟩, fun _ => rfl⟩
    · rw [if_neg q, ih (i + 1)]
      constructor
      · rintro ⟨j, h1, h2, h3⟩
        exact ⟨j, by omega, by omega, h3⟩
      · rintro ⟨j, h1, h2, h3⟩
        by_cases e : j = i
        · subst e; exact absurd h3 q
        · exact ⟨j, by omega, by omega, h3⟩
def hitI (kd : Int → Int) (base side : Int) (i : Int) : Int := bI (bI (2 ≤ (base + i) % 4) = side ∧ kd (base + i) = 3)
def colI (kd : Int → Int) (size g side : Int) : Int := anyI (hitI kd (g * size) side) size.toNat 1
