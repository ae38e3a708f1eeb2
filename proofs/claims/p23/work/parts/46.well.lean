/-! pages, lots and gatherings tell one another -/
theorem pq_0 {c : Int → Int} {q : Int} (hq : 1 ≤ q ∧ q ≤ laC c) : pgR c q 0 = ownC c q ∧ pgR c q 1 = kindC c q ∧ pgR c q 2 = (q - 1) / c (49 + 0) ∧ pgR c q 3 = bI (2 ≤ q % 4) ∧ pgR c q 4 = othI q (laC c) := by
  have k : ∀ w : Int, pgR c q w = if w = 0 then ownC c q else if w = 1 then kindC c q else if w = 2 then (q - 1) / c (49 + 0) else if w = 3 then bI (2 ≤ q % 4) else if w = 4 then othI q (laC c) else -2 := fun w => by
    unfold pgR
    exact if_neg (fun z => z hq)
  exact ⟨(k 0).trans rfl, (k 1).trans rfl, (k 2).trans rfl, (k 3).trans rfl, (k 4).trans rfl⟩
theorem gq_0 {c : Int → Int} {j : Int} (hj : 0 ≤ j ∧ j < gaC c) : gaR c j 3 = colI (kindC c) (c (49 + 0)) j 0 + colI (kindC c) (c (49 + 0)) j 1 ∧ gaR c j 4 = colI (kindC c) (c (49 + 0)) j 0 ∧ gaR c j 5 = colI (kindC c) (c (49 + 0)) j 1 := by
  refine ⟨?_, ?_, ?_⟩
  · unfold gaR
    exact (if_neg (fun z => z hj)).trans rfl
  · unfold gaR
    exact (if_neg (fun z => z hj)).trans rfl
  · unfold gaR
    exact (if_neg (fun z => z hj)).trans rfl
theorem oth_2 {c : Int → Int} (hC : CatOK c) {p : Int} (hp : 1 ≤ p ∧ p ≤ laC c) : (othI p (laC c) = -5 ∧ (p = 1 ∨ p = laC c)) ∨ (1 ≤ othI p (laC c) ∧ othI p (laC c) ≤ laC c ∧ othI (othI p (laC c)) (laC c) = p ∧ (othI p (laC c) = p + 1 ∨ othI p (laC c) = p - 1)) := by
  have h4 := la_4 hC
  by_cases q : p ≤ 1 ∨ laC c ≤ p
  · have e : othI p (laC c) = -5 := by unfold othI; rw [if_pos q]
    exact Or.inl ⟨e, by omega⟩
  · by_cases r : p % 2 = 0
    · have e : othI p (laC c) = p + 1 := by unfold othI; rw [if_neg q, if_pos r]
      rw [e]
      refine Or.inr ⟨by omega, by omega, ?_, Or.inl rfl⟩
      unfold othI
      rw [if_neg (by omega), if_neg (by omega)]
      omega
    · have e : othI p (laC c) = p - 1 := by unfold othI; rw [if_neg q, if_neg r]
      rw [e]
      refine Or.inr ⟨by omega, by omega, ?_, Or.inr rfl⟩
      unfold othI
      rw [if_neg (by omega), if_pos (by omega)]
      omega
/-- what a page is -/
theorem kd_4 {c : Int → Int} (hC : CatOK c) {p : Int} (hp : 1 ≤ p) : (kindC c p = 4 ↔ pgC c (c 0) < p) ∧ (ownC c p = -5 ↔ (kindC c p = 0 ∨ kindC c p = 4)) := by
  constructor
  · constructor
    · intro h
      refine Decidable.byContradiction fun z => ?_
      obtain ⟨k, hk, h2, h3⟩ := page_in hC hp (by omega)
      have e := lotC_at hC hk h2 h3
      have hL := lot_f hC hk
      unfold LotOK at hL
      unfold kindC at h
      rw [e, if_neg (by omega)] at h
      split at h
      · omega
      · split at h <;> omega
    · exact fun h => (kind_e hC h).1
  · constructor
    · intro h
      refine Decidable.byContradiction fun z => ?_
      unfold ownC at h
      rw [if_neg z] at h
      exact z (Or.inr (by unfold kindC; rw [if_pos h]))
    · intro h
      unfold ownC
      rw [if_pos h]
theorem kd_p {c : Int → Int} (hC : CatOK c) {p : Int} (hp : 1 ≤ p) (h : kindC c p = 2 ∨ kindC c p = 3) : (0 ≤ ownC c p ∧ ownC c p < c 0) ∧ ¬ c (ownC c p * 4 + 2) = 0 ∧ p = ppC c (ownC c p) ∧ kindC c p = 1 + c (ownC c p * 4 + 2) := by
  have hl := lo_rg hC hp
  have e : ownC c p = lotC c p := by
    unfold ownC
    rw [if_neg (by omega)]
  rw [e]
  unfold kindC at h ⊢
  rcases hl with hl | hl
  · rw [if_pos hl] at h; omega
  · rw [if_neg (by omega)] at h ⊢
    by_cases a : p < fpC c (lotC c p)
    · rw [if_pos a] at h; omega
    · rw [if_neg a] at h ⊢
      by_cases b : ¬ c (lotC c p * 4 + 2) = 0 ∧ p = ppC c (lotC c p)
      · rw [if_pos b]
        exact ⟨hl, b.1, b.2, rfl⟩
      · rw [if_neg b] at h; omega
theorem kd_1 {c : Int → Int} (hC : CatOK c) {p k : Int} (hp : 1 ≤ p) (hk : 0 ≤ k) (h : ownC c p = k) (hn : ¬ p = ppC c k) : kindC c p = 1 := by
  have h1 := own_k hC h hk
  have e : ownC c p = lotC c p := by
    unfold ownC
    rw [if_neg (fun z => z.elim h1.1 h1.2)]
  rw [h] at e
  unfold kindC at h1 ⊢
  rw [← e] at h1 ⊢
  rw [if_neg (by omega)] at h1 ⊢
  by_cases a : p < fpC c k
  · rw [if_pos a] at h1
    exact absurd rfl h1.1
  · rw [if_neg a, if_neg (fun z => hn z.2)]
/-- a plate faces its text just if the other page is text of its lot -/
theorem wh_its {c : Int → Int} (hC : CatOK c) {k : Int} (hk : 0 ≤ k ∧ k < c 0) (hp : ¬ c (k * 4 + 2) = 0) : whC c k = 0 ↔ (¬ othI (ppC c k) (laC c) = -5 ∧ ownC c (othI (ppC c k) (laC c)) = k ∧ kindC c (othI (ppC c k) (laC c)) = 1) := by
  have hb := pp_b hC hk
  have hpl := hb.2.2.2.2 hp
  have hla := (la_b hC).2.1
  rw [wh_own hC hk hp]
  have h2 := oth_2 hC (p := ppC c k) (by omega)
  constructor
  · rintro ⟨a, b⟩
    have h3 : ownC c (othI (ppC c k) (laC c)) = k := (own_iff hC (by omega) hk).mpr b
    exact ⟨a, h3, kd_1 hC (by omega) hk.1 h3 (by omega)⟩
  · rintro ⟨a, b, -⟩
    exact ⟨a, (own_iff hC (by omega) hk).mp b⟩
/-! sums over pages -/
theorem sumI_app {f : Int → Int} {a : Int} (ha : 0 ≤ a) : ∀ n : Nat, sumI (a + n).toNat f = sumI a.toNat f + sumI n (fun r => f (a + r)) := by
  intro n
  induction n with
  | zero => rw [show a + ((0 : Nat) : Int) = a by omega]; exact (Int.add_zero _).symm
  | succ n ih =>
    rw [show a + ((n + 1 : Nat) : Int) = (a + n) + 1 by omega, sumI_s f (by omega), ih]
    show _ = sumI a.toNat f + (sumI n (fun r => f (a + r)) + f (a + (n : Int)))
    omega
theorem pg_sum {c : Int → Int} (hC : CatOK c) {f : Int → Int} : ∀ n : Nat, (n : Int) ≤ c 0 → sumI (pgC c n).toNat (fun j => f (j + 1)) = sumI n (fun k => sumI (itsC c k).toNat (fun r => f (pgC c k + r + 1))) := by
  intro n
  induction n with
  | zero => intro _; rfl
  | succ n ih =>
    intro h
    have hi := its_rg hC (k := (n : Int)) (by omega)
    have hb := pgC_b hC (k := (n : Int)) (by omega)
    have e : pgC c ((n + 1 : Nat) : Int) = pgC c n + ((itsC c n).toNat : Int) := by
      rw [show ((n + 1 : Nat) : Int) = (n : Int) + 1 from rfl, pgC_s (by omega)]
      omega
    rw [e, sumI_app (by omega), ih (by omega)]
    rfl
theorem sumI_one {f : Int → Int} {k0 : Int} {n : Nat} (h : ∀ k : Int, 0 ≤ k → k < n → ¬ k = k0 → f k = 0) (h0 : 0 ≤ k0 ∧ k0 < n) : sumI n f = f k0 := by
  have h1 := sumI_pt (f := f) (g := fun _ => 0) (k0 := k0) (d := f k0) n (fun k a b d => h k a b d) (by show f k0 = 0 + f k0; omega) h0.1 h0.2
  rw [h1, sumI_z n (fun _ _ _ => rfl)]
  omega
/-- the pages of a lot, one by one -/
theorem kd_lot {c : Int → Int} (hC : CatOK c) {k r : Int} (hk : 0 ≤ k ∧ k < c 0) (hr : 0 ≤ r ∧ r < itsC c k) : (r < c (k * 4 + 3) ∧ kindC c (pgC c k + r + 1) = 0) ∨ (c (k * 4 + 3) ≤ r ∧ ownC c (pgC c k + r + 1) = k ∧ kindC c (pgC c k + r + 1) = if ¬ c (k * 4 + 2) = 0 ∧ r = c (k * 4 + 3) + c (k * 4 + 4) then 1 + c (k * 4 + 2) else 1) := by
  have hL := lot_f hC hk
  have hi := its_rg hC hk
  unfold LotOK at hL
  by_cases b : r < c (k * 4 + 3)
  · exact Or.inl ⟨b, (kind_b hC hk (by omega) (by omega)).1⟩
  · have h := kind_o hC (p := pgC c k + r + 1) (r := r - c (k * 4 + 3)) hk (by omega) (by omega)
    refine Or.inr ⟨by omega, h.2, ?_⟩
    rw [h.1]
    by_cases q : ¬ c (k * 4 + 2) = 0 ∧ r = c (k * 4 + 3) + c (k * 4 + 4)
    · rw [if_pos q, if_pos ⟨q.1, by omega⟩]
    · rw [if_neg q, if_neg (fun z => q ⟨z.1, by omega⟩)]
def fBl (c : Int → Int) (p : Int) : Int := bI (kindC c p = 0)
def fPl (c : Int → Int) (p : Int) : Int := bI (kindC c p = 2 ∨ kindC c p = 3)
def fBe (c : Int → Int) (p : Int) : Int := bI (kindC c p = 4)
def fFc (c : Int → Int) (p : Int) : Int := bI ((kindC c p = 2 ∨ kindC c p = 3) ∧ whC c (ownC c p) = 0)
theorem in_bl {c : Int → Int} (hC : CatOK c) {k : Int} (hk : 0 ≤ k ∧ k < c 0) : sumI (itsC c k).toNat (fun r => fBl c (pgC c k + r + 1)) = c (k * 4 + 3) := by
  have hL := lot_f hC hk
  have hi := its_rg hC hk
  unfold LotOK at hL
  have h1 : ∀ r : Int, 0 ≤ r → r < ((itsC c k).toNat : Int) → ¬ r < c (k * 4 + 3) → fBl c (pgC c k + r + 1) = 0 := fun r a b d => by
    have h := kd_lot hC hk (r := r) (by omega)
    unfold fBl
    rcases h with h | h
    · omega
    · rw [h.2.2]
      split
      · exact bI_f (by omega)
      · exact bI_f (by omega)
  by_cases q : c (k * 4 + 3) = 0
  · rw [q]
    exact sumI_z _ (fun r a b => h1 r a b (by omega))
  · have h2 := kd_lot hC hk (r := 0) (by omega)
    rw [sumI_one (k0 := 0) (fun r a b d => h1 r a b (by omega)) (by omega)]
    show fBl c (pgC c k + 0 + 1) = _
    unfold fBl
    rcases h2 with h2 | h2
    · rw [bI_t h2.2]; omega
    · omega
theorem in_pl {c : Int → Int} (hC : CatOK c) {k : Int} (hk : 0 ≤ k ∧ k < c 0) : sumI (itsC c k).toNat (fun r => fPl c (pgC c k + r + 1)) = bI (¬ c (k * 4 + 2) = 0) ∧ sumI (itsC c k).toNat (fun r => fFc c (pgC c k + r + 1)) = bI (¬ c (k * 4 + 2) = 0 ∧ whC c k = 0) := by
  have hL := lot_f hC hk
  have hi := its_rg hC hk
  have hl := len_rg hC hk
  unfold LotOK at hL
  have h1 : ∀ r : Int, 0 ≤ r → r < ((itsC c k).toNat : Int) → ¬ (¬ c (k * 4 + 2) = 0 ∧ r = c (k * 4 + 3) + c (k * 4 + 4)) → fPl c (pgC c k + r + 1) = 0 ∧ fFc c (pgC c k + r + 1) = 0 := fun r a b d => by
    have h := kd_lot hC hk (r := r) (by omega)
    have h2 : ¬ (kindC c (pgC c k + r + 1) = 2 ∨ kindC c (pgC c k + r + 1) = 3) := by
      rcases h with h | h
      · omega
      · rw [h.2.2, if_neg d]; omega
    unfold fPl fFc
    exact ⟨bI_f h2, bI_f (fun z => h2 z.1)⟩
  by_cases q : c (k * 4 + 2) = 0
  · rw [bI_f (fun z => z q), bI_f (fun z => z.1 q)]
    exact ⟨sumI_z _ (fun r a b => (h1 r a b (fun z => z.1 q)).1), sumI_z _ (fun r a b => (h1 r a b (fun z => z.1 q)).2)⟩
  · rw [bI_t q] at hl
    have h2 := kd_lot hC hk (r := c (k * 4 + 3) + c (k * 4 + 4)) (by omega)
    rcases h2 with h2 | h2
    · omega
    · have h3 := h2.2.2
      rw [if_pos ⟨q, rfl⟩] at h3
      have h4 : kindC c (pgC c k + (c (k * 4 + 3) + c (k * 4 + 4)) + 1) = 2 ∨ kindC c (pgC c k + (c (k * 4 + 3) + c (k * 4 + 4)) + 1) = 3 := by omega
      constructor
      · rw [sumI_one (k0 := c (k * 4 + 3) + c (k * 4 + 4)) (fun r a b d => (h1 r a b (fun z => d z.2)).1) (by omega), bI_t q]
        exact bI_t h4
      · rw [sumI_one (k0 := c (k * 4 + 3) + c (k * 4 + 4)) (fun r a b d => (h1 r a b (fun z => d z.2)).2) (by omega)]
        show bI _ = bI _
        rw [h2.2.1]
        by_cases w : whC c k = 0
        · rw [bI_t ⟨h4, w⟩, bI_t ⟨q, w⟩]
        · rw [bI_f (fun z => w z.2), bI_f (fun z => w z.2)]
theorem pg_all {c : Int → Int} (hC : CatOK c) {f : Int → Int} (hf : ∀ p : Int, kindC c p = 4 → f p = 0) : sumI (laC c).toNat (fun j => f (j + 1)) = sumI (c 0).toNat (fun k => sumI (itsC c k).toNat (fun r => f (pgC c k + r + 1))) := by
  have hN := hC.1
  have hla := (la_b hC).2
  have h1 := pg_sum hC (f := f) (c 0).toNat (by omega)
  rw [show (((c 0).toNat : Nat) : Int) = c 0 by omega] at h1
  have h2 := sumI_app (f := fun j => f (j + 1)) (a := pgC c (c 0)) (by omega) (laC c - pgC c (c 0)).toNat
  rw [show pgC c (c 0) + (((laC c - pgC c (c 0)).toNat : Nat) : Int) = laC c by omega] at h2
  rw [h2, h1, sumI_z _ (fun r a b => hf _ (kind_e hC (by omega)).1)]
  omega
theorem all_bl {c : Int → Int} (hC : CatOK c) : sumI (laC c).toNat (fun j => fBl c (j + 1)) = blC c := by
  have hN := hC.1
  rw [pg_all hC (fun p h => by unfold fBl; exact bI_f (by omega))]
  exact sumI_c _ (fun k a b => in_bl hC (by omega))
theorem all_pl {c : Int → Int} (hC : CatOK c) : sumI (laC c).toNat (fun j => fPl c (j + 1)) = plC c 1 + plC c 2 := by
  have hN := hC.1
  rw [pg_all hC (fun p h => by unfold fPl; exact bI_f (by omega)), pl_12 hC]
  exact sumI_c _ (fun k a b => (in_pl hC (by omega)).1)
theorem all_fc {c : Int → Int} (hC : CatOK c) : sumI (laC c).toNat (fun j => fFc c (j + 1)) = fcC c := by
  have hN := hC.1
  rw [pg_all hC (fun p h => by unfold fFc; exact bI_f (fun z => by omega))]
  exact sumI_c _ (fun k a b => (in_pl hC (by omega)).2)
theorem sumI_k {v : Int} : ∀ n : Nat, sumI n (fun _ => v) = v * n := by
  intro n
  induction n with
  | zero => exact (Int.mul_zero v).symm
  | succ n ih =>
    show sumI n (fun _ => v) + v = v * ((n : Int) + 1)
    rw [ih, Int.mul_add, Int.mul_one]
theorem all_be {c : Int → Int} (hC : CatOK c) : sumI (laC c).toNat (fun j => fBe c (j + 1)) = laC c - pgC c (c 0) := by
  have hN := hC.1
  have hla := (la_b hC).2
  have h2 := sumI_app (f := fun j => fBe c (j + 1)) (a := pgC c (c 0)) (by omega) (laC c - pgC c (c 0)).toNat
  rw [show pgC c (c 0) + (((laC c - pgC c (c 0)).toNat : Nat) : Int) = laC c by omega] at h2
  have e0 : sumI (pgC c (c 0)).toNat (fun j => fBe c (j + 1)) = 0 := sumI_z _ (fun j a b => by
    unfold fBe
    exact bI_f (fun z => by have := (kd_4 hC (p := j + 1) (by omega)).1.mp z; omega))
  have e1 : sumI (laC c - pgC c (c 0)).toNat (fun r => fBe c (pgC c (c 0) + r + 1)) = sumI (laC c - pgC c (c 0)).toNat (fun _ => 1) := sumI_c _ (fun r a b => by
    unfold fBe
    exact bI_t (kind_e hC (by omega)).1)
  rw [sumI_k] at e1
  have h3 : sumI (laC c).toNat (fun j => fBe c (j + 1)) = sumI (pgC c (c 0)).toNat (fun j => fBe c (j + 1)) + sumI (laC c - pgC c (c 0)).toNat (fun r => fBe c (pgC c (c 0) + r + 1)) := h2
  omega
/-! the sides of a gathering, by its pages -/
def anQ (f : Int → Int) : Nat → Int
  | 0 => 0
  | n + 1 => if f ((n : Int) + 1) = 1 then 1 else anQ f n
theorem anQ_01 (f : Int → Int) (n : Nat) : anQ f n = 0 ∨ anQ f n = 1 := by
  induction n with
  | zero => exact Or.inl rfl
  | succ n ih =>
    show (if _ then (1 : Int) else _) = 0 ∨ (if _ then (1 : Int) else _) = 1
    split
    · exact Or.inr rfl
    · exact ih
theorem anQ_iff (f : Int → Int) : ∀ n : Nat, anQ f n = 1 ↔ ∃ j : Int, 1 ≤ j ∧ j ≤ n ∧ f j = 1 := by
  intro n
  induction n with
  | zero =>
    constructor
    · intro h; exact absurd h (by show ¬ (0 : Int) = 1; omega)
    · rintro ⟨j, h1, h2, -⟩; omega
  | succ n ih =>
    show (if f ((n : Int) + 1) = 1 then (1 : Int) else anQ f n) = 1 ↔ _
    by_cases q : f ((n : Int) + 1) = 1
    · rw [if_pos q]
      exact ⟨fun _ => ⟨(n : Int) + 1, by omega, by omega, q⟩, fun _ => rfl⟩
    · rw [if_neg q, ih]
      constructor
      · rintro ⟨j, h1, h2, h3⟩
        exact ⟨j, h1, by omega, h3⟩
      · rintro ⟨j, h1, h2, h3⟩
        by_cases e : j = (n : Int) + 1
        · rw [e] at h3; exact absurd h3 q
        · exact ⟨j, h1, by omega, h3⟩
theorem anQ_s (f : Int → Int) {i : Int} (h : 1 ≤ i) : anQ f i.toNat = if f i = 1 then 1 else anQ f (i - 1).toNat := by
  obtain ⟨n, rfl⟩ : ∃ n : Nat, i = (n : Int) + 1 := ⟨(i - 1).toNat, by omega⟩
  rw [show ((n : Int) + 1).toNat = n + 1 by omega, show ((n : Int) + 1 - 1).toNat = n by omega]
  rfl
theorem anQ_any (f : Int → Int) (n : Nat) : anQ f n = anyI f n 1 := by
  have h1 := anQ_iff f n
  have h2 := anyI_iff f n 1
  have h3 := anQ_01 f n
  have h4 := anyI_01 f n 1
  have h5 : anQ f n = 1 ↔ anyI f n 1 = 1 := by
    rw [h1, h2]
    constructor
    · rintro ⟨j, a, b, d⟩
      exact ⟨j, a, by omega, d⟩
    · rintro ⟨j, a, b, d⟩
      exact ⟨j, a, by omega, d⟩
  omega
/-- both sides of the first i pages of gathering g, as bits -/
def insQ (c : Int → Int) (g : Int) (i : Int) : Int := anQ (hitI (kindC c) (g * c (49 + 0)) 0) i.toNat + 2 * anQ (hitI (kindC c) (g * c (49 + 0)) 1) i.toNat
theorem ins_rg (c : Int → Int) (g i : Int) : 0 ≤ insQ c g i ∧ insQ c g i ≤ 3 := by
  have h1 := anQ_01 (hitI (kindC c) (g * c (49 + 0)) 0) i.toNat
  have h2 := anQ_01 (hitI (kindC c) (g * c (49 + 0)) 1) i.toNat
  unfold insQ
  omega
theorem ins_s {c : Int → Int} {g i : Int} (h : 1 ≤ i) : insQ c g i = orI (insQ c g (i - 1)) (if kindC c (g * c (49 + 0) + i) = 3 then bI (2 ≤ (g * c (49 + 0) + i) % 4) + 1 else 0) := by
  have h1 := anQ_01 (hitI (kindC c) (g * c (49 + 0)) 0) (i - 1).toNat
  have h2 := anQ_01 (hitI (kindC c) (g * c (49 + 0)) 1) (i - 1).toNat
  unfold insQ
  rw [anQ_s _ h, anQ_s _ h]
  generalize anQ (hitI (kindC c) (g * c (49 + 0)) 0) (i - 1).toNat = a at *
  generalize anQ (hitI (kindC c) (g * c (49 + 0)) 1) (i - 1).toNat = b at *
  have hh : ∀ s : Int, hitI (kindC c) (g * c (49 + 0)) s i = bI (bI (2 ≤ (g * c (49 + 0) + i) % 4) = s ∧ kindC c (g * c (49 + 0) + i) = 3) := fun s => rfl
  have ht := bI_01 (2 ≤ (g * c (49 + 0) + i) % 4)
  rw [hh, hh]
  generalize bI (2 ≤ (g * c (49 + 0) + i) % 4) = t at *
  by_cases q : kindC c (g * c (49 + 0) + i) = 3
  · rw [if_pos q]
    rcases ht with rfl | rfl
    · rw [bI_t ⟨rfl, q⟩, bI_f (fun z => by omega)]
      rcases h1 with rfl | rfl <;> rcases h2 with rfl | rfl <;> rfl
    · rw [bI_f (fun z => by omega), bI_t ⟨rfl, q⟩]
      rcases h1 with rfl | rfl <;> rcases h2 with rfl | rfl <;> rfl
  · rw [if_neg q, bI_f (fun z => q z.2), bI_f (fun z => q z.2)]
    rcases h1 with rfl | rfl <;> rcases h2 with rfl | rfl <;> rfl
theorem ins_all {c : Int → Int} (g : Int) : insQ c g (c (49 + 0)) % 2 = colI (kindC c) (c (49 + 0)) g 0 ∧ insQ c g (c (49 + 0)) / 2 = colI (kindC c) (c (49 + 0)) g 1 := by
  have h1 := anQ_01 (hitI (kindC c) (g * c (49 + 0)) 0) (c (49 + 0)).toNat
  have h2 := anQ_01 (hitI (kindC c) (g * c (49 + 0)) 1) (c (49 + 0)).toNat
  unfold insQ colI
  rw [← anQ_any, ← anQ_any]
  omega
