/-! the reference: its row of numbers as a catalogue -/
def cM (m : Int → Int) : Int → Int := fun j => if j = 0 then m 5 else if 1 ≤ j ∧ j ≤ 48 then m (6 + 12 * ((j - 1) % 4) + (j - 1) / 4) else m (j - 49)
theorem cM_0 (m : Int → Int) : cM m 0 = m 5 := if_pos rfl
theorem cM_f {m : Int → Int} {k o : Int} (hk : 0 ≤ k ∧ k < 12) (ho : 1 ≤ o ∧ o ≤ 4) : cM m (k * 4 + o) = m (6 + 12 * (o - 1) + k) := by
  unfold cM
  rw [if_neg (by omega), if_pos (by omega)]
  congr 1
  omega
theorem cM_t {m : Int → Int} {k : Int} (hk : 0 ≤ k ∧ k < 12) : cM m (k * 4 + 1) = m (6 + k) := by rw [cM_f hk (by omega)]; congr 1
theorem cM_p {m : Int → Int} {k : Int} (hk : 0 ≤ k ∧ k < 12) : cM m (k * 4 + 2) = m (18 + k) := by rw [cM_f hk (by omega)]; congr 1
theorem cM_b {m : Int → Int} {k : Int} (hk : 0 ≤ k ∧ k < 12) : cM m (k * 4 + 3) = m (30 + k) := by rw [cM_f hk (by omega)]; congr 1
theorem cM_q {m : Int → Int} {k : Int} (hk : 0 ≤ k ∧ k < 12) : cM m (k * 4 + 4) = m (42 + k) := by rw [cM_f hk (by omega)]; congr 1
theorem cM_s {m : Int → Int} {j : Int} (hj : 0 ≤ j ∧ j < 5) : cM m (49 + j) = m j := by
  unfold cM
  rw [if_neg (by omega), if_neg (by omega)]
  congr 1
  omega
/-- a side of a gathering has a plate in colour, as the lots tell it -/
def inC (c : Int → Int) (g s : Int) : Nat → Int
  | 0 => 0
  | k + 1 => if inC c g s k = 1 ∨ (c ((k : Int) * 4 + 2) = 2 ∧ (ppC c (k : Int) - 1) / c (49 + 0) = g ∧ bI (2 ≤ ppC c (k : Int) % 4) = s) then 1 else 0
theorem inC_01 (c : Int → Int) (g s : Int) (n : Nat) : inC c g s n = 0 ∨ inC c g s n = 1 := by
  cases n with
  | zero => exact Or.inl rfl
  | succ n =>
    show (if _ then _ else _) = _ ∨ (if _ then _ else _) = _
    split <;> simp
theorem inC_s {c : Int → Int} {g s k : Int} (h : 0 ≤ k) : inC c g s (k + 1).toNat = if inC c g s k.toNat = 1 ∨ (c (k * 4 + 2) = 2 ∧ (ppC c k - 1) / c (49 + 0) = g ∧ bI (2 ≤ ppC c k % 4) = s) then 1 else 0 := by
  obtain ⟨n, rfl⟩ := Int.eq_ofNat_of_zero_le h
  rfl
theorem inC_iff (c : Int → Int) (g s : Int) : ∀ n : Nat, inC c g s n = 1 ↔ ∃ k : Int, 0 ≤ k ∧ k < n ∧ c (k * 4 + 2) = 2 ∧ (ppC c k - 1) / c (49 + 0) = g ∧ bI (2 ≤ ppC c k % 4) = s := by
  intro n
  induction n with
  | zero =>
    constructor
    · intro h; exact absurd h (by show ¬ (0 : Int) = 1; omega)
    · rintro ⟨k, h1, h2, -⟩; omega
  | succ n ih =>
    show (if inC c g s n = 1 ∨ _ then (1 : Int) else 0) = 1 ↔ _
    by_cases q : inC c g s n = 1 ∨ (c ((n : Int) * 4 + 2) = 2 ∧ (ppC c (n : Int) - 1) / c (49 + 0) = g ∧ bI (2 ≤ ppC c (n : Int) % 4) = s)
    · rw [if_pos q]
      refine ⟨fun _ => ?_, fun _ => rfl⟩
      rcases q with q | q
      · obtain ⟨k, h1, h2, h3⟩ := ih.mp q
        exact ⟨k, h1, by omega, h3⟩
      · exact ⟨n, by omega, by omega, q⟩
    · rw [if_neg q]
      refine ⟨fun h => by omega, ?_⟩
      rintro ⟨k, h1, h2, h3⟩
      exfalso
      by_cases e : k = n
      · subst e; exact q (Or.inr h3)
      · exact q (Or.inl (ih.mpr ⟨k, h1, by omega, h3⟩))
/-- the two ways to tell it agree -/
theorem in_col {c : Int → Int} (hC : CatOK c) {g s : Int} (hg : 0 ≤ g ∧ g < gaC c) : inC c g s (c 0).toNat = colI (kindC c) (c (49 + 0)) g s := by
  have hN := hC.1
  have hX := hC.2.2
  unfold SetOK at hX
  have key : inC c g s (c 0).toNat = 1 ↔ colI (kindC c) (c (49 + 0)) g s = 1 := by
    unfold colI
    rw [inC_iff, anyI_iff]
    constructor
    · rintro ⟨k, h1, h2, h3, h4, h5⟩
      have hk : 0 ≤ k ∧ k < c 0 := by omega
      have hp := pp_b hC hk
      have hl := la_b hC
      have hlen := len_rg hC hk
      have hL := lot_f hC hk
      unfold LotOK at hL
      rw [bI_t (by omega)] at hlen
      have hko := kind_o hC hk (p := ppC c k) (r := c (k * 4 + 4)) (by omega) (by unfold ppC fpC; omega)
      rw [if_pos ⟨by omega, rfl⟩] at hko
      have e1 : g * c (49 + 0) ≤ ppC c k - 1 ∧ ppC c k - 1 < g * c (49 + 0) + c (49 + 0) := by
        rcases hX.1 with e | e | e <;> (rw [e] at h4 ⊢; omega)
      refine ⟨ppC c k - g * c (49 + 0), by omega, by omega, ?_⟩
      unfold hitI
      rw [show g * c (49 + 0) + (ppC c k - g * c (49 + 0)) = ppC c k by omega]
      exact bI_t ⟨h5, by omega⟩
    · rintro ⟨j, h1, h2, h3⟩
      have h4 : bI (2 ≤ (g * c (49 + 0) + j) % 4) = s ∧ kindC c (g * c (49 + 0) + j) = 3 := bI_ne (by unfold hitI at h3; omega)
      have h5 := ga_in hC hg (i := j) (by omega)
      by_cases q : g * c (49 + 0) + j ≤ pgC c (c 0)
      · obtain ⟨k, hk, h6, h7⟩ := page_in hC h5.1 q
        have hL := lot_f hC hk
        have hi := its_rg hC hk
        have hs := pgC_s (c := c) hk.1
        unfold LotOK at hL
        by_cases b : g * c (49 + 0) + j = pgC c k + 1 ∧ ¬ c (k * 4 + 3) = 0
        · have := kind_b hC hk b.2 b.1
          omega
        · have hko := kind_o hC hk (p := g * c (49 + 0) + j) (r := g * c (49 + 0) + j - pgC c k - c (k * 4 + 3) - 1) (by omega) (by omega)
          have hk3 := hko.1
          by_cases r : ¬ c (k * 4 + 2) = 0 ∧ g * c (49 + 0) + j - pgC c k - c (k * 4 + 3) - 1 = c (k * 4 + 4)
          · rw [if_pos r] at hk3
            have ep : ppC c k = g * c (49 + 0) + j := by unfold ppC fpC; omega
            refine ⟨k, hk.1, by omega, by omega, ?_, by rw [ep]; exact h4.1⟩
            rw [ep]
            rcases hX.1 with e | e | e <;> (rw [e] at h2 ⊢; omega)
          · rw [if_neg r] at hk3
            omega
      · have := kind_e hC (p := g * c (49 + 0) + j) (by omega)
        omega
  have h1 := inC_01 c g s (c 0).toNat
  have h2 := anyI_01 (hitI (kindC c) (g * c (49 + 0)) s) (c (49 + 0)).toNat 1
  unfold colI at key ⊢
  omega
theorem oth_m {c : Int → Int} (hC : CatOK c) {q : Int} (hq : 1 ≤ q ∧ q ≤ laC c) : othI q (laC c) = if 1 ≤ (if q % 2 = 0 then q + 1 else q - 1) ∧ (if q % 2 = 0 then q + 1 else q - 1) ≤ laC c then (if q % 2 = 0 then q + 1 else q - 1) else -5 := by
  have hX := hC.2.2
  unfold SetOK at hX
  have hl := la_b hC
  have h4 : laC c % 4 = 0 := by
    have e := hl.2.2.1
    rcases hX.1 with x | x | x <;> (rw [x] at e; omega)
  unfold othI
  by_cases e : q % 2 = 0
  · rw [if_pos e]
    by_cases r : q ≤ 1 ∨ laC c ≤ q
    · rw [if_pos r, if_neg (by omega)]
    · rw [if_neg r, if_pos (by omega)]
  · rw [if_neg e]
    by_cases r : q ≤ 1 ∨ laC c ≤ q
    · rw [if_pos r, if_neg (by omega)]
    · rw [if_neg r, if_pos (by omega)]
theorem lo_rg {c : Int → Int} (hC : CatOK c) {p : Int} (h : 1 ≤ p) : lotC c p = -5 ∨ (0 ≤ lotC c p ∧ lotC c p < c 0) := by
  by_cases q : p ≤ pgC c (c 0)
  · obtain ⟨k, hk, h2, h3⟩ := page_in hC h q
    rw [lotC_at hC hk h2 h3]
    exact Or.inr hk
  · exact Or.inl (lotC_out hC (by omega))
theorem sd_m {q g : Int} (hg : g = 4 ∨ g = 8 ∨ g = 16) (hq : 1 ≤ q ∧ q ≤ 10000) : ((q - 1) % g + 1) % 4 = q % 4 := by
  rcases hg with rfl | rfl | rfl <;> omega
/-! lots of a gathering: counted by pages, counted by lots -/
theorem sumI_pt {f g : Int → Int} {k0 d : Int} : ∀ n : Nat, (∀ k : Int, 0 ≤ k → k < n → ¬ k = k0 → f k = g k) → f k0 = g k0 + d → 0 ≤ k0 → k0 < n → sumI n f = sumI n g + d := by
  intro n
  induction n with
  | zero => intro _ _ a b; omega
  | succ n ih =>
    intro h h0 h1 h2
    show sumI n f + f n = sumI n g + g n + d
    by_cases e : k0 = n
    · have e1 := sumI_c (f := f) (g := g) n (fun k a b => h k a (by omega) (by omega))
      rw [e1, ← e, h0]
      omega
    · rw [ih (fun k a b c => h k a (by omega) c) h0 h1 (by omega), h n (by omega) (by omega) (by omega)]
      omega
theorem sumI_z {f : Int → Int} : ∀ n : Nat, (∀ k : Int, 0 ≤ k → k < n → f k = 0) → sumI n f = 0 := by
  intro n
  induction n with
  | zero => intro _; rfl
  | succ n ih =>
    intro h
    show sumI n f + f n = 0
    rw [ih (fun k a b => h k a (by omega)), h n (by omega) (by omega)]
    rfl
def lsC (c : Int → Int) (k : Int) : Int := fpC c k + lenC c k - 1
theorem own_iff {c : Int → Int} (hC : CatOK c) {p k : Int} (hp : 1 ≤ p) (hk : 0 ≤ k ∧ k < c 0) : ownC c p = k ↔ fpC c k ≤ p ∧ p ≤ lsC c k := by
  have hN := hC.1
  constructor
  · intro h
    by_cases q : p ≤ pgC c (c 0)
    · obtain ⟨j, hj, h2, h3⟩ := page_in hC hp q
      have hi := its_rg hC hj
      have hs := pgC_s (c := c) hj.1
      have hL := lot_f hC hj
      unfold LotOK at hL
      by_cases b : p = pgC c j + 1 ∧ ¬ c (j * 4 + 3) = 0
      · have := kind_b hC hj b.2 b.1
        omega
      · have hko := kind_o hC hj (p := p) (r := p - pgC c j - c (j * 4 + 3) - 1) (by omega) (by omega)
        have e : j = k := by omega
        subst e
        unfold lsC fpC
        omega
    · have := kind_e hC (p := p) (by omega)
      omega
  · intro h
    unfold lsC fpC at h
    exact (kind_o hC hk (p := p) (r := p - pgC c k - c (k * 4 + 3) - 1) (by omega) (by omega)).2
theorem fp_mono {c : Int → Int} (hC : CatOK c) {k j : Int} (hk : 0 ≤ k) (hj : k < j) (hn : j < c 0) : lsC c k < fpC c j := by
  have hi := its_rg hC (k := k) (by omega)
  have hs := pgC_s (c := c) hk
  have hL := lot_f hC (k := j) (by omega)
  have hm : pgC c (k + 1) ≤ pgC c j := sumI_le (f := itsC c) (by omega) (by omega) (fun i a b => by have := its_rg hC (k := i) (by omega); omega)
  unfold LotOK at hL
  unfold lsC fpC
  omega
theorem lots_pre {c : Int → Int} (hC : CatOK c) {base : Int} (hb : 0 ≤ base) : ∀ i : Nat, lcI (ownC c) base (i + 1) = sumI (c 0).toNat (fun k => bI (fpC c k ≤ base + ((i : Int) + 1) ∧ base + 1 ≤ lsC c k)) ∧
    (ltI (ownC c) base (i + 1) = -5 ∨ (0 ≤ ltI (ownC c) base (i + 1) ∧ ltI (ownC c) base (i + 1) < c 0 ∧ fpC c (ltI (ownC c) base (i + 1)) ≤ base + ((i : Int) + 1) ∧ base + 1 ≤ lsC c (ltI (ownC c) base (i + 1)))) := by
  have hN := hC.1
  have hor : ∀ p : Int, 1 ≤ p → ownC c p = -5 ∨ (0 ≤ ownC c p ∧ ownC c p < c 0) := by
    intro p hp
    have h1 := lo_rg hC hp
    unfold ownC
    split
    · exact Or.inl rfl
    · omega
  intro i
  induction i with
  | zero =>
    have e1 : lcI (ownC c) base (0 + 1) = 0 + bI (¬ ownC c (base + (((0 : Nat) : Int) + 1)) = -5 ∧ ¬ ownC c (base + (((0 : Nat) : Int) + 1)) = -5) := rfl
    have e2 : ltI (ownC c) base (0 + 1) = if ownC c (base + (((0 : Nat) : Int) + 1)) = -5 then -5 else ownC c (base + (((0 : Nat) : Int) + 1)) := rfl
    have e3 : base + (((0 : Nat) : Int) + 1) = base + 1 := by omega
    rw [e1, e2, e3]
    rcases hor (base + 1) (by omega) with h | h
    · rw [bI_f (by omega), if_pos h]
      refine ⟨?_, Or.inl rfl⟩
      rw [sumI_z _ (fun k a b => ?_)]
      · rfl
      · refine bI_f (fun z => ?_)
        have := (own_iff hC (p := base + 1) (k := k) (by omega) (by omega)).mpr z
        omega
    · have hk := (own_iff hC (p := base + 1) (k := ownC c (base + 1)) (by omega) h).mp rfl
      rw [bI_t (by omega), if_neg (by omega)]
      refine ⟨?_, Or.inr ⟨h.1, h.2, hk⟩⟩
      have hz : sumI (c 0).toNat (fun _ => (0 : Int)) = 0 := sumI_z _ (fun _ _ _ => rfl)
      have hs := sumI_pt (f := fun k => bI (fpC c k ≤ base + 1 ∧ base + 1 ≤ lsC c k)) (g := fun _ => 0) (k0 := ownC c (base + 1)) (d := 1) (c 0).toNat (fun k a b e => bI_f (fun z => e ((own_iff hC (p := base + 1) (k := k) (by omega) (by omega)).mpr z).symm)) (by rw [bI_t hk]; rfl) h.1 (by omega)
      rw [hs, hz]
  | succ i ih =>
    obtain ⟨h1, h2⟩ := ih
    have e1 : lcI (ownC c) base (i + 1 + 1) = lcI (ownC c) base (i + 1) + bI (¬ ownC c (base + (((i + 1 : Nat) : Int) + 1)) = -5 ∧ ¬ ownC c (base + (((i + 1 : Nat) : Int) + 1)) = ltI (ownC c) base (i + 1)) := rfl
    have e2 : ltI (ownC c) base (i + 1 + 1) = if ownC c (base + (((i + 1 : Nat) : Int) + 1)) = -5 then ltI (ownC c) base (i + 1) else ownC c (base + (((i + 1 : Nat) : Int) + 1)) := rfl
    have e3 : (((i + 1 : Nat) : Int) + 1) = (i : Int) + 2 := by omega
    rw [e1, e2, e3]
    have hp : 1 ≤ base + ((i : Int) + 2) := by omega
    rcases hor _ hp with h | h
    · rw [bI_f (by omega), if_pos h, h1]
      refine ⟨?_, ?_⟩
      · rw [Int.add_zero]
        refine sumI_c _ (fun k a b => bI_c ?_)
        have hne : ¬ fpC c k = base + ((i : Int) + 2) := fun z => by
          have := (own_iff hC hp (k := k) (by omega)).mpr (by have := len_rg hC (k := k) (by omega); unfold lsC; omega)
          omega
        constructor
        · rintro ⟨z1, z2⟩; exact ⟨by omega, z2⟩
        · rintro ⟨z1, z2⟩; exact ⟨by omega, z2⟩
      · rcases h2 with h2 | h2
        · exact Or.inl h2
        · exact Or.inr ⟨h2.1, h2.2.1, by omega, h2.2.2.2⟩
    · have hk := (own_iff hC hp (k := ownC c (base + ((i : Int) + 2))) h).mp rfl
      rw [if_neg (by omega)]
      refine ⟨?_, Or.inr ⟨h.1, h.2, by omega, by omega⟩⟩
      have oth : ∀ k : Int, 0 ≤ k → k < c 0 → ¬ k = ownC c (base + ((i : Int) + 2)) → ¬ fpC c k = base + ((i : Int) + 2) := fun k a b e z => by
        have := (own_iff hC hp (k := k) ⟨a, b⟩).mpr (by have := len_rg hC (k := k) ⟨a, b⟩; unfold lsC; omega)
        omega
      by_cases e : fpC c (ownC c (base + ((i : Int) + 2))) = base + ((i : Int) + 2)
      · have hlt : ¬ ownC c (base + ((i : Int) + 2)) = ltI (ownC c) base (i + 1) := fun z => by
          rcases h2 with h2 | h2
          · omega
          · rw [← z] at h2
            omega
        rw [bI_t ⟨by omega, hlt⟩, h1]
        refine (sumI_pt (k0 := ownC c (base + ((i : Int) + 2))) (d := 1) _ (fun k a b e4 => bI_c ?_) ?_ h.1 (by omega)).symm
        · have := oth k a (by omega) e4
          constructor
          · rintro ⟨z1, z2⟩; exact ⟨by omega, z2⟩
          · rintro ⟨z1, z2⟩; exact ⟨by omega, z2⟩
        · rw [bI_t ⟨by omega, by omega⟩, bI_f (by omega)]
          rfl
      · have hlt : ownC c (base + ((i : Int) + 2)) = ltI (ownC c) base (i + 1) := by
          rcases h2 with h2 | h2
          · exfalso
            -- no lot so far, yet this one began before
            have h3 : lcI (ownC c) base (i + 1) = 0 := by
              have key : ∀ n : Nat, ltI (ownC c) base n = -5 → lcI (ownC c) base n = 0 := by
                intro n
                induction n with
                | zero => intro _; rfl
                | succ n ihn =>
                  intro z
                  have z1 : (if ownC c (base + ((n : Int) + 1)) = -5 then ltI (ownC c) base n else ownC c (base + ((n : Int) + 1))) = -5 := z
                  have e5 : lcI (ownC c) base (n + 1) = lcI (ownC c) base n + bI (¬ ownC c (base + ((n : Int) + 1)) = -5 ∧ ¬ ownC c (base + ((n : Int) + 1)) = ltI (ownC c) base n) := rfl
                  by_cases y : ownC c (base + ((n : Int) + 1)) = -5
                  · rw [if_pos y] at z1
                    rw [e5, ihn z1, bI_f (by omega)]
                    rfl
                  · rw [if_neg y] at z1
                    exact absurd z1 y
              exact key _ h2
            have h4 := sumI_b (f := fun k => bI (fpC c k ≤ base + ((i : Int) + 1) ∧ base + 1 ≤ lsC c k)) (lo := 0) (hi := 1) (c 0).toNat (fun k a b => bI_rg _)
            have h5 := sumI_pt (f := fun k => bI (fpC c k ≤ base + ((i : Int) + 1) ∧ base + 1 ≤ lsC c k)) (g := fun k => if k = ownC c (base + ((i : Int) + 2)) then 0 else bI (fpC c k ≤ base + ((i : Int) + 1) ∧ base + 1 ≤ lsC c k)) (k0 := ownC c (base + ((i : Int) + 2))) (d := 1) (c 0).toNat (fun k a b e6 => (if_neg e6).symm) (by rw [if_pos rfl, bI_t ⟨by omega, by omega⟩]; rfl) h.1 (by omega)
            have h6 := sumI_b (f := fun k => if k = ownC c (base + ((i : Int) + 2)) then 0 else bI (fpC c k ≤ base + ((i : Int) + 1) ∧ base + 1 ≤ lsC c k)) (lo := 0) (hi := 1) (c 0).toNat (fun k a b => by
              have := bI_rg (fpC c k ≤ base + ((i : Int) + 1) ∧ base + 1 ≤ lsC c k)
              split <;> omega)
            rw [h1, h5] at h3
            omega
          · by_cases e7 : ltI (ownC c) base (i + 1) < ownC c (base + ((i : Int) + 2))
            · -- the latest lot has ended before this one began; its page was the one ahead
              have key : ∀ n : Nat, (n : Int) ≤ (i : Int) + 1 → base + (n : Int) < fpC c (ownC c (base + ((i : Int) + 2))) ∨ ltI (ownC c) base n = ownC c (base + ((i : Int) + 2)) ∨ n = 0 := by
                intro n
                induction n with
                | zero => intro _; exact Or.inr (Or.inr rfl)
                | succ n ihn =>
                  intro hn
                  by_cases y : base + ((n + 1 : Nat) : Int) < fpC c (ownC c (base + ((i : Int) + 2)))
                  · exact Or.inl y
                  · refine Or.inr (Or.inl ?_)
                    have h8 := (own_iff hC (p := base + ((n : Int) + 1)) (k := ownC c (base + ((i : Int) + 2))) (by omega) h).mpr (by omega)
                    show (if ownC c (base + ((n : Int) + 1)) = -5 then ltI (ownC c) base n else ownC c (base + ((n : Int) + 1))) = _
                    rw [h8, if_neg (by omega)]
              rcases key (i + 1) (by omega) with y | y | y
              · omega
              · exact y.symm
              · omega
            · by_cases e8 : ownC c (base + ((i : Int) + 2)) < ltI (ownC c) base (i + 1)
              · have := fp_mono hC h.1 e8 h2.2.1
                omega
              · omega
        rw [bI_f (fun z => z.2 hlt), h1, Int.add_zero]
        refine sumI_c _ (fun k a b => bI_c ?_)
        by_cases e9 : k = ownC c (base + ((i : Int) + 2))
        · rw [e9]
          constructor
          · rintro ⟨z1, z2⟩; exact ⟨by omega, z2⟩
          · rintro ⟨z1, z2⟩; exact ⟨by omega, z2⟩
        · have := oth k a (by omega) e9
          constructor
          · rintro ⟨z1, z2⟩; exact ⟨by omega, z2⟩
          · rintro ⟨z1, z2⟩; exact ⟨by omega, z2⟩
def lgC (c : Int → Int) (j k : Int) : Int := bI ((fpC c k - 1) / c (49 + 0) ≤ j ∧ j ≤ (lsC c k - 1) / c (49 + 0))
theorem lots_in {c : Int → Int} (hC : CatOK c) {j : Int} (hj : 0 ≤ j ∧ j ≤ 100) : lcI (ownC c) (j * c (49 + 0)) (c (49 + 0)).toNat = sumI (c 0).toNat (lgC c j) := by
  have hN := hC.1
  have hX := hC.2.2
  unfold SetOK at hX
  have hb : 0 ≤ j * c (49 + 0) := Int.mul_nonneg hj.1 (by omega)
  have h := (lots_pre hC hb ((c (49 + 0)).toNat - 1)).1
  rw [show (c (49 + 0)).toNat - 1 + 1 = (c (49 + 0)).toNat by omega] at h
  rw [h]
  refine sumI_c _ (fun k a b => ?_)
  unfold lgC
  refine bI_c ?_
  have hp := pp_b hC (k := k) (by omega)
  have hl := len_rg hC (k := k) (by omega)
  have hls : fpC c k ≤ lsC c k := by unfold lsC; omega
  rcases hX.1 with e | e | e <;> (rw [e]; omega)
