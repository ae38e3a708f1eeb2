/-! for the pages' walk -/
theorem la_up {c : Int → Int} (hC : CatOK c) : laC c < pgC c (c 0) + c (49 + 0) := by
  have hX := hC.2.2
  unfold SetOK at hX
  have h := gf_b (q := pgC c (c 0)) hX.1 (pg_nn hC)
  unfold laC
  omega
theorem dv_rg {c : Int → Int} (hC : CatOK c) {p : Int} (hp : 1 ≤ p ∧ p ≤ 100) : 0 ≤ (p - 1) / c (49 + 0) ∧ (p - 1) / c (49 + 0) ≤ 100 := by
  have hX := hC.2.2
  unfold SetOK at hX
  rcases hX.1 with e | e | e <;> rw [e] <;> omega
theorem sum_j {f : Int → Int} {p : Int} (hp : 1 ≤ p) : sumI (p + 1 - 1).toNat (fun j => f (j + 1)) = sumI (p - 1).toNat (fun j => f (j + 1)) + f p := by
  obtain ⟨n, rfl⟩ : ∃ n : Nat, p = (n : Int) + 1 := ⟨(p - 1).toNat, by omega⟩
  rw [show ((n : Int) + 1 + 1 - 1).toNat = n + 1 by omega, show ((n : Int) + 1 - 1).toNat = n by omega]
  rfl
theorem sum_rg {f : Int → Int} {p : Int} (hp : 1 ≤ p ∧ p ≤ 100) (hf : ∀ j : Int, 0 ≤ f j ∧ f j ≤ 1) : 0 ≤ sumI (p - 1).toNat (fun j => f (j + 1)) ∧ sumI (p - 1).toNat (fun j => f (j + 1)) ≤ 100 := by
  have h := sumI_b (f := fun j => f (j + 1)) (lo := 0) (hi := 1) (p - 1).toNat (fun k _ _ => hf (k + 1))
  omega
/-- its text faces the plate of page p, as the law looks at it -/
theorem its_p {c : Int → Int} (hC : CatOK c) {p : Int} (hp : 1 ≤ p) (h : kindC c p = 2 ∨ kindC c p = 3) : whC c (ownC c p) = 0 ↔ (¬ othI p (laC c) = -5 ∧ ownC c (othI p (laC c)) = ownC c p ∧ kindC c (othI p (laC c)) = 1) := by
  have h1 := kd_p hC hp h
  have h2 := wh_its hC h1.1 h1.2.1
  rw [← h1.2.2.1] at h2
  exact h2
theorem cl_rg (c : Int → Int) (g s : Int) : 0 ≤ colI (kindC c) (c (49 + 0)) g s ∧ colI (kindC c) (c (49 + 0)) g s ≤ 1 := by
  have h := anyI_01 (hitI (kindC c) (g * c (49 + 0)) s) (c (49 + 0)).toNat 1
  unfold colI
  omega
theorem cs_w {c : Int → Int} : gaC c * (c (49 + 1) + c (49 + 4) / 10) + coC c * c (49 + 2) + blC c * c (49 + 3) = csC c := rfl
theorem fFc_p {c : Int → Int} {p : Int} (h : kindC c p = 2 ∨ kindC c p = 3) : fFc c p = bI (whC c (ownC c p) = 0) := by
  unfold fFc
  by_cases w : whC c (ownC c p) = 0
  · rw [bI_t w, bI_t ⟨h, w⟩]
  · rw [bI_f w, bI_f (fun z => w z.2)]
theorem fFc_n {c : Int → Int} {p : Int} (h : ¬ (kindC c p = 2 ∨ kindC c p = 3)) : fFc c p = 0 := by
  unfold fFc
  exact bI_f (fun z => h z.1)
