/-! what is told lies in bounds -/
theorem co_nn {c : Int → Int} (hC : CatOK c) : 0 ≤ coC c ∧ coC c ≤ 30 := by
  have hl := la_b hC
  have h := sumI_b (f := fun j => colI (kindC c) (c (49 + 0)) j 0 + colI (kindC c) (c (49 + 0)) j 1) (lo := 0) (hi := 2) (gaC c).toNat (fun k a b => by
    have h3 := anyI_01 (hitI (kindC c) (k * c (49 + 0)) 0) (c (49 + 0)).toNat 1
    have h4 := anyI_01 (hitI (kindC c) (k * c (49 + 0)) 1) (c (49 + 0)).toNat 1
    unfold colI
    omega)
  unfold coC
  omega
theorem cn_rg {c : Int → Int} (hC : CatOK c) (ny nx : Int) {w : Int} (hw : 0 ≤ w ∧ w < 9) : 0 ≤ cnR c ny nx w ∧ cnR c ny nx w ≤ 100 := by
  have e : w = 0 ∨ w = 1 ∨ w = 2 ∨ w = 3 ∨ w = 4 ∨ w = 5 ∨ w = 6 ∨ w = 7 ∨ w = 8 := by omega
  have h0 := hC.1
  have h1 := pl_nn hC
  have h3 := fc_nn hC
  have h4 := pg_nn hC
  have h5 := la_b hC
  have h7 := co_nn hC
  have h8 := bl_nn hC
  rcases e with rfl | rfl | rfl | rfl | rfl | rfl | rfl | rfl | rfl
  · show 0 ≤ c 0 ∧ c 0 ≤ 100; omega
  · show 0 ≤ plC c 1 + plC c 2 ∧ plC c 1 + plC c 2 ≤ 100; omega
  · show 0 ≤ plC c 2 ∧ plC c 2 ≤ 100; omega
  · show 0 ≤ fcC c ∧ fcC c ≤ 100; omega
  · show 0 ≤ pgC c (c 0) ∧ pgC c (c 0) ≤ 100; omega
  · show 0 ≤ gaC c ∧ gaC c ≤ 100; omega
  · show 0 ≤ laC c ∧ laC c ≤ 100; omega
  · show 0 ≤ coC c ∧ coC c ≤ 100; omega
  · show 0 ≤ blC c ∧ blC c ≤ 100; omega
theorem lt_rg {c : Int → Int} (hC : CatOK c) {k w : Int} (hk : 0 ≤ k ∧ k < c 0) (hw : 0 ≤ w ∧ w < 8) : -5 ≤ ltR c k w ∧ ltR c k w ≤ 100 := by
  have e : w = 0 ∨ w = 1 ∨ w = 2 ∨ w = 3 ∨ w = 4 ∨ w = 5 ∨ w = 6 ∨ w = 7 := by omega
  have hL := lot_f hC hk
  have hp := pp_b hC hk
  have h4 := pg_nn hC
  have hw7 := whC_rg c k
  have k4 : ltR c k 4 = fpC c k := by unfold ltR; rw [if_neg (fun z => z hk)]; rfl
  have k7 : ltR c k 7 = whC c k := by unfold ltR; rw [if_neg (fun z => z hk)]; rfl
  unfold LotOK at hL
  rcases e with rfl | rfl | rfl | rfl | rfl | rfl | rfl | rfl
  · rw [lq_0 hk]; omega
  · rw [lq_1 hk]; omega
  · rw [lq_2 hk]; omega
  · rw [lq_3 hk]; split <;> omega
  · rw [k4]; omega
  · rw [lq_5 hk]
    split
    · omega
    · rename_i h
      have := hp.2.2.2.2 h
      omega
  · rw [lq_6 hk]
    have := bI_rg (whC c k = 0)
    omega
  · rw [k7]; omega
