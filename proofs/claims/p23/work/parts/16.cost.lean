/-! what is told of a catalogue -/
def laC (c : Int → Int) : Int := gfI (pgC c (c 0)) (c (49 + 0)) * c (49 + 0)
def gaC (c : Int → Int) : Int := gfI (pgC c (c 0)) (c (49 + 0))
def coC (c : Int → Int) : Int := sumI (gaC c).toNat (fun j => colI (kindC c) (c (49 + 0)) j 0 + colI (kindC c) (c (49 + 0)) j 1)
def csC (c : Int → Int) : Int := gaC c * gcC c + coC c * c (49 + 2) + blC c * c (49 + 3)
def whC (c : Int → Int) (k : Int) : Int := if c (k * 4 + 2) = 0 then 0 else if othI (ppC c k) (laC c) = -5 then 1 else if kindC c (othI (ppC c k) (laC c)) = 0 ∨ kindC c (othI (ppC c k) (laC c)) = 4 then 3 else if ownC c (othI (ppC c k) (laC c)) = k then 0 else 2
def fcC (c : Int → Int) : Int := sumI (c 0).toNat (fun k => bI (¬ c (k * 4 + 2) = 0 ∧ whC c k = 0))
theorem anyI_c {f f' : Int → Int} : ∀ (m : Nat) (i : Int), (∀ j : Int, i ≤ j → j < i + m → f j = f' j) → anyI f m i = anyI f' m i := by
  intro m
  induction m with
  | zero => intro i _; rfl
  | succ m ih =>
    intro i h
    show (if f i = 1 then (1 : Int) else anyI f m (i + 1)) = if f' i = 1 then (1 : Int) else anyI f' m (i + 1)
    rw [h i (by omega) (by omega), ih (i + 1) (fun j a b => h j (by omega) (by omega))]
theorem la_b {c : Int → Int} (hC : CatOK c) : (0 ≤ gaC c ∧ gaC c ≤ 15) ∧ (pgC c (c 0) ≤ laC c ∧ laC c ≤ 64) ∧ laC c = gaC c * c (49 + 0) ∧ (0 ≤ pgC c (c 0) ∧ pgC c (c 0) ≤ 60) := by
  have hN := hC.1
  have hX := hC.2.2
  unfold SetOK at hX
  have hp := pgC_b hC (k := c 0) (by omega)
  have hg := gf_b (q := pgC c (c 0)) hX.1 (by omega)
  unfold laC gaC
  exact ⟨by omega, by omega, rfl, by omega⟩
/-- a gathering's pages lie among all -/
theorem ga_in {c : Int → Int} (hC : CatOK c) {g i : Int} (hg : 0 ≤ g ∧ g < gaC c) (hi : 1 ≤ i ∧ i ≤ c (49 + 0)) : 1 ≤ g * c (49 + 0) + i ∧ g * c (49 + 0) + i ≤ laC c := by
  have hX := hC.2.2
  unfold SetOK at hX
  have hl := la_b hC
  have hb0 : 0 ≤ g * c (49 + 0) := Int.mul_nonneg hg.1 (by omega)
  have hb1 : g * c (49 + 0) + c (49 + 0) ≤ gaC c * c (49 + 0) := by
    have := Int.mul_le_mul_of_nonneg_right (show g + 1 ≤ gaC c by omega) (show 0 ≤ c (49 + 0) by omega)
    rw [Int.add_mul, Int.one_mul] at this
    exact this
  omega
theorem col_L {c : Int → Int} (hC : CatOK c) {o kd : Int → Int} (hP : LayP c (laC c) o kd) {g s : Int} (hg : 0 ≤ g ∧ g < gaC c) : colI kd (c (49 + 0)) g s = colI (kindC c) (c (49 + 0)) g s := by
  have hX := hC.2.2
  unfold SetOK at hX
  unfold colI
  refine anyI_c _ _ (fun j a b => ?_)
  have h1 := ga_in hC hg (i := j) (by omega)
  unfold hitI
  rw [(hP _ h1.1 h1.2).2]
theorem co_L {c : Int → Int} (hC : CatOK c) {o kd : Int → Int} (hP : LayP c (laC c) o kd) : sumI (gaC c).toNat (fun j => colI kd (c (49 + 0)) j 0 + colI kd (c (49 + 0)) j 1) = coC c := by
  have hl := la_b hC
  refine sumI_c _ (fun j a b => ?_)
  rw [col_L hC hP (by omega), col_L hC hP (by omega)]
theorem LayP_rg {c : Int → Int} (hC : CatOK c) {m : Int} {o kd : Int → Int} (hP : LayP c m o kd) : ∀ p : Int, 1 ≤ p → p ≤ m → (0 ≤ kd p ∧ kd p ≤ 4) ∧ (-5 ≤ o p ∧ o p ≤ 12) := by
  intro p h1 h2
  rw [(hP p h1 h2).1, (hP p h1 h2).2]
  exact kind_rg hC h1
theorem pp_b {c : Int → Int} (hC : CatOK c) {k : Int} (hk : 0 ≤ k ∧ k < c 0) : 1 ≤ fpC c k ∧ fpC c k ≤ pgC c (k + 1) ∧ pgC c (k + 1) ≤ pgC c (c 0) ∧ fpC c k ≤ ppC c k ∧ (¬ c (k * 4 + 2) = 0 → ppC c k ≤ pgC c (k + 1)) := by
  have hL := lot_f hC hk
  have hl := len_rg hC hk
  have hi := its_rg hC hk
  have hs := pgC_s (c := c) hk.1
  have hb := pgC_b hC (k := k) (by omega)
  have hm := sumI_le (f := itsC c) (j := k + 1) (k := c 0) (by omega) (by omega) (fun i a b => by have := its_rg hC (k := i) (by omega); omega)
  have hm2 : pgC c (k + 1) ≤ pgC c (c 0) := hm
  unfold LotOK at hL
  refine ⟨?_, ?_, hm2, ?_, fun hp => ?_⟩
  · unfold fpC; omega
  · unfold fpC; omega
  · unfold ppC; omega
  · rw [bI_t hp] at hl
    unfold ppC fpC
    omega
theorem oth_rg (p laid : Int) : othI p laid = -5 ∨ (1 ≤ othI p laid ∧ othI p laid ≤ laid) := by
  unfold othI
  split
  · exact Or.inl rfl
  · split <;> omega
theorem wh_L {c : Int → Int} (hC : CatOK c) {o kd f g : Int → Int} (hP : LayP c (laC c) o kd) (hF : LayF c (c 0) f g) {k : Int} (hk : 0 ≤ k ∧ k < c 0) : whyI o kd g (laC c) k = whC c k := by
  have h1 := hF k hk.1 hk.2
  have h2 := pp_b hC hk
  have h3 := oth_rg (ppC c k) (laC c)
  unfold whyI whC
  rw [h1.2]
  by_cases p : c (k * 4 + 2) = 0
  · rw [if_pos p, if_pos rfl, if_pos p]
  · rw [if_neg p, if_neg (by omega), if_neg p]
    by_cases q : othI (ppC c k) (laC c) = -5
    · rw [if_pos q, if_pos q]
    · have h4 := hP _ (show 1 ≤ othI (ppC c k) (laC c) by omega) (by omega)
      rw [h4.1, h4.2]
theorem whyI_rg (o kd pp : Int → Int) (laid k : Int) : 0 ≤ whyI o kd pp laid k ∧ whyI o kd pp laid k ≤ 3 := by
  unfold whyI
  split
  · omega
  · split
    · omega
    · split
      · omega
      · split <;> omega
theorem whC_rg (c : Int → Int) (k : Int) : 0 ≤ whC c k ∧ whC c k ≤ 3 := by
  unfold whC
  split
  · omega
  · split
    · omega
    · split
      · omega
      · split <;> omega
theorem fl_X7_costOf_50 : Cond.fieldLink RX7 50 "FacingPlates" "layout" "LFacingPlates$Layout;" ∈ wsX7_costOf := by decide +kernel
set_option maxHeartbeats 4000000 in
set_option maxRecDepth 100000 in
theorem c_X7_costOf (l : Launch) (D : va_G) (cyI : ClassId) (u : Nat) (n1 : Nat) (t1 : Nat) (s1 : Nat) (hv : Int) (y1 : Nat) (x1 : Nat) (r1 : Nat) (g1 : Nat) (p1 : Nat) (g2 : Nat) (g4 : Nat) (g6 : Nat) (g8 : Nat) (size : Int) (laid : Int) (gath : Int) (g3 : Nat) (o : Int → Int) (g5 : Nat) (kd : Int → Int) (g7 : Nat) (f : Int → Int) (g9 : Nat) (g : Int → Int) (q1 : Nat) (q2 : Nat) (q3 : Nat) (c : Int → Int) (hC : CatOK c) : fp_MW l yX7_costOf wsX7_costOf ({ frames := 4, cells := 0, slots := 0, locals := 90 } : Room) D cyI [(u, .inr (7, [.ref n1, .ref t1, .ref s1, .int (iI (hv)), .ref y1, .ref x1, .ref r1, .ref g1, .ref p1])), (g1, .inr (2, [.ref g2, .ref g4, .ref g6, .ref g8, .int (iI (size)), .int (iI (laid)), .int (iI (gath))])), (g2, .inr (5, [.ref g3])), (g3, fA cyI 65 o), (g4, .inr (5, [.ref g5])), (g5, fA cyI 65 kd), (g6, .inr (5, [.ref g7])), (g7, fA cyI 12 f), (g8, .inr (5, [.ref g9])), (g9, fA cyI 12 g), (q1, .inr (0, [.ref q2])), (q2, .inr (5, [.ref q3])), (q3, fA cyI 54 c)] [.ref u, .ref q1] (fun (u9 : (Int → Int) × (Int → Int) × (Int → Int) × (Int → Int)) => True) (fun (u9 : (Int → Int) × (Int → Int) × (Int → Int) × (Int → Int)) => some (.int (iI (csC c)))) (fun (u9 : (Int → Int) × (Int → Int) × (Int → Int) × (Int → Int)) => [(u, .inr (7, [.ref n1, .ref t1, .ref s1, .int (iI (hv)), .ref y1, .ref x1, .ref r1, .ref g1, .ref p1])), (g1, .inr (2, [.ref g2, .ref g4, .ref g6, .ref g8, .int (iI (c (49 + 0))), .int (iI (laC c)), .int (iI (gaC c))])), (g2, .inr (5, [.ref g3])), (g3, fA cyI 65 u9.1), (g4, .inr (5, [.ref g5])), (g5, fA cyI 65 u9.2.1), (g6, .inr (5, [.ref g7])), (g7, fA cyI 12 u9.2.2.1), (g8, .inr (5, [.ref g9])), (g9, fA cyI 12 u9.2.2.2), (q1, .inr (0, [.ref q2])), (q2, .inr (5, [.ref q3])), (q3, fA cyI 54 c)]) := by
  refine fp_start (cc := cX7_costOf) (maxL := 2) (ret := (some .int)) (by decide) rfl (Nat.le_of_ble_eq_true rfl) ?_
  intro pg en sx mi ar bl mt cd ls hx hb hr hts hown hlocks hml hnm hP hK hD hl
  have hown : sx.vm.findClass RX7 = some mi.cls := hown
  have hl : lv_has ls 2 [(0, .ref u), (1, .ref q1)] := hl
  have hD := fp_self hD
  have hS : va_S (fp_A [(u, .inr (7, [.ref n1, .ref t1, .ref s1, .int (iI (hv)), .ref y1, .ref x1, .ref r1, .ref g1, .ref p1])), (g1, .inr (2, [.ref g2, .ref g4, .ref g6, .ref g8, .int (iI (size)), .int (iI (laid)), .int (iI (gath))])), (g2, .inr (5, [.ref g3])), (g3, fA cyI 65 o), (g4, .inr (5, [.ref g5])), (g5, fA cyI 65 kd), (g6, .inr (5, [.ref g7])), (g7, fA cyI 12 f), (g8, .inr (5, [.ref g9])), (g9, fA cyI 12 g), (q1, .inr (0, [.ref q2])), (q2, .inr (5, [.ref q3])), (q3, fA cyI 54 c)]) sx.heap sx.heap [] := va_S.rf
  have hl5 := la_b hC
  have hX := hC.2.2
  unfold SetOK at hX
  refine lv_aload_n hx hb dX7_costOf_0 rfl (lv_at hl 0 rfl) ?_
  refine va_get (D := D) (ci := 7) (ws := [(u, .inr (7, [.ref n1, .ref t1, .ref s1, .int (iI (hv)), .ref y1, .ref x1, .ref r1, .ref g1, .ref p1])), (g1, .inr (2, [.ref g2, .ref g4, .ref g6, .ref g8, .int (iI (size)), .int (iI (laid)), .int (iI (gath))])), (g2, .inr (5, [.ref g3])), (g3, fA cyI 65 o), (g4, .inr (5, [.ref g5])), (g5, fA cyI 65 kd), (g6, .inr (5, [.ref g7])), (g7, fA cyI 12 f), (g8, .inr (5, [.ref g9])), (g9, fA cyI 12 g), (q1, .inr (0, [.ref q2])), (q2, .inr (5, [.ref q3])), (q3, fA cyI 54 c)]) (v := .ref g1) (C := RX7) (T := TX7) (N := 9) hx hb hts (fun _ h => List.mem_cons_of_mem _ (List.mem_append_left _ (List.mem_append_left _ (List.mem_append_left _ (List.mem_append_right _ h))))) hown hK.1 hP 0 rfl rfl 7 (by decide) (hts _ fl_X7_costOf_50) (fun _ h9 => h9) rfl dX7_costOf_1 ?_
  refine lv_aload_n hx hb dX7_costOf_4 rfl (lv_at hl 1 rfl) ?_
  refine fp_wV (As := [.ref q1]) (rest := []) (wsC := [(u, .inr (7, [.ref n1, .ref t1, .ref s1, .int (iI (hv)), .ref y1, .ref x1, .ref r1, .ref g1, .ref p1])), (g1, .inr (2, [.ref g2, .ref g4, .ref g6, .ref g8, .int (iI (size)), .int (iI (laid)), .int (iI (gath))])), (g2, .inr (5, [.ref g3])), (g3, fA cyI 65 o), (g4, .inr (5, [.ref g5])), (g5, fA cyI 65 kd), (g6, .inr (5, [.ref g7])), (g7, fA cyI 12 f), (g8, .inr (5, [.ref g9])), (g9, fA cyI 12 g), (q1, .inr (0, [.ref q2])), (q2, .inr (5, [.ref q3])), (q3, fA cyI 54 c)]) ⟨hx, hb, hml, hown, hts⟩ (c_X2_lay l D cyI g1 g2 g4 g6 g8 size laid gath g3 o g5 kd g7 f g9 g q1 q2 q3 c hC) (cwV 1 hts gX7_costOf_X2_lay rfl rfl rfl (by decide +kernel) ⟨Nat.le_of_ble_eq_true rfl, Nat.le_of_ble_eq_true rfl⟩) (fun _ => rfl) hK hP hD hS [1, 2, 3, 4, 5, 6, 7, 8, 9, 10, 11, 12] (by decide) rfl rfl rfl rfl hl.1 rfl (Nat.le_of_ble_eq_true rfl) dX7_costOf_5 ⟨Nat.zero_le _, Nat.zero_le _⟩ (fun u9v H locs hu hP hD hS => ?_)
  obtain ⟨o7, kd7, f7, g7_⟩ := u9v
  dsimp only at hu
  obtain ⟨pLP_5, pLF_5⟩ := hu
  refine W.eq (g2 := F0 mi 8 ls []) rfl ?_
  have hP : va_P D vwCl [(u, .inr (7, [.ref n1, .ref t1, .ref s1, .int (iI (hv)), .ref y1, .ref x1, .ref r1, .ref g1, .ref p1])), (g1, .inr (2, [.ref g2, .ref g4, .ref g6, .ref g8, .int (iI (c (49 + 0))), .int (iI (gfI (pgC c (c 0)) (c (49 + 0)) * c (49 + 0))), .int (iI (gfI (pgC c (c 0)) (c (49 + 0))))])), (g2, .inr (5, [.ref g3])), (g3, fA cyI 65 o7), (g4, .inr (5, [.ref g5])), (g5, fA cyI 65 kd7), (g6, .inr (5, [.ref g7])), (g7, fA cyI 12 f7), (g8, .inr (5, [.ref g9])), (g9, fA cyI 12 g7_), (q1, .inr (0, [.ref q2])), (q2, .inr (5, [.ref q3])), (q3, fA cyI 54 c)] H := hP
  have hD : va_D (fp_A [(u, .inr (7, [.ref n1, .ref t1, .ref s1, .int (iI (hv)), .ref y1, .ref x1, .ref r1, .ref g1, .ref p1])), (g1, .inr (2, [.ref g2, .ref g4, .ref g6, .ref g8, .int (iI (size)), .int (iI (laid)), .int (iI (gath))])), (g2, .inr (5, [.ref g3])), (g3, fA cyI 65 o), (g4, .inr (5, [.ref g5])), (g5, fA cyI 65 kd), (g6, .inr (5, [.ref g7])), (g7, fA cyI 12 f), (g8, .inr (5, [.ref g9])), (g9, fA cyI 12 g), (q1, .inr (0, [.ref q2])), (q2, .inr (5, [.ref q3])), (q3, fA cyI 54 c)]) [(u, .inr (7, [.ref n1, .ref t1, .ref s1, .int (iI (hv)), .ref y1, .ref x1, .ref r1, .ref g1, .ref p1])), (g1, .inr (2, [.ref g2, .ref g4, .ref g6, .ref g8, .int (iI (c (49 + 0))), .int (iI (gfI (pgC c (c 0)) (c (49 + 0)) * c (49 + 0))), .int (iI (gfI (pgC c (c 0)) (c (49 + 0))))])), (g2, .inr (5, [.ref g3])), (g3, fA cyI 65 o7), (g4, .inr (5, [.ref g5])), (g5, fA cyI 65 kd7), (g6, .inr (5, [.ref g7])), (g7, fA cyI 12 f7), (g8, .inr (5, [.ref g9])), (g9, fA cyI 12 g7_), (q1, .inr (0, [.ref q2])), (q2, .inr (5, [.ref q3])), (q3, fA cyI 54 c)] := hD
  refine lv_aload_n hx hb dX7_costOf_8 rfl (lv_at hl 0 rfl) ?_
  refine va_get (D := D) (ci := 7) (ws := [(u, .inr (7, [.ref n1, .ref t1, .ref s1, .int (iI (hv)), .ref y1, .ref x1, .ref r1, .ref g1, .ref p1])), (g1, .inr (2, [.ref g2, .ref g4, .ref g6, .ref g8, .int (iI (c (49 + 0))), .int (iI (gfI (pgC c (c 0)) (c (49 + 0)) * c (49 + 0))), .int (iI (gfI (pgC c (c 0)) (c (49 + 0))))])), (g2, .inr (5, [.ref g3])), (g3, fA cyI 65 o7), (g4, .inr (5, [.ref g5])), (g5, fA cyI 65 kd7), (g6, .inr (5, [.ref g7])), (g7, fA cyI 12 f7), (g8, .inr (5, [.ref g9])), (g9, fA cyI 12 g7_), (q1, .inr (0, [.ref q2])), (q2, .inr (5, [.ref q3])), (q3, fA cyI 54 c)]) (v := .ref g1) (C := RX7) (T := TX7) (N := 9) hx hb hts (fun _ h => List.mem_cons_of_mem _ (List.mem_append_left _ (List.mem_append_left _ (List.mem_append_left _ (List.mem_append_right _ h))))) hown hK.1 hP 0 rfl rfl 7 (by decide) (hts _ fl_X7_costOf_50) (fun _ h9 => h9) rfl dX7_costOf_9 ?_
  refine fp_pV (As := []) (rest := []) (wsC := [(u, .inr (7, [.ref n1, .ref t1, .ref s1, .int (iI (hv)), .ref y1, .ref x1, .ref r1, .ref g1, .ref p1])), (g1, .inr (2, [.ref g2, .ref g4, .ref g6, .ref g8, .int (iI (c (49 + 0))), .int (iI (gfI (pgC c (c 0)) (c (49 + 0)) * c (49 + 0))), .int (iI (gfI (pgC c (c 0)) (c (49 + 0))))])), (g2, .inr (5, [.ref g3])), (g3, fA cyI 65 o7), (g4, .inr (5, [.ref g5])), (g5, fA cyI 65 kd7), (g6, .inr (5, [.ref g7])), (g7, fA cyI 12 f7), (g8, .inr (5, [.ref g9])), (g9, fA cyI 12 g7_), (q1, .inr (0, [.ref q2])), (q2, .inr (5, [.ref q3])), (q3, fA cyI 54 c)]) ⟨hx, hb, hml, hown, hts⟩ (c_X2_gatherings l D cyI g1 g2 g4 g6 g8 (c (49 + 0)) (gfI (pgC c (c 0)) (c (49 + 0)) * c (49 + 0)) (gfI (pgC c (c 0)) (c (49 + 0)))) (cwV 0 hts gX7_costOf_X2_gatherings rfl rfl rfl (by decide +kernel) ⟨Nat.le_of_ble_eq_true rfl, Nat.le_of_ble_eq_true rfl⟩) hK hP hD [1] (by decide) rfl rfl rfl rfl hl.1 rfl (Nat.le_of_ble_eq_true rfl) dX7_costOf_12 ⟨Nat.zero_le _, Nat.zero_le _⟩ ?_
  refine lv_aload_n hx hb dX7_costOf_15 rfl (lv_at hl 1 rfl) ?_
  refine fp_pV (As := []) (rest := [.int (iI ((gfI (pgC c (c 0)) (c (49 + 0)))))]) (wsC := [(u, .inr (7, [.ref n1, .ref t1, .ref s1, .int (iI (hv)), .ref y1, .ref x1, .ref r1, .ref g1, .ref p1])), (g1, .inr (2, [.ref g2, .ref g4, .ref g6, .ref g8, .int (iI (c (49 + 0))), .int (iI (gfI (pgC c (c 0)) (c (49 + 0)) * c (49 + 0))), .int (iI (gfI (pgC c (c 0)) (c (49 + 0))))])), (g2, .inr (5, [.ref g3])), (g3, fA cyI 65 o7), (g4, .inr (5, [.ref g5])), (g5, fA cyI 65 kd7), (g6, .inr (5, [.ref g7])), (g7, fA cyI 12 f7), (g8, .inr (5, [.ref g9])), (g9, fA cyI 12 g7_), (q1, .inr (0, [.ref q2])), (q2, .inr (5, [.ref q3])), (q3, fA cyI 54 c)]) ⟨hx, hb, hml, hown, hts⟩ (c_X0_costOfGathering l D cyI q1 q2 q3 c hC) (cwV 0 hts gX7_costOf_X0_costOfGathering rfl rfl rfl (by decide +kernel) ⟨Nat.le_of_ble_eq_true rfl, Nat.le_of_ble_eq_true rfl⟩) hK hP hD [10, 11, 12] (by decide) rfl rfl rfl rfl hl.1 rfl (Nat.le_of_ble_eq_true rfl) dX7_costOf_16 ⟨Nat.zero_le _, Nat.zero_le _⟩ ?_
  refine fp_imul hx hb dX7_costOf_19 ?_
  refine lv_aload_n hx hb dX7_costOf_20 rfl (lv_at hl 0 rfl) ?_
  refine va_get (D := D) (ci := 7) (ws := [(u, .inr (7, [.ref n1, .ref t1, .ref s1, .int (iI (hv)), .ref y1, .ref x1, .ref r1, .ref g1, .ref p1])), (g1, .inr (2, [.ref g2, .ref g4, .ref g6, .ref g8, .int (iI (c (49 + 0))), .int (iI (gfI (pgC c (c 0)) (c (49 + 0)) * c (49 + 0))), .int (iI (gfI (pgC c (c 0)) (c (49 + 0))))])), (g2, .inr (5, [.ref g3])), (g3, fA cyI 65 o7), (g4, .inr (5, [.ref g5])), (g5, fA cyI 65 kd7), (g6, .inr (5, [.ref g7])), (g7, fA cyI 12 f7), (g8, .inr (5, [.ref g9])), (g9, fA cyI 12 g7_), (q1, .inr (0, [.ref q2])), (q2, .inr (5, [.ref q3])), (q3, fA cyI 54 c)]) (v := .ref g1) (C := RX7) (T := TX7) (N := 9) hx hb hts (fun _ h => List.mem_cons_of_mem _ (List.mem_append_left _ (List.mem_append_left _ (List.mem_append_left _ (List.mem_append_right _ h))))) hown hK.1 hP 0 rfl rfl 7 (by decide) (hts _ fl_X7_costOf_50) (fun _ h9 => h9) rfl dX7_costOf_21 ?_
  refine fp_pV (As := []) (rest := [.int (iI ((gfI (pgC c (c 0)) (c (49 + 0))) * (gcC c)))]) (wsC := [(u, .inr (7, [.ref n1, .ref t1, .ref s1, .int (iI (hv)), .ref y1, .ref x1, .ref r1, .ref g1, .ref p1])), (g1, .inr (2, [.ref g2, .ref g4, .ref g6, .ref g8, .int (iI (c (49 + 0))), .int (iI (gfI (pgC c (c 0)) (c (49 + 0)) * c (49 + 0))), .int (iI (gfI (pgC c (c 0)) (c (49 + 0))))])), (g2, .inr (5, [.ref g3])), (g3, fA cyI 65 o7), (g4, .inr (5, [.ref g5])), (g5, fA cyI 65 kd7), (g6, .inr (5, [.ref g7])), (g7, fA cyI 12 f7), (g8, .inr (5, [.ref g9])), (g9, fA cyI 12 g7_), (q1, .inr (0, [.ref q2])), (q2, .inr (5, [.ref q3])), (q3, fA cyI 54 c)]) ⟨hx, hb, hml, hown, hts⟩ (c_X2_colouredSides l D cyI g1 g2 g4 g6 g8 (c (49 + 0)) (gfI (pgC c (c 0)) (c (49 + 0)) * c (49 + 0)) (gfI (pgC c (c 0)) (c (49 + 0))) g5 kd7 hX.1 ⟨rfl, by unfold laC at hl5; omega, by unfold laC at hl5; omega, by unfold gaC at hl5; omega, by unfold gaC at hl5; omega⟩ (fun p9 a1 a2 => (LayP_rg hC pLP_5 p9 a1 a2).1)) (cwV 0 hts gX7_costOf_X2_colouredSides rfl rfl rfl (by decide +kernel) ⟨Nat.le_of_ble_eq_true rfl, Nat.le_of_ble_eq_true rfl⟩) hK hP hD [1, 4, 5] (by decide) rfl rfl rfl rfl hl.1 rfl (Nat.le_of_ble_eq_true rfl) dX7_costOf_24 ⟨Nat.zero_le _, Nat.zero_le _⟩ ?_
  refine lv_aload_n hx hb dX7_costOf_27 rfl (lv_at hl 1 rfl) ?_
  refine fp_iconst hx hb dX7_costOf_28 ?_
  refine fp_pV (As := [.int (iI (2))]) (rest := [.int (iI (sumI (gfI (pgC c (c 0)) (c (49 + 0))).toNat (fun j => colI kd7 (c (49 + 0)) j 0 + colI kd7 (c (49 + 0)) j 1))), .int (iI ((gfI (pgC c (c 0)) (c (49 + 0))) * (gcC c)))]) (wsC := [(u, .inr (7, [.ref n1, .ref t1, .ref s1, .int (iI (hv)), .ref y1, .ref x1, .ref r1, .ref g1, .ref p1])), (g1, .inr (2, [.ref g2, .ref g4, .ref g6, .ref g8, .int (iI (c (49 + 0))), .int (iI (gfI (pgC c (c 0)) (c (49 + 0)) * c (49 + 0))), .int (iI (gfI (pgC c (c 0)) (c (49 + 0))))])), (g2, .inr (5, [.ref g3])), (g3, fA cyI 65 o7), (g4, .inr (5, [.ref g5])), (g5, fA cyI 65 kd7), (g6, .inr (5, [.ref g7])), (g7, fA cyI 12 f7), (g8, .inr (5, [.ref g9])), (g9, fA cyI 12 g7_), (q1, .inr (0, [.ref q2])), (q2, .inr (5, [.ref q3])), (q3, fA cyI 54 c)]) ⟨hx, hb, hml, hown, hts⟩ (c_X0_setting l D cyI q1 q2 q3 c 2 (by omega)) (cwV 1 hts gX7_costOf_X0_setting rfl rfl rfl (by decide +kernel) ⟨Nat.le_of_ble_eq_true rfl, Nat.le_of_ble_eq_true rfl⟩) hK hP hD [10, 11, 12] (by decide) rfl rfl rfl rfl hl.1 rfl (Nat.le_of_ble_eq_true rfl) dX7_costOf_29 ⟨Nat.zero_le _, Nat.zero_le _⟩ ?_
  refine fp_imul hx hb dX7_costOf_32 ?_
  refine fp_iadd hx hb dX7_costOf_33 ?_
  refine lv_aload_n hx hb dX7_costOf_34 rfl (lv_at hl 1 rfl) ?_
  refine fp_pV (As := []) (rest := [.int (iI (((gfI (pgC c (c 0)) (c (49 + 0))) * (gcC c)) + ((sumI (gfI (pgC c (c 0)) (c (49 + 0))).toNat (fun j => colI kd7 (c (49 + 0)) j 0 + colI kd7 (c (49 + 0)) j 1)) * (c (49 + 2)))))]) (wsC := [(u, .inr (7, [.ref n1, .ref t1, .ref s1, .int (iI (hv)), .ref y1, .ref x1, .ref r1, .ref g1, .ref p1])), (g1, .inr (2, [.ref g2, .ref g4, .ref g6, .ref g8, .int (iI (c (49 + 0))), .int (iI (gfI (pgC c (c 0)) (c (49 + 0)) * c (49 + 0))), .int (iI (gfI (pgC c (c 0)) (c (49 + 0))))])), (g2, .inr (5, [.ref g3])), (g3, fA cyI 65 o7), (g4, .inr (5, [.ref g5])), (g5, fA cyI 65 kd7), (g6, .inr (5, [.ref g7])), (g7, fA cyI 12 f7), (g8, .inr (5, [.ref g9])), (g9, fA cyI 12 g7_), (q1, .inr (0, [.ref q2])), (q2, .inr (5, [.ref q3])), (q3, fA cyI 54 c)]) ⟨hx, hb, hml, hown, hts⟩ (c_X0_blanks l D cyI q1 q2 q3 c hC) (cwV 0 hts gX7_costOf_X0_blanks rfl rfl rfl (by decide +kernel) ⟨Nat.le_of_ble_eq_true rfl, Nat.le_of_ble_eq_true rfl⟩) hK hP hD [10, 11, 12] (by decide) rfl rfl rfl rfl hl.1 rfl (Nat.le_of_ble_eq_true rfl) dX7_costOf_35 ⟨Nat.zero_le _, Nat.zero_le _⟩ ?_
  refine lv_aload_n hx hb dX7_costOf_38 rfl (lv_at hl 1 rfl) ?_
  refine fp_iconst hx hb dX7_costOf_39 ?_
  refine fp_pV (As := [.int (iI (3))]) (rest := [.int (iI (blC c)), .int (iI (((gfI (pgC c (c 0)) (c (49 + 0))) * (gcC c)) + ((sumI (gfI (pgC c (c 0)) (c (49 + 0))).toNat (fun j => colI kd7 (c (49 + 0)) j 0 + colI kd7 (c (49 + 0)) j 1)) * (c (49 + 2)))))]) (wsC := [(u, .inr (7, [.ref n1, .ref t1, .ref s1, .int (iI (hv)), .ref y1, .ref x1, .ref r1, .ref g1, .ref p1])), (g1, .inr (2, [.ref g2, .ref g4, .ref g6, .ref g8, .int (iI (c (49 + 0))), .int (iI (gfI (pgC c (c 0)) (c (49 + 0)) * c (49 + 0))), .int (iI (gfI (pgC c (c 0)) (c (49 + 0))))])), (g2, .inr (5, [.ref g3])), (g3, fA cyI 65 o7), (g4, .inr (5, [.ref g5])), (g5, fA cyI 65 kd7), (g6, .inr (5, [.ref g7])), (g7, fA cyI 12 f7), (g8, .inr (5, [.ref g9])), (g9, fA cyI 12 g7_), (q1, .inr (0, [.ref q2])), (q2, .inr (5, [.ref q3])), (q3, fA cyI 54 c)]) ⟨hx, hb, hml, hown, hts⟩ (c_X0_setting l D cyI q1 q2 q3 c 3 (by omega)) (cwV 1 hts gX7_costOf_X0_setting rfl rfl rfl (by decide +kernel) ⟨Nat.le_of_ble_eq_true rfl, Nat.le_of_ble_eq_true rfl⟩) hK hP hD [10, 11, 12] (by decide) rfl rfl rfl rfl hl.1 rfl (Nat.le_of_ble_eq_true rfl) dX7_costOf_40 ⟨Nat.zero_le _, Nat.zero_le _⟩ ?_
  refine fp_imul hx hb dX7_costOf_43 ?_
  refine fp_iadd hx hb dX7_costOf_44 ?_
  have hP : va_P D vwCl [(u, .inr (7, [.ref n1, .ref t1, .ref s1, .int (iI (hv)), .ref y1, .ref x1, .ref r1, .ref g1, .ref p1])), (g1, .inr (2, [.ref g2, .ref g4, .ref g6, .ref g8, .int (iI (c (49 + 0))), .int (iI (laC c)), .int (iI (gaC c))])), (g2, .inr (5, [.ref g3])), (g3, fA cyI 65 o7), (g4, .inr (5, [.ref g5])), (g5, fA cyI 65 kd7), (g6, .inr (5, [.ref g7])), (g7, fA cyI 12 f7), (g8, .inr (5, [.ref g9])), (g9, fA cyI 12 g7_), (q1, .inr (0, [.ref q2])), (q2, .inr (5, [.ref q3])), (q3, fA cyI 54 c)] H := by
    rw [(show (gfI (pgC c (c 0)) (c (49 + 0)) * c (49 + 0) : Int) = laC c from (by first | rfl | omega)).symm]
    rw [(show (gfI (pgC c (c 0)) (c (49 + 0)) : Int) = gaC c from (by first | rfl | omega)).symm]
    exact hP
  have hret : (csC c : Int) = (((gfI (pgC c (c 0)) (c (49 + 0))) * (gcC c)) + ((sumI (gfI (pgC c (c 0)) (c (49 + 0))).toNat (fun j => colI kd7 (c (49 + 0)) j 0 + colI kd7 (c (49 + 0)) j 1)) * (c (49 + 2)))) + ((blC c) * (c (49 + 3))) := (by unfold csC; rw [← co_L hC (o := o7) (kd := kd7) pLP_5]; rfl)
  exact fp_wret (o7, kd7, f7, g7_) hx hb hr hlocks hS (by dsimp only; exact hP) trivial (congrArg (fun z : Int => some (Value.int (iI z))) hret) dX7_costOf_45
theorem fl_X7_facingPlates_10 : Cond.fieldLink RX7 10 "FacingPlates" "now" "LFacingPlates$Catalogue;" ∈ wsX7_facingPlates := by decide +kernel
theorem fl_X7_facingPlates_50 : Cond.fieldLink RX7 50 "FacingPlates" "layout" "LFacingPlates$Layout;" ∈ wsX7_facingPlates := by decide +kernel
set_option maxHeartbeats 4000000 in
set_option maxRecDepth 100000 in
theorem c_X7_facingPlates (l : Launch) (D : va_G) (cyI : ClassId) (u : Nat) (n1 : Nat) (t1 : Nat) (s1 : Nat) (hv : Int) (y1 : Nat) (x1 : Nat) (r1 : Nat) (g1 : Nat) (p1 : Nat) (n2 : Nat) (n3 : Nat) (c : Int → Int) (g2 : Nat) (g4 : Nat) (g6 : Nat) (g8 : Nat) (size : Int) (laid : Int) (gath : Int) (g3 : Nat) (o : Int → Int) (g5 : Nat) (kd : Int → Int) (g7 : Nat) (f : Int → Int) (g9 : Nat) (g : Int → Int) (hC : CatOK c) (hla : laid = laC c) (hLP : LayP c (laC c) o kd) (hLF : LayF c (c 0) f g) : fp_M l yX7_facingPlates wsX7_facingPlates ({ frames := 4, cells := 0, slots := 0, locals := 86 } : Room) D cyI [(u, .inr (7, [.ref n1, .ref t1, .ref s1, .int (iI (hv)), .ref y1, .ref x1, .ref r1, .ref g1, .ref p1])), (n1, .inr (0, [.ref n2])), (n2, .inr (5, [.ref n3])), (n3, fA cyI 54 c), (g1, .inr (2, [.ref g2, .ref g4, .ref g6, .ref g8, .int (iI (size)), .int (iI (laid)), .int (iI (gath))])), (g2, .inr (5, [.ref g3])), (g3, fA cyI 65 o), (g4, .inr (5, [.ref g5])), (g5, fA cyI 65 kd), (g6, .inr (5, [.ref g7])), (g7, fA cyI 12 f), (g8, .inr (5, [.ref g9])), (g9, fA cyI 12 g)] [.ref u] (some (.int (iI (fcC c)))) := by
  refine fp_start (cc := cX7_facingPlates) (maxL := 3) (ret := (some .int)) (by decide) rfl (Nat.le_of_ble_eq_true rfl) ?_
  intro pg en sx mi ar bl mt cd ls hx hb hr hts hown hlocks hml hnm hP hK hD hl
  have hown : sx.vm.findClass RX7 = some mi.cls := hown
  have hl : lv_has ls 3 [(0, .ref u)] := hl
  have hl5 := la_b hC
  have hX := hC.2.2
  unfold SetOK at hX
  have hN := hC.1
  refine fp_iconst hx hb dX7_facingPlates_0 ?_
  refine lv_istore_n (lv' := [(1, .int (iI (0))), (0, .ref u)]) hx hb dX7_facingPlates_1 rfl hl (by decide) rfl (fun ls hl => ?_)
  refine fp_iconst hx hb dX7_facingPlates_2 ?_
  refine lv_istore_n (lv' := [(2, .int (iI (0))), (1, .int (iI (0))), (0, .ref u)]) hx hb dX7_facingPlates_3 rfl hl (by decide) rfl (fun ls hl => ?_)
  have hl := lv_sub hl (l' := [(0, .ref u), (1, .int (iI (0))), (2, .int (iI (0)))]) [2, 1, 0] rfl
  have lp0 : ∀ (nf : Nat) (z : Int) (k : Int), (0 ≤ k ∧ k ≤ c 0) → (z = sumI k.toNat (fun k => bI (¬ c (k * 4 + 2) = 0 ∧ whC c k = 0))) → (c 0 + 1 ≤ k + (nf : Int)) → ∀ (ls : Array Slot), lv_has ls 3 [(0, .ref u), (1, .int (iI (z))), (2, .int (iI (k)))] → W pg l en ({ frames := 4, cells := 0, slots := 0, locals := 86 } : Room) sx mi ar bl mt cd sx.heap [] 0 0 (MQ bl (fp_Qp (some (.int (iI (fcC c))))) ar sx 0 0 (fun _ => False)) (F0 mi 4 ls []) := by
    intro nf
    induction nf with
    | zero =>
      intro z k ik iz hfuel
      exact absurd hfuel (by omega)
    | succ nf ih0 =>
      intro z k ik iz hfuel ls hl
      refine lv_iload_n hx hb dX7_facingPlates_4 rfl (lv_at hl 2 rfl) ?_
      refine lv_aload_n hx hb dX7_facingPlates_5 rfl (lv_at hl 0 rfl) ?_
      refine va_get (D := D) (ci := 7) (ws := [(u, .inr (7, [.ref n1, .ref t1, .ref s1, .int (iI (hv)), .ref y1, .ref x1, .ref r1, .ref g1, .ref p1])), (n1, .inr (0, [.ref n2])), (n2, .inr (5, [.ref n3])), (n3, fA cyI 54 c), (g1, .inr (2, [.ref g2, .ref g4, .ref g6, .ref g8, .int (iI (size)), .int (iI (laid)), .int (iI (gath))])), (g2, .inr (5, [.ref g3])), (g3, fA cyI 65 o), (g4, .inr (5, [.ref g5])), (g5, fA cyI 65 kd), (g6, .inr (5, [.ref g7])), (g7, fA cyI 12 f), (g8, .inr (5, [.ref g9])), (g9, fA cyI 12 g)]) (v := .ref n1) (C := RX7) (T := TX7) (N := 9) hx hb hts (fun _ h => List.mem_cons_of_mem _ (List.mem_append_left _ (List.mem_append_left _ (List.mem_append_left _ (List.mem_append_right _ h))))) hown hK.1 hP 0 rfl rfl 0 (by decide) (hts _ fl_X7_facingPlates_10) (fun _ h9 => h9) rfl dX7_facingPlates_6 ?_
      refine fp_pV (As := []) (rest := [.int (iI (k))]) (wsC := [(u, .inr (7, [.ref n1, .ref t1, .ref s1, .int (iI (hv)), .ref y1, .ref x1, .ref r1, .ref g1, .ref p1])), (n1, .inr (0, [.ref n2])), (n2, .inr (5, [.ref n3])), (n3, fA cyI 54 c), (g1, .inr (2, [.ref g2, .ref g4, .ref g6, .ref g8, .int (iI (size)), .int (iI (laid)), .int (iI (gath))])), (g2, .inr (5, [.ref g3])), (g3, fA cyI 65 o), (g4, .inr (5, [.ref g5])), (g5, fA cyI 65 kd), (g6, .inr (5, [.ref g7])), (g7, fA cyI 12 f), (g8, .inr (5, [.ref g9])), (g9, fA cyI 12 g)]) ⟨hx, hb, hml, hown, hts⟩ (c_X0_lots l D cyI n1 n2 n3 c) (cwV 0 hts gX7_facingPlates_X0_lots rfl rfl rfl (by decide +kernel) ⟨Nat.le_of_ble_eq_true rfl, Nat.le_of_ble_eq_true rfl⟩) hK hP hD [1, 2, 3] (by decide) rfl rfl rfl rfl hl.1 rfl (Nat.le_of_ble_eq_true rfl) dX7_facingPlates_9 ⟨Nat.zero_le _, Nat.zero_le _⟩ ?_
      refine fp_icmp_ge (tgt := 46) hx hb (by omega) dX7_facingPlates_12 (by decide) (fun q12 => ?_) (fun q12 => ?_)
      · skip
        refine lv_iload_n hx hb dX7_facingPlates_46 rfl (lv_at hl 1 rfl) ?_
        have hret : (fcC c : Int) = z := (by unfold fcC; rw [iz]; congr 2; omega)
        exact fp_ret hx hb hr hlocks dX7_facingPlates_47 (congrArg (fun z : Int => Value.int (iI z)) hret)
      · skip
        refine lv_aload_n hx hb dX7_facingPlates_15 rfl (lv_at hl 0 rfl) ?_
        refine va_get (D := D) (ci := 7) (ws := [(u, .inr (7, [.ref n1, .ref t1, .ref s1, .int (iI (hv)), .ref y1, .ref x1, .ref r1, .ref g1, .ref p1])), (n1, .inr (0, [.ref n2])), (n2, .inr (5, [.ref n3])), (n3, fA cyI 54 c), (g1, .inr (2, [.ref g2, .ref g4, .ref g6, .ref g8, .int (iI (size)), .int (iI (laid)), .int (iI (gath))])), (g2, .inr (5, [.ref g3])), (g3, fA cyI 65 o), (g4, .inr (5, [.ref g5])), (g5, fA cyI 65 kd), (g6, .inr (5, [.ref g7])), (g7, fA cyI 12 f), (g8, .inr (5, [.ref g9])), (g9, fA cyI 12 g)]) (v := .ref n1) (C := RX7) (T := TX7) (N := 9) hx hb hts (fun _ h => List.mem_cons_of_mem _ (List.mem_append_left _ (List.mem_append_left _ (List.mem_append_left _ (List.mem_append_right _ h))))) hown hK.1 hP 0 rfl rfl 0 (by decide) (hts _ fl_X7_facingPlates_10) (fun _ h9 => h9) rfl dX7_facingPlates_16 ?_
        refine lv_iload_n hx hb dX7_facingPlates_19 rfl (lv_at hl 2 rfl) ?_
        refine fp_pV (As := [.int (iI (k))]) (rest := []) (wsC := [(u, .inr (7, [.ref n1, .ref t1, .ref s1, .int (iI (hv)), .ref y1, .ref x1, .ref r1, .ref g1, .ref p1])), (n1, .inr (0, [.ref n2])), (n2, .inr (5, [.ref n3])), (n3, fA cyI 54 c), (g1, .inr (2, [.ref g2, .ref g4, .ref g6, .ref g8, .int (iI (size)), .int (iI (laid)), .int (iI (gath))])), (g2, .inr (5, [.ref g3])), (g3, fA cyI 65 o), (g4, .inr (5, [.ref g5])), (g5, fA cyI 65 kd), (g6, .inr (5, [.ref g7])), (g7, fA cyI 12 f), (g8, .inr (5, [.ref g9])), (g9, fA cyI 12 g)]) ⟨hx, hb, hml, hown, hts⟩ (c_X0_plate l D cyI n1 n2 n3 c k (by omega)) (cwV 1 hts gX7_facingPlates_X0_plate rfl rfl rfl (by decide +kernel) ⟨Nat.le_of_ble_eq_true rfl, Nat.le_of_ble_eq_true rfl⟩) hK hP hD [1, 2, 3] (by decide) rfl rfl rfl rfl hl.1 rfl (Nat.le_of_ble_eq_true rfl) dX7_facingPlates_20 ⟨Nat.zero_le _, Nat.zero_le _⟩ ?_
        have hL := lot_f hC (k := k) (by omega)
        unfold LotOK at hL
        refine fp_if_eq (tgt := 40) hx hb (by omega) dX7_facingPlates_23 (by decide) (fun q23 => ?_) (fun q23 => ?_)
        · skip
          refine fp_iinc (k := 2) (lv' := [(2, .int (iI (k + 1))), (0, .ref u), (1, .int (iI (z)))]) hx hb dX7_facingPlates_40 hl rfl (by decide) rfl (fun ls hl => ?_)
          refine lv_goto (tgt := 4) hx hb dX7_facingPlates_43 (by decide) ?_
          exact ih0 z (k + 1) (by omega) (by rw [iz, sumI_s _ ik.1]; first | rw [bI_t (by omega)] | rw [bI_f (by omega), Int.add_zero]) (by omega) ls (lv_sub hl [1, 2, 0] rfl)
        · skip
          have hw := wh_L hC hLP hLF (k := k) (by omega)
          rw [← hla] at hw
          have hpp := pp_b hC (k := k) (by omega)
          have hgk := (hLF k ik.1 (by omega)).2
          rw [if_neg q23] at hgk
          refine lv_aload_n hx hb dX7_facingPlates_26 rfl (lv_at hl 0 rfl) ?_
          refine va_get (D := D) (ci := 7) (ws := [(u, .inr (7, [.ref n1, .ref t1, .ref s1, .int (iI (hv)), .ref y1, .ref x1, .ref r1, .ref g1, .ref p1])), (n1, .inr (0, [.ref n2])), (n2, .inr (5, [.ref n3])), (n3, fA cyI 54 c), (g1, .inr (2, [.ref g2, .ref g4, .ref g6, .ref g8, .int (iI (size)), .int (iI (laid)), .int (iI (gath))])), (g2, .inr (5, [.ref g3])), (g3, fA cyI 65 o), (g4, .inr (5, [.ref g5])), (g5, fA cyI 65 kd), (g6, .inr (5, [.ref g7])), (g7, fA cyI 12 f), (g8, .inr (5, [.ref g9])), (g9, fA cyI 12 g)]) (v := .ref g1) (C := RX7) (T := TX7) (N := 9) hx hb hts (fun _ h => List.mem_cons_of_mem _ (List.mem_append_left _ (List.mem_append_left _ (List.mem_append_left _ (List.mem_append_right _ h))))) hown hK.1 hP 0 rfl rfl 7 (by decide) (hts _ fl_X7_facingPlates_50) (fun _ h9 => h9) rfl dX7_facingPlates_27 ?_
          refine lv_iload_n hx hb dX7_facingPlates_30 rfl (lv_at hl 2 rfl) ?_
          refine fp_pV (As := [.int (iI (k))]) (rest := []) (wsC := [(u, .inr (7, [.ref n1, .ref t1, .ref s1, .int (iI (hv)), .ref y1, .ref x1, .ref r1, .ref g1, .ref p1])), (n1, .inr (0, [.ref n2])), (n2, .inr (5, [.ref n3])), (n3, fA cyI 54 c), (g1, .inr (2, [.ref g2, .ref g4, .ref g6, .ref g8, .int (iI (size)), .int (iI (laid)), .int (iI (gath))])), (g2, .inr (5, [.ref g3])), (g3, fA cyI 65 o), (g4, .inr (5, [.ref g5])), (g5, fA cyI 65 kd), (g6, .inr (5, [.ref g7])), (g7, fA cyI 12 f), (g8, .inr (5, [.ref g9])), (g9, fA cyI 12 g)]) ⟨hx, hb, hml, hown, hts⟩ (c_X2_whyNotFacing l D cyI g1 g2 g4 g6 g8 size laid gath g3 o g5 kd g9 g k (by omega) (by omega) (by omega) (by rw [hla]; exact LayP_rg hC hLP)) (cwV 1 hts gX7_facingPlates_X2_whyNotFacing rfl rfl rfl (by decide +kernel) ⟨Nat.le_of_ble_eq_true rfl, Nat.le_of_ble_eq_true rfl⟩) hK hP hD [4, 5, 6, 7, 8, 11, 12] (by decide) rfl rfl rfl rfl hl.1 rfl (Nat.le_of_ble_eq_true rfl) dX7_facingPlates_31 ⟨Nat.zero_le _, Nat.zero_le _⟩ ?_
          refine fp_if_ne (tgt := 40) hx hb (by have := whyI_rg o kd g laid k; omega) dX7_facingPlates_34 (by decide) (fun q34 => ?_) (fun q34 => ?_)
          · skip
            refine fp_iinc (k := 2) (lv' := [(2, .int (iI (k + 1))), (0, .ref u), (1, .int (iI (z)))]) hx hb dX7_facingPlates_40 hl rfl (by decide) rfl (fun ls hl => ?_)
            refine lv_goto (tgt := 4) hx hb dX7_facingPlates_43 (by decide) ?_
            exact ih0 z (k + 1) (by omega) (by rw [iz, sumI_s _ ik.1]; first | rw [bI_t (by omega)] | rw [bI_f (by omega), Int.add_zero]) (by omega) ls (lv_sub hl [1, 2, 0] rfl)
          · skip
            refine fp_iinc (k := 1) (lv' := [(1, .int (iI (z + 1))), (0, .ref u), (2, .int (iI (k)))]) hx hb dX7_facingPlates_37 hl rfl (by decide) rfl (fun ls hl => ?_)
            refine fp_iinc (k := 2) (lv' := [(2, .int (iI (k + 1))), (1, .int (iI (z + 1))), (0, .ref u)]) hx hb dX7_facingPlates_40 hl rfl (by decide) rfl (fun ls hl => ?_)
            refine lv_goto (tgt := 4) hx hb dX7_facingPlates_43 (by decide) ?_
            exact ih0 (z + 1) (k + 1) (by omega) (by rw [iz, sumI_s _ ik.1]; first | rw [bI_t (by omega)] | rw [bI_f (by omega), Int.add_zero]) (by omega) ls (lv_sub hl [2, 1, 0] rfl)
  exact lp0 (((c 0 : Int) + 1 - (0)).toNat) 0 0 (by omega) rfl (by omega) ls hl
