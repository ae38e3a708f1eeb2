theorem st_w {c : Int → Int} {w v : Int} (h : 0 ≤ stR c w v) (hC : CatOK c) : 0 ≤ w ∧ w ≤ 4 := by
  unfold stR at h
  split at h
  · omega
  · omega
theorem stK {c : Int → Int} (hC : CatOK c ∧ c 0 ≤ 9) {w v : Int} (h : 0 ≤ stR c w v) : CatOK (upI c (49 + w) v) ∧ upI c (49 + w) v 0 ≤ 9 := by
  have hw := st_w h hC.1
  unfold stR at h
  split at h
  · omega
  · split at h
    · omega
    · rename_i h1
      exact ⟨Cat_st hC.1 hw (Decidable.not_not.mp h1), by rw [upI_n (by omega)]; exact hC.2⟩
theorem adK {c : Int → Int} (hC : CatOK c ∧ c 0 ≤ 9) (h8 : c 0 ≤ 8) {t p : Int} (h : 0 ≤ adR c t p) : CatOK (appL c t p 0 0) ∧ appL c t p 0 0 0 ≤ 9 := by
  have hN := hC.1.1
  have e : appL c t p 0 0 0 = c 0 + 1 := by unfold appL; rw [if_pos (by omega), upI_s rfl]
  unfold adR at h
  split at h
  · omega
  · rename_i h1
    exact ⟨Cat_app hC.1 (by omega) (by unfold LotOK; omega), by rw [e]; omega⟩
theorem rmK {c : Int → Int} (hC : CatOK c ∧ c 0 ≤ 9) {k : Int} (h : 0 ≤ rmR c k) : CatOK (rmC c k) ∧ rmC c k 0 ≤ 9 := by
  unfold rmR at h
  split at h
  · omega
  · rename_i h1
    exact ⟨Cat_rm hC.1 (Decidable.not_not.mp h1), by unfold rmC; rw [upI_s rfl]; omega⟩
theorem chK {c : Int → Int} (hC : CatOK c ∧ c 0 ≤ 9) {k t p : Int} (h : 0 ≤ chR c k t p) : CatOK (chC c k t p) ∧ chC c k t p 0 ≤ 9 := by
  unfold chR at h
  split at h
  · omega
  · split at h
    · omega
    · rename_i h1 h2
      exact ⟨Cat_ch hC.1 (Decidable.not_not.mp h1) (Decidable.not_not.mp h2), by unfold chC; rw [put_n (by omega)]; exact hC.2⟩
theorem mvK {c : Int → Int} (hC : CatOK c ∧ c 0 ≤ 9) {a b : Int} (h : 0 ≤ mvR c a b) : CatOK (shL c a b) ∧ shL c a b 0 ≤ 9 := by
  unfold mvR at h
  split at h
  · omega
  · rename_i h1
    have h2 := Decidable.not_not.mp h1
    exact ⟨Cat_sh hC.1 h2.1 h2.2, by rw [sh_n (by omega)]; exact hC.2⟩
theorem coK {c : Int → Int} (hC : CatOK c ∧ c 0 ≤ 9) {k b q : Int} (hb : b = 0 ∨ b = 1) (h : 0 ≤ coR c k b q) : CatOK (choL c k b q) ∧ choL c k b q 0 ≤ 9 := by
  unfold coR at h
  split at h
  · omega
  · split at h
    · omega
    · rename_i h1 h2
      have h1 := Decidable.not_not.mp h1
      exact ⟨Cat_cho hC.1 h1 (by omega) (Decidable.not_not.mp h2), by rw [cho_n (by omega)]; exact hC.2⟩
theorem cpK {c g : Int → Int} (hC : CatOK c ∧ c 0 ≤ 9) (hg : CatOK g) (h0 : g 0 = c 0) : CatOK (cpI c g 0 0 49) ∧ cpI c g 0 0 49 0 ≤ 9 :=
  ⟨Cat_cp hC.1 hg.1 hg.2.1, by rw [cp_lo (by omega), h0]; exact hC.2⟩
theorem tyK {x : Int → Int} {n v : Int} (hT : TextOK x ∧ 0 ≤ n ∧ n ≤ 60) (hn : n < 60) (hv : 0 ≤ v ∧ v ≤ 65535) : TextOK (upI x n v) ∧ 0 ≤ n + 1 ∧ n + 1 ≤ 60 := by
  refine ⟨fun j => ?_, by omega, by omega⟩
  by_cases e : j = n
  · rw [upI_s e]; exact hv
  · rw [upI_n e]; exact hT.1 j
set_option maxHeartbeats 2000000 in
theorem oc_set (l : Launch) (D : va_G) (cyI : ClassId) (A : Nat → Nat) {c : Int → Int} {ny : Int} {x : Int → Int} {n : Int} {w v : Int} (hw9 : -2147483648 ≤ w ∧ w ≤ 2147483647) (hv9 : -2147483648 ≤ v ∧ v ≤ 2147483647) : OC l yX7_set wsX7_set ({ frames := 4, cells := 0, slots := 0, locals := 90 } : Room) D cyI A [.int (iI (w)), .int (iI (v))] (c, ny, x, n) (fun z r => z = stR c w v ∧ r = ((if 0 ≤ stR c w v then upI c (49 + w) v else c), (if 0 ≤ stR c w v then recN ny else ny), x, n)) := by
  intro I C h
  obtain ⟨⟨⟨e0, e1⟩, e2, e3⟩, hC, hH, hT⟩ := h
  dsimp only at e0 e1 e2 e3 hC hH hT
  subst e0 e1 e2 e3
  have hact := act_1 (c' := upI (C 0) (49 + w) v) (r := stR (C 0) w v) hH.1 hH.2 hC (fun z => stK hC z)
  refine fq_MW (c_X7_set l D cyI (A 0) (A 1) (A 4) (A 7) (I 0) (A 10) (A 17) (A 13) (A 20) (A 29) (A 2) (A 3) (C 0) (A 11) (A 12) (C 3) (I 1) w v hC.1 hH.2 hw9 hv9) [0, 1, 2, 3, 10, 11, 12] [true, true, true, true, false, false, false, false, false, false, true, true, true] rfl (Nat.le_of_ble_eq_true rfl) (by decide) rfl (fun _ => rfl) (fun u => ((upN I 1 (if 0 ≤ stR (C 0) w v then recN (I 1) else (I 1))), (upN (upN C 0 (if 0 ≤ stR (C 0) w v then upI (C 0) (49 + w) v else (C 0))) 3 (if 0 ≤ stR (C 0) w v then recH (C 3) (C 0) (I 1) else (C 3))), stR (C 0) w v, ((if 0 ≤ stR (C 0) w v then upI (C 0) (49 + w) v else (C 0)), (if 0 ≤ stR (C 0) w v then recN (I 1) else (I 1)), (C 4), (I 2)))) (fun u hu => ⟨⟨⟨⟨rfl, rfl⟩, rfl, rfl⟩, hact.1, hact.2, hT⟩, ⟨rfl, rfl⟩⟩) (fun _ _ => rfl) (fun _ _ => rfl)
set_option maxHeartbeats 2000000 in
theorem oc_add (l : Launch) (D : va_G) (cyI : ClassId) (A : Nat → Nat) {c : Int → Int} {ny : Int} {x : Int → Int} {n : Int} {t p : Int} (h8 : c 0 ≤ 8) (ht9 : -2147483648 ≤ t ∧ t ≤ 2147483647) (hp9 : -2147483648 ≤ p ∧ p ≤ 2147483647) : OC l yX7_add wsX7_add ({ frames := 4, cells := 0, slots := 0, locals := 95 } : Room) D cyI A [.int (iI (t)), .int (iI (p))] (c, ny, x, n) (fun z r => z = adR c t p ∧ r = ((if 0 ≤ adR c t p then appL c t p 0 0 else c), (if 0 ≤ adR c t p then recN ny else ny), x, n)) := by
  intro I C h
  obtain ⟨⟨⟨e0, e1⟩, e2, e3⟩, hC, hH, hT⟩ := h
  dsimp only at e0 e1 e2 e3 hC hH hT
  subst e0 e1 e2 e3
  have hact := act_1 (c' := appL (C 0) t p 0 0) (r := adR (C 0) t p) hH.1 hH.2 hC (fun z => adK hC h8 z)
  refine fq_MW (c_X7_add l D cyI (A 0) (A 1) (A 4) (A 7) (I 0) (A 10) (A 17) (A 13) (A 20) (A 29) (A 2) (A 3) (C 0) (A 11) (A 12) (C 3) (I 1) t p hC.1 hH.2 ht9 hp9) [0, 1, 2, 3, 10, 11, 12] [true, true, true, true, false, false, false, false, false, false, true, true, true] rfl (Nat.le_of_ble_eq_true rfl) (by decide) rfl (fun _ => rfl) (fun u => ((upN I 1 (if 0 ≤ adR (C 0) t p then recN (I 1) else (I 1))), (upN (upN C 0 (if 0 ≤ adR (C 0) t p then appL (C 0) t p 0 0 else (C 0))) 3 (if 0 ≤ adR (C 0) t p then recH (C 3) (C 0) (I 1) else (C 3))), adR (C 0) t p, ((if 0 ≤ adR (C 0) t p then appL (C 0) t p 0 0 else (C 0)), (if 0 ≤ adR (C 0) t p then recN (I 1) else (I 1)), (C 4), (I 2)))) (fun u hu => ⟨⟨⟨⟨rfl, rfl⟩, rfl, rfl⟩, hact.1, hact.2, hT⟩, ⟨rfl, rfl⟩⟩) (fun _ _ => rfl) (fun _ _ => rfl)
set_option maxHeartbeats 2000000 in
theorem oc_remove (l : Launch) (D : va_G) (cyI : ClassId) (A : Nat → Nat) {c : Int → Int} {ny : Int} {x : Int → Int} {n : Int} {k : Int} (hk9 : -2147483648 ≤ k ∧ k ≤ 2147483647) : OC l yX7_remove wsX7_remove ({ frames := 6, cells := 0, slots := 0, locals := 141 } : Room) D cyI A [.int (iI (k))] (c, ny, x, n) (fun z r => z = rmR c k ∧ r = ((if 0 ≤ rmR c k then rmC c k else c), (if 0 ≤ rmR c k then recN ny else ny), x, n)) := by
  intro I C h
  obtain ⟨⟨⟨e0, e1⟩, e2, e3⟩, hC, hH, hT⟩ := h
  dsimp only at e0 e1 e2 e3 hC hH hT
  subst e0 e1 e2 e3
  have hact := act_1 (c' := rmC (C 0) k) (r := rmR (C 0) k) hH.1 hH.2 hC (fun z => rmK hC z)
  refine fq_MW (c_X7_remove l D cyI (A 0) (A 1) (A 4) (A 7) (I 0) (A 10) (A 17) (A 13) (A 20) (A 29) (A 2) (A 3) (C 0) (A 11) (A 12) (C 3) (I 1) k hC.1 hH.2 hk9) [0, 1, 2, 3, 10, 11, 12] [true, true, true, true, false, false, false, false, false, false, true, true, true] rfl (Nat.le_of_ble_eq_true rfl) (by decide) rfl (fun _ => rfl) (fun u => ((upN I 1 (if 0 ≤ rmR (C 0) k then recN (I 1) else (I 1))), (upN (upN C 0 (if 0 ≤ rmR (C 0) k then rmC (C 0) k else (C 0))) 3 (if 0 ≤ rmR (C 0) k then recH (C 3) (C 0) (I 1) else (C 3))), rmR (C 0) k, ((if 0 ≤ rmR (C 0) k then rmC (C 0) k else (C 0)), (if 0 ≤ rmR (C 0) k then recN (I 1) else (I 1)), (C 4), (I 2)))) (fun u hu => ⟨⟨⟨⟨rfl, rfl⟩, rfl, rfl⟩, hact.1, hact.2, hT⟩, ⟨rfl, rfl⟩⟩) (fun _ _ => rfl) (fun _ _ => rfl)
set_option maxHeartbeats 2000000 in
theorem oc_change (l : Launch) (D : va_G) (cyI : ClassId) (A : Nat → Nat) {c : Int → Int} {ny : Int} {x : Int → Int} {n : Int} {k t p : Int} (hk9 : -2147483648 ≤ k ∧ k ≤ 2147483647) (ht9 : -2147483648 ≤ t ∧ t ≤ 2147483647) (hp9 : -2147483648 ≤ p ∧ p ≤ 2147483647) : OC l yX7_change wsX7_change ({ frames := 4, cells := 0, slots := 0, locals := 90 } : Room) D cyI A [.int (iI (k)), .int (iI (t)), .int (iI (p))] (c, ny, x, n) (fun z r => z = chR c k t p ∧ r = ((if 0 ≤ chR c k t p then chC c k t p else c), (if 0 ≤ chR c k t p then recN ny else ny), x, n)) := by
  intro I C h
  obtain ⟨⟨⟨e0, e1⟩, e2, e3⟩, hC, hH, hT⟩ := h
  dsimp only at e0 e1 e2 e3 hC hH hT
  subst e0 e1 e2 e3
  have hact := act_1 (c' := chC (C 0) k t p) (r := chR (C 0) k t p) hH.1 hH.2 hC (fun z => chK hC z)
  refine fq_MW (c_X7_change l D cyI (A 0) (A 1) (A 4) (A 7) (I 0) (A 10) (A 17) (A 13) (A 20) (A 29) (A 2) (A 3) (C 0) (A 11) (A 12) (C 3) (I 1) k t p hC.1 hH.2 hk9 ht9 hp9) [0, 1, 2, 3, 10, 11, 12] [true, true, true, true, false, false, false, false, false, false, true, true, true] rfl (Nat.le_of_ble_eq_true rfl) (by decide) rfl (fun _ => rfl) (fun u => ((upN I 1 (if 0 ≤ chR (C 0) k t p then recN (I 1) else (I 1))), (upN (upN C 0 (if 0 ≤ chR (C 0) k t p then chC (C 0) k t p else (C 0))) 3 (if 0 ≤ chR (C 0) k t p then recH (C 3) (C 0) (I 1) else (C 3))), chR (C 0) k t p, ((if 0 ≤ chR (C 0) k t p then chC (C 0) k t p else (C 0)), (if 0 ≤ chR (C 0) k t p then recN (I 1) else (I 1)), (C 4), (I 2)))) (fun u hu => ⟨⟨⟨⟨rfl, rfl⟩, rfl, rfl⟩, hact.1, hact.2, hT⟩, ⟨rfl, rfl⟩⟩) (fun _ _ => rfl) (fun _ _ => rfl)
set_option maxHeartbeats 2000000 in
theorem oc_move (l : Launch) (D : va_G) (cyI : ClassId) (A : Nat → Nat) {c : Int → Int} {ny : Int} {x : Int → Int} {n : Int} {k t : Int} (hk9 : -2147483648 ≤ k ∧ k ≤ 2147483647) (ht9 : -2147483648 ≤ t ∧ t ≤ 2147483647) : OC l yX7_move wsX7_move ({ frames := 5, cells := 0, slots := 0, locals := 119 } : Room) D cyI A [.int (iI (k)), .int (iI (t))] (c, ny, x, n) (fun z r => z = mvR c k t ∧ r = ((if 0 ≤ mvR c k t then shL c k t else c), (if 0 ≤ mvR c k t then recN ny else ny), x, n)) := by
  intro I C h
  obtain ⟨⟨⟨e0, e1⟩, e2, e3⟩, hC, hH, hT⟩ := h
  dsimp only at e0 e1 e2 e3 hC hH hT
  subst e0 e1 e2 e3
  have hact := act_1 (c' := shL (C 0) k t) (r := mvR (C 0) k t) hH.1 hH.2 hC (fun z => mvK hC z)
  refine fq_MW (c_X7_move l D cyI (A 0) (A 1) (A 4) (A 7) (I 0) (A 10) (A 17) (A 13) (A 20) (A 29) (A 2) (A 3) (C 0) (A 11) (A 12) (C 3) (I 1) (A 21) (A 23) (A 25) (A 27) (I 5) (I 6) (I 7) (A 22) (C 6) (A 24) (C 7) (A 26) (C 8) (A 28) (C 9) k t hC.1 hH.2 hk9 ht9) [0, 1, 2, 3, 10, 11, 12, 20, 21, 22, 23, 24, 25, 26, 27, 28] [true, true, true, true, false, false, false, false, false, false, true, true, true, false, false, false, false, false, false, false, true, true, true, true, true, true, true, true, true] rfl (Nat.le_of_ble_eq_true rfl) (by decide) rfl (fun _ => rfl) (fun u => ((upN (upN (upN (upN I 1 (if 0 ≤ mvR (C 0) k t then recN (I 1) else (I 1))) 5 (u.2.2.2.2.1)) 6 (u.2.2.2.2.2.1)) 7 (u.2.2.2.2.2.2)), (upN (upN (upN (upN (upN (upN C 0 (if 0 ≤ mvR (C 0) k t then shL (C 0) k t else (C 0))) 3 (if 0 ≤ mvR (C 0) k t then recH (C 3) (C 0) (I 1) else (C 3))) 6 (u.1)) 7 (u.2.1)) 8 (u.2.2.1)) 9 (u.2.2.2.1)), mvR (C 0) k t, ((if 0 ≤ mvR (C 0) k t then shL (C 0) k t else (C 0)), (if 0 ≤ mvR (C 0) k t then recN (I 1) else (I 1)), (C 4), (I 2)))) (fun u hu => ⟨⟨⟨⟨rfl, rfl⟩, rfl, rfl⟩, hact.1, hact.2, hT⟩, ⟨rfl, rfl⟩⟩) (fun _ _ => rfl) (fun _ _ => rfl)
set_option maxHeartbeats 2000000 in
theorem oc_choose (l : Launch) (D : va_G) (cyI : ClassId) (A : Nat → Nat) {c : Int → Int} {ny : Int} {x : Int → Int} {n : Int} {k b q : Int} (hb9 : b = 0 ∨ b = 1) (hk9 : -2147483648 ≤ k ∧ k ≤ 2147483647) (hq9 : -2147483648 ≤ q ∧ q ≤ 2147483647) : OC l yX7_choose wsX7_choose ({ frames := 5, cells := 0, slots := 0, locals := 111 } : Room) D cyI A [.int (iI (k)), .int (iI (b)), .int (iI (q))] (c, ny, x, n) (fun z r => z = coR c k b q ∧ r = ((if 0 ≤ coR c k b q then choL c k b q else c), (if 0 ≤ coR c k b q then recN ny else ny), x, n)) := by
  intro I C h
  obtain ⟨⟨⟨e0, e1⟩, e2, e3⟩, hC, hH, hT⟩ := h
  dsimp only at e0 e1 e2 e3 hC hH hT
  subst e0 e1 e2 e3
  have hact := act_1 (c' := choL (C 0) k b q) (r := coR (C 0) k b q) hH.1 hH.2 hC (fun z => coK hC hb9 z)
  refine fq_MW (c_X7_choose l D cyI (A 0) (A 1) (A 4) (A 7) (I 0) (A 10) (A 17) (A 13) (A 20) (A 29) (A 2) (A 3) (C 0) (A 11) (A 12) (C 3) (I 1) (A 21) (A 23) (A 25) (A 27) (I 5) (I 6) (I 7) (A 22) (C 6) (A 24) (C 7) (A 26) (C 8) (A 28) (C 9) k b q hC.1 hH.2 hb9 hk9 hq9) [0, 1, 2, 3, 10, 11, 12, 20, 21, 22, 23, 24, 25, 26, 27, 28] [true, true, true, true, false, false, false, false, false, false, true, true, true, false, false, false, false, false, false, false, true, true, true, true, true, true, true, true, true] rfl (Nat.le_of_ble_eq_true rfl) (by decide) rfl (fun _ => rfl) (fun u => ((upN (upN (upN (upN I 1 (if 0 ≤ coR (C 0) k b q then recN (I 1) else (I 1))) 5 (u.2.2.2.2.1)) 6 (u.2.2.2.2.2.1)) 7 (u.2.2.2.2.2.2)), (upN (upN (upN (upN (upN (upN C 0 (if 0 ≤ coR (C 0) k b q then choL (C 0) k b q else (C 0))) 3 (if 0 ≤ coR (C 0) k b q then recH (C 3) (C 0) (I 1) else (C 3))) 6 (u.1)) 7 (u.2.1)) 8 (u.2.2.1)) 9 (u.2.2.2.1)), coR (C 0) k b q, ((if 0 ≤ coR (C 0) k b q then choL (C 0) k b q else (C 0)), (if 0 ≤ coR (C 0) k b q then recN (I 1) else (I 1)), (C 4), (I 2)))) (fun u hu => ⟨⟨⟨⟨rfl, rfl⟩, rfl, rfl⟩, hact.1, hact.2, hT⟩, ⟨rfl, rfl⟩⟩) (fun _ _ => rfl) (fun _ _ => rfl)
set_option maxHeartbeats 2000000 in
theorem oc_count (l : Launch) (D : va_G) (cyI : ClassId) (A : Nat → Nat) {c : Int → Int} {ny : Int} {x : Int → Int} {n : Int} {w : Int} (hw9 : -2147483648 ≤ w ∧ w ≤ 2147483647) : OC l yX7_count wsX7_count ({ frames := 5, cells := 0, slots := 0, locals := 111 } : Room) D cyI A [.int (iI (w))] (c, ny, x, n) (fun z r => z = cnR c ny n w ∧ r = (c, ny, x, n)) := by
  intro I C h
  obtain ⟨⟨⟨e0, e1⟩, e2, e3⟩, hC, hH, hT⟩ := h
  dsimp only at e0 e1 e2 e3 hC hH hT
  subst e0 e1 e2 e3
  refine fq_MW (c_X7_count l D cyI (A 0) (A 1) (A 4) (A 7) (I 0) (A 10) (A 17) (A 13) (A 20) (A 29) (A 2) (A 3) (C 0) (A 11) (A 12) (C 3) (I 1) (A 18) (I 2) (A 21) (A 23) (A 25) (A 27) (I 5) (I 6) (I 7) (A 22) (C 6) (A 24) (C 7) (A 26) (C 8) (A 28) (C 9) w hC.1 hw9) [0, 1, 2, 3, 10, 11, 12, 17, 20, 21, 22, 23, 24, 25, 26, 27, 28] [true, true, true, true, false, false, false, false, false, false, true, true, true, false, false, false, false, true, false, false, true, true, true, true, true, true, true, true, true] rfl (Nat.le_of_ble_eq_true rfl) (by decide) rfl (fun _ => rfl) (fun u => ((upN (upN (upN I 5 ((C 0) (49 + 0))) 6 (laC (C 0))) 7 (gaC (C 0))), (upN (upN (upN (upN C 6 (u.1)) 7 (u.2.1)) 8 (u.2.2.1)) 9 (u.2.2.2)), cnR (C 0) (I 1) (I 2) w, ((C 0), (I 1), (C 4), (I 2)))) (fun u hu => ⟨⟨⟨⟨rfl, rfl⟩, rfl, rfl⟩, hC, hH, hT⟩, ⟨rfl, rfl⟩⟩) (fun _ _ => rfl) (fun _ _ => rfl)
set_option maxHeartbeats 2000000 in
theorem oc_lot (l : Launch) (D : va_G) (cyI : ClassId) (A : Nat → Nat) {c : Int → Int} {ny : Int} {x : Int → Int} {n : Int} {k w : Int} (hk9 : -2147483648 ≤ k ∧ k ≤ 2147483647) (hw9 : -2147483648 ≤ w ∧ w ≤ 2147483647) : OC l yX7_lot wsX7_lot ({ frames := 4, cells := 0, slots := 0, locals := 90 } : Room) D cyI A [.int (iI (k)), .int (iI (w))] (c, ny, x, n) (fun z r => z = ltR c k w ∧ r = (c, ny, x, n)) := by
  intro I C h
  obtain ⟨⟨⟨e0, e1⟩, e2, e3⟩, hC, hH, hT⟩ := h
  dsimp only at e0 e1 e2 e3 hC hH hT
  subst e0 e1 e2 e3
  refine fq_MW (c_X7_lot l D cyI (A 0) (A 1) (A 4) (A 7) (I 0) (A 10) (A 17) (A 13) (A 20) (A 29) (A 2) (A 3) (C 0) (A 21) (A 23) (A 25) (A 27) (I 5) (I 6) (I 7) (A 22) (C 6) (A 24) (C 7) (A 26) (C 8) (A 28) (C 9) k w hC.1 hk9 hw9) [0, 1, 2, 3, 20, 21, 22, 23, 24, 25, 26, 27, 28] [true, true, true, true, false, false, false, false, false, false, false, false, false, false, false, false, false, false, false, false, true, true, true, true, true, true, true, true, true] rfl (Nat.le_of_ble_eq_true rfl) (by decide) rfl (fun _ => rfl) (fun u => ((upN (upN (upN I 5 (u.2.2.2.2.1)) 6 (u.2.2.2.2.2.1)) 7 (u.2.2.2.2.2.2)), (upN (upN (upN (upN C 6 (u.1)) 7 (u.2.1)) 8 (u.2.2.1)) 9 (u.2.2.2.1)), ltR (C 0) k w, ((C 0), (I 1), (C 4), (I 2)))) (fun u hu => ⟨⟨⟨⟨rfl, rfl⟩, rfl, rfl⟩, hC, hH, hT⟩, ⟨rfl, rfl⟩⟩) (fun _ _ => rfl) (fun _ _ => rfl)
set_option maxHeartbeats 2000000 in
theorem oc_page (l : Launch) (D : va_G) (cyI : ClassId) (A : Nat → Nat) {c : Int → Int} {ny : Int} {x : Int → Int} {n : Int} {q w : Int} (hq9 : -2147483648 ≤ q ∧ q ≤ 2147483647) (hw9 : -2147483648 ≤ w ∧ w ≤ 2147483647) : OC l yX7_page wsX7_page ({ frames := 4, cells := 0, slots := 0, locals := 90 } : Room) D cyI A [.int (iI (q)), .int (iI (w))] (c, ny, x, n) (fun z r => z = pgR c q w ∧ r = (c, ny, x, n)) := by
  intro I C h
  obtain ⟨⟨⟨e0, e1⟩, e2, e3⟩, hC, hH, hT⟩ := h
  dsimp only at e0 e1 e2 e3 hC hH hT
  subst e0 e1 e2 e3
  refine fq_MW (c_X7_page l D cyI (A 0) (A 1) (A 4) (A 7) (I 0) (A 10) (A 17) (A 13) (A 20) (A 29) (A 2) (A 3) (C 0) (A 21) (A 23) (A 25) (A 27) (I 5) (I 6) (I 7) (A 22) (C 6) (A 24) (C 7) (A 26) (C 8) (A 28) (C 9) q w hC.1 hq9 hw9) [0, 1, 2, 3, 20, 21, 22, 23, 24, 25, 26, 27, 28] [true, true, true, true, false, false, false, false, false, false, false, false, false, false, false, false, false, false, false, false, true, true, true, true, true, true, true, true, true] rfl (Nat.le_of_ble_eq_true rfl) (by decide) rfl (fun _ => rfl) (fun u => ((upN (upN (upN I 5 ((C 0) (49 + 0))) 6 (laC (C 0))) 7 (gaC (C 0))), (upN (upN (upN (upN C 6 (u.1)) 7 (u.2.1)) 8 (u.2.2.1)) 9 (u.2.2.2)), pgR (C 0) q w, ((C 0), (I 1), (C 4), (I 2)))) (fun u hu => ⟨⟨⟨⟨rfl, rfl⟩, rfl, rfl⟩, hC, hH, hT⟩, ⟨rfl, rfl⟩⟩) (fun _ _ => rfl) (fun _ _ => rfl)
set_option maxHeartbeats 2000000 in
theorem oc_gathering (l : Launch) (D : va_G) (cyI : ClassId) (A : Nat → Nat) {c : Int → Int} {ny : Int} {x : Int → Int} {n : Int} {j w : Int} (hj9 : -2147483648 ≤ j ∧ j ≤ 2147483647) (hw9 : -2147483648 ≤ w ∧ w ≤ 2147483647) : OC l yX7_gathering wsX7_gathering ({ frames := 5, cells := 0, slots := 0, locals := 107 } : Room) D cyI A [.int (iI (j)), .int (iI (w))] (c, ny, x, n) (fun z r => z = gaR c j w ∧ r = (c, ny, x, n)) := by
  intro I C h
  obtain ⟨⟨⟨e0, e1⟩, e2, e3⟩, hC, hH, hT⟩ := h
  dsimp only at e0 e1 e2 e3 hC hH hT
  subst e0 e1 e2 e3
  refine fq_MW (c_X7_gathering l D cyI (A 0) (A 1) (A 4) (A 7) (I 0) (A 10) (A 17) (A 13) (A 20) (A 29) (A 2) (A 3) (C 0) (A 21) (A 23) (A 25) (A 27) (I 5) (I 6) (I 7) (A 22) (C 6) (A 24) (C 7) (A 26) (C 8) (A 28) (C 9) j w hC.1 hj9 hw9) [0, 1, 2, 3, 20, 21, 22, 23, 24, 25, 26, 27, 28] [true, true, true, true, false, false, false, false, false, false, false, false, false, false, false, false, false, false, false, false, true, true, true, true, true, true, true, true, true] rfl (Nat.le_of_ble_eq_true rfl) (by decide) rfl (fun _ => rfl) (fun u => ((upN (upN (upN I 5 ((C 0) (49 + 0))) 6 (laC (C 0))) 7 (gaC (C 0))), (upN (upN (upN (upN C 6 (u.1)) 7 (u.2.1)) 8 (u.2.2.1)) 9 (u.2.2.2)), gaR (C 0) j w, ((C 0), (I 1), (C 4), (I 2)))) (fun u hu => ⟨⟨⟨⟨rfl, rfl⟩, rfl, rfl⟩, hC, hH, hT⟩, ⟨rfl, rfl⟩⟩) (fun _ _ => rfl) (fun _ _ => rfl)
set_option maxHeartbeats 2000000 in
theorem oc_ifChosen (l : Launch) (D : va_G) (cyI : ClassId) (A : Nat → Nat) {c : Int → Int} {ny : Int} {x : Int → Int} {n : Int} {k b q : Int} (hb9 : b = 0 ∨ b = 1) (hk9 : -2147483648 ≤ k ∧ k ≤ 2147483647) (hq9 : -2147483648 ≤ q ∧ q ≤ 2147483647) : OC l yX7_ifChosen wsX7_ifChosen ({ frames := 5, cells := 0, slots := 0, locals := 111 } : Room) D cyI A [.int (iI (k)), .int (iI (b)), .int (iI (q))] (c, ny, x, n) (fun z r => z = (if ¬ (0 ≤ k ∧ k < c 0) then -1 else if ¬ (0 ≤ q ∧ q ≤ mostC c k) then -2 else csC (choL c k b q)) ∧ r = (c, ny, x, n)) := by
  intro I C h
  obtain ⟨⟨⟨e0, e1⟩, e2, e3⟩, hC, hH, hT⟩ := h
  dsimp only at e0 e1 e2 e3 hC hH hT
  subst e0 e1 e2 e3
  refine fq_MW (c_X7_ifChosen l D cyI (A 0) (A 1) (A 4) (A 7) (I 0) (A 10) (A 17) (A 13) (A 20) (A 29) (A 2) (A 3) (C 0) (A 5) (A 6) (C 1) (A 21) (A 23) (A 25) (A 27) (I 5) (I 6) (I 7) (A 22) (C 6) (A 24) (C 7) (A 26) (C 8) (A 28) (C 9) k b q hC.1 hb9 hk9 hq9) [0, 1, 2, 3, 4, 5, 6, 20, 21, 22, 23, 24, 25, 26, 27, 28] [true, true, true, true, true, true, true, false, false, false, false, false, false, false, false, false, false, false, false, false, true, true, true, true, true, true, true, true, true] rfl (Nat.le_of_ble_eq_true rfl) (by decide) rfl (fun _ => rfl) (fun u => ((upN (upN (upN I 5 (u.2.2.2.2.2.1)) 6 (u.2.2.2.2.2.2.1)) 7 (u.2.2.2.2.2.2.2)), (upN (upN (upN (upN (upN C 1 (u.1)) 6 (u.2.1)) 7 (u.2.2.1)) 8 (u.2.2.2.1)) 9 (u.2.2.2.2.1)), (if ¬ (0 ≤ k ∧ k < (C 0) 0) then -1 else if ¬ (0 ≤ q ∧ q ≤ mostC (C 0) k) then -2 else csC (choL (C 0) k b q)), ((C 0), (I 1), (C 4), (I 2)))) (fun u hu => ⟨⟨⟨⟨rfl, rfl⟩, rfl, rfl⟩, hC, hH, hT⟩, ⟨rfl, rfl⟩⟩) (fun _ _ => rfl) (fun _ _ => rfl)
set_option maxHeartbeats 2000000 in
theorem oc_cheapest (l : Launch) (D : va_G) (cyI : ClassId) (A : Nat → Nat) {c : Int → Int} {ny : Int} {x : Int → Int} {n : Int} {k w : Int} (hk : 0 ≤ k ∧ k < c 0) (hw : 0 ≤ w ∧ w ≤ 1) : OC l yX7_cheapest wsX7_cheapest ({ frames := 6, cells := 0, slots := 0, locals := 150 } : Room) D cyI A [.int (iI (k)), .int (iI (w))] (c, ny, x, n) (fun z r => ∃ g : Int → Int, (Agr g c ∧ CatOK g ∧ Opt c g (c (49 + 0)) (c 0)) ∧ z = (if w = 0 then g (k * 4 + 3) else if c (k * 4 + 2) = 0 then -5 else g (k * 4 + 4)) ∧ r = (c, ny, x, n)) := by
  intro I C h
  obtain ⟨⟨⟨e0, e1⟩, e2, e3⟩, hC, hH, hT⟩ := h
  dsimp only at e0 e1 e2 e3 hC hH hT
  subst e0 e1 e2 e3
  refine fq_MW (c_X7_cheapest l D cyI (A 0) (A 1) (A 4) (A 7) (I 0) (A 10) (A 17) (A 13) (A 20) (A 29) (A 2) (A 3) (C 0) (A 34) (A 30) (A 32) (I 8) (A 31) (C 10) (A 33) (C 11) (A 35) (A 36) (C 12) k w hC.1 (by have := hC.1.1; omega) (by omega)) [0, 1, 2, 3, 29, 30, 31, 32, 33, 34, 35, 36] [true, true, true, true, false, false, false, false, false, false, false, false, false, false, false, false, false, false, false, false, false, false, false, false, false, false, false, false, false, true, true, true, true, true, true, true, true] rfl (Nat.le_of_ble_eq_true rfl) (by decide) rfl (fun _ => rfl) (fun u => ((upN I 8 (u.2.2.2)), (upN (upN (upN C 10 (u.1)) 11 (u.2.1)) 12 (u.2.2.1)), (if ¬ (0 ≤ k ∧ k < (C 0) 0) then -1 else if ¬ (0 ≤ w ∧ w ≤ 1) then -2 else if w = 0 then u.2.2.1 (k * 4 + 3) else if (C 0) (k * 4 + 2) = 0 then -5 else u.2.2.1 (k * 4 + 4)), ((C 0), (I 1), (C 4), (I 2)))) (fun u hu => ⟨⟨⟨⟨rfl, rfl⟩, rfl, rfl⟩, hC, hH, hT⟩, ⟨_, hu ⟨hk, hw⟩, by dsimp only; rw [if_neg (fun z => z hk), if_neg (fun z => z hw)], rfl⟩⟩) (fun _ _ => rfl) (fun _ _ => rfl)
theorem lcB {c g : Int → Int} (hC : CatOK c) {sz : Int} (hz : sz = 4 ∨ sz = 8 ∨ sz = 16) (hA : Agr g (upI c (49 + 0) sz)) (hCg : CatOK g) (hO : Opt (upI c (49 + 0) sz) g sz (c 0)) : csC g = bsI (upI c (49 + 0) sz) sz (c 0).toNat 0 0 0 := by
  have e : upI c (49 + 0) sz 0 = c 0 := upI_n (by omega)
  have h := cs_bs (Cat_sz hC hz) hA hCg (upI_s rfl) hz (by rw [e]; exact hO)
  rw [e] at h
  exact h
theorem ldK {x rc : Int → Int} {n : Int} (hF : flF x n 61 0 = -1) (hK : flK x n 61 0 0 ≤ 12) : ldR x n rc = flC x n 61 0 (upI rc 0 0) 0 := by
  unfold ldR
  rw [if_neg (fun z => z hF), if_neg (by omega)]
set_option maxHeartbeats 2000000 in
theorem oc_leastCost (l : Launch) (D : va_G) (cyI : ClassId) (A : Nat → Nat) {c : Int → Int} {ny : Int} {x : Int → Int} {n : Int} {sz : Int} (hz : sz = 4 ∨ sz = 8 ∨ sz = 16) : OC l yX7_leastCost wsX7_leastCost ({ frames := 6, cells := 0, slots := 0, locals := 150 } : Room) D cyI A [.int (iI (sz))] (c, ny, x, n) (fun z r => z = bsI (upI c (49 + 0) sz) sz (c 0).toNat 0 0 0 ∧ r = (c, ny, x, n)) := by
  intro I C h
  obtain ⟨⟨⟨e0, e1⟩, e2, e3⟩, hC, hH, hT⟩ := h
  dsimp only at e0 e1 e2 e3 hC hH hT
  subst e0 e1 e2 e3
  refine fq_MW (c_X7_leastCost l D cyI (A 0) (A 1) (A 4) (A 7) (I 0) (A 10) (A 17) (A 13) (A 20) (A 29) (A 2) (A 3) (C 0) (A 21) (A 23) (A 25) (A 27) (I 5) (I 6) (I 7) (A 22) (C 6) (A 24) (C 7) (A 26) (C 8) (A 28) (C 9) (A 34) (A 30) (A 32) (I 8) (A 31) (C 10) (A 33) (C 11) (A 35) (A 36) (C 12) sz hC.1 (by omega)) [0, 1, 2, 3, 20, 21, 22, 23, 24, 25, 26, 27, 28, 29, 30, 31, 32, 33, 34, 35, 36] [true, true, true, true, false, false, false, false, false, false, false, false, false, false, false, false, false, false, false, false, true, true, true, true, true, true, true, true, true, true, true, true, true, true, true, true, true] rfl (Nat.le_of_ble_eq_true rfl) (by decide) rfl (fun _ => rfl) (fun u => ((upN (upN (upN (upN I 5 (u.2.2.2.2.2.2.2.1)) 6 (u.2.2.2.2.2.2.2.2.1)) 7 (u.2.2.2.2.2.2.2.2.2.1)) 8 (u.2.2.2.2.2.2.2.2.2.2)), (upN (upN (upN (upN (upN (upN (upN C 6 (u.2.2.2.1)) 7 (u.2.2.2.2.1)) 8 (u.2.2.2.2.2.1)) 9 (u.2.2.2.2.2.2.1)) 10 (u.1)) 11 (u.2.1)) 12 (u.2.2.1)), (if ¬ (sz = 4 ∨ sz = 8 ∨ sz = 16) then -2 else csC u.2.2.1), ((C 0), (I 1), (C 4), (I 2)))) (fun u hu => ⟨⟨⟨⟨rfl, rfl⟩, rfl, rfl⟩, hC, hH, hT⟩, ⟨by dsimp only; rw [if_neg (fun z => z hz)]; exact lcB hC.1 hz (hu hz).1 (hu hz).2.1 (hu hz).2.2, rfl⟩⟩) (fun _ _ => rfl) (fun _ _ => rfl)
set_option maxHeartbeats 2000000 in
theorem oc_plan (l : Launch) (D : va_G) (cyI : ClassId) (A : Nat → Nat) {c : Int → Int} {ny : Int} {x : Int → Int} {n : Int}  : OC l yX7_plan wsX7_plan ({ frames := 6, cells := 0, slots := 0, locals := 150 } : Room) D cyI A [] (c, ny, x, n) (fun z r => ∃ g : Int → Int, (Agr g c ∧ CatOK g ∧ Opt c g (c (49 + 0)) (c 0)) ∧ z = plR c g ∧ r = (if 0 ≤ plR c g then cpI c g 0 0 49 else c, if 0 ≤ plR c g then recN ny else ny, x, n)) := by
  intro I C h
  obtain ⟨⟨⟨e0, e1⟩, e2, e3⟩, hC, hH, hT⟩ := h
  dsimp only at e0 e1 e2 e3 hC hH hT
  subst e0 e1 e2 e3
  refine fq_MW (c_X7_plan l D cyI (A 0) (A 1) (A 4) (A 7) (I 0) (A 10) (A 17) (A 13) (A 20) (A 29) (A 2) (A 3) (C 0) (A 11) (A 12) (C 3) (I 1) (A 21) (A 23) (A 25) (A 27) (I 5) (I 6) (I 7) (A 22) (C 6) (A 24) (C 7) (A 26) (C 8) (A 28) (C 9) (A 34) (A 30) (A 32) (I 8) (A 31) (C 10) (A 33) (C 11) (A 35) (A 36) (C 12) hC.1 hH.2) [0, 1, 2, 3, 10, 11, 12, 20, 21, 22, 23, 24, 25, 26, 27, 28, 29, 30, 31, 32, 33, 34, 35, 36] [true, true, true, true, false, false, false, false, false, false, true, true, true, false, false, false, false, false, false, false, true, true, true, true, true, true, true, true, true, true, true, true, true, true, true, true, true] rfl (Nat.le_of_ble_eq_true rfl) (by decide) rfl (fun _ => rfl) (fun u => ((upN (upN (upN (upN (upN I 1 (if 0 ≤ plR (C 0) u.2.2.1 then recN (I 1) else (I 1))) 5 (u.2.2.2.2.2.2.2.1)) 6 (u.2.2.2.2.2.2.2.2.1)) 7 (u.2.2.2.2.2.2.2.2.2)) 8 ((C 0) (49 + 0))), (upN (upN (upN (upN (upN (upN (upN (upN (upN C 0 (if 0 ≤ plR (C 0) u.2.2.1 then cpI (C 0) u.2.2.1 0 0 49 else (C 0))) 3 (if 0 ≤ plR (C 0) u.2.2.1 then recH (C 3) (C 0) (I 1) else (C 3))) 6 (u.2.2.2.1)) 7 (u.2.2.2.2.1)) 8 (u.2.2.2.2.2.1)) 9 (u.2.2.2.2.2.2.1)) 10 (u.1)) 11 (u.2.1)) 12 (u.2.2.1)), plR (C 0) u.2.2.1, ((if 0 ≤ plR (C 0) u.2.2.1 then cpI (C 0) u.2.2.1 0 0 49 else (C 0)), (if 0 ≤ plR (C 0) u.2.2.1 then recN (I 1) else (I 1)), (C 4), (I 2)))) (fun u hu => ⟨⟨⟨⟨rfl, rfl⟩, rfl, rfl⟩, (act_1 hH.1 hH.2 hC (fun _ => cpK hC hu.2.1 hu.1.1)).1, (act_1 (c' := C 0) hH.1 hH.2 hC (fun _ => hC)).2, hT⟩, ⟨_, hu, rfl, rfl⟩⟩) (fun _ _ => rfl) (fun _ _ => rfl)
set_option maxHeartbeats 2000000 in
theorem oc_undo (l : Launch) (D : va_G) (cyI : ClassId) (A : Nat → Nat) {c : Int → Int} {ny : Int} {x : Int → Int} {n : Int} (hn0 : ¬ ny = 0) : OC l yX7_undo wsX7_undo ({ frames := 4, cells := 0, slots := 0, locals := 90 } : Room) D cyI A [] (c, ny, x, n) (fun z r => z = ny - 1 ∧ ∃ c2 : Int → Int, (CatOK c2 ∧ c2 0 ≤ 9) ∧ r = (c2, ny - 1, x, n)) := by
  intro I C h
  obtain ⟨⟨⟨e0, e1⟩, e2, e3⟩, hC, hH, hT⟩ := h
  dsimp only at e0 e1 e2 e3 hC hH hT
  subst e0 e1 e2 e3
  have hu0 := hH.1 (I 1 - 1) (by omega) (by omega)
  refine fq_MW (c_X7_undo l D cyI (A 0) (A 1) (A 4) (A 7) (I 0) (A 10) (A 17) (A 13) (A 20) (A 29) (A 2) (A 3) (C 0) (A 11) (A 12) (C 3) (I 1) hH.2) [0, 1, 2, 3, 10, 11, 12] [true, true, true, true, false, false, false, false, false, false, true, true, true] rfl (Nat.le_of_ble_eq_true rfl) (by decide) rfl (fun _ => rfl) (fun u => ((upN I 1 (if (I 1) = 0 then (I 1) else (I 1) - 1)), (upN C 0 (if (I 1) = 0 then (C 0) else shfI (C 3) (((I 1) - 1) * 54))), (if (I 1) = 0 then -5 else (I 1) - 1), ((if (I 1) = 0 then (C 0) else shfI (C 3) (((I 1) - 1) * 54)), (if (I 1) = 0 then (I 1) else (I 1) - 1), (C 4), (I 2)))) (fun u hu => ⟨⟨⟨⟨rfl, rfl⟩, rfl, rfl⟩, (by dsimp only; rw [if_neg hn0]; exact hu0), (by dsimp only; rw [if_neg hn0]; exact ⟨fun i a b => hH.1 i a (by omega), by omega, by omega⟩), hT⟩, ⟨if_neg hn0, _, hu0, by dsimp only; rw [if_neg hn0, if_neg hn0]⟩⟩) (fun _ _ => rfl) (fun _ _ => rfl)
set_option maxHeartbeats 2000000 in
theorem oc_clearText (l : Launch) (D : va_G) (cyI : ClassId) (A : Nat → Nat) {c : Int → Int} {ny : Int} {x : Int → Int} {n : Int}  : OC l yX7_clearText wsX7_clearText ({ frames := 1, cells := 0, slots := 0, locals := 20 } : Room) D cyI A [] (c, ny, x, n) (fun z r => z = n ∧ r = (c, ny, x, 0)) := by
  intro I C h
  obtain ⟨⟨⟨e0, e1⟩, e2, e3⟩, hC, hH, hT⟩ := h
  dsimp only at e0 e1 e2 e3 hC hH hT
  subst e0 e1 e2 e3
  refine fq_MW (c_X7_clearText l D cyI (A 0) (A 1) (A 4) (A 7) (I 0) (A 10) (A 17) (A 13) (A 20) (A 29) (A 18) (I 2) ) [0, 17] [true, false, false, false, false, false, false, false, false, false, false, false, false, false, false, false, false, true] rfl (Nat.le_of_ble_eq_true rfl) (by decide) rfl (fun _ => rfl) (fun u => ((upN I 2 (0)), C, (I 2), ((C 0), (I 1), (C 4), 0))) (fun u hu => ⟨⟨⟨⟨rfl, rfl⟩, rfl, rfl⟩, hC, hH, ⟨hT.1, (by decide : (0 : Int) ≤ 0), (by decide : (0 : Int) ≤ 60)⟩⟩, ⟨rfl, rfl⟩⟩) (fun _ _ => rfl) (fun _ _ => rfl)
set_option maxHeartbeats 2000000 in
theorem oc_type (l : Launch) (D : va_G) (cyI : ClassId) (A : Nat → Nat) {c : Int → Int} {ny : Int} {x : Int → Int} {n : Int} {v : Int} (hn : n < 60) (hv : 0 ≤ v ∧ v ≤ 65535) : OC l yX7_type wsX7_type ({ frames := 2, cells := 0, slots := 0, locals := 43 } : Room) D cyI A [.int (iI (v))] (c, ny, x, n) (fun z r => z = n + 1 ∧ r = (c, ny, upI x n v, n + 1)) := by
  intro I C h
  obtain ⟨⟨⟨e0, e1⟩, e2, e3⟩, hC, hH, hT⟩ := h
  dsimp only at e0 e1 e2 e3 hC hH hT
  subst e0 e1 e2 e3
  refine fq_MW (c_X7_type l D cyI (A 0) (A 1) (A 4) (A 7) (I 0) (A 10) (A 17) (A 13) (A 20) (A 29) (A 18) (A 19) (C 4) (I 2) v hT.2) [0, 17, 18, 19] [true, false, false, false, false, false, false, false, false, false, false, false, false, false, false, false, false, true, true, true] rfl (Nat.le_of_ble_eq_true rfl) (by decide) rfl (fun _ => rfl) (fun u => ((upN I 2 (if 60 ≤ (I 2) then (I 2) else (I 2) + 1)), (upN C 4 (if 60 ≤ (I 2) then (C 4) else upI (C 4) (I 2) v)), (if 60 ≤ (I 2) then -3 else (I 2) + 1), ((C 0), (I 1), (if 60 ≤ (I 2) then (C 4) else upI (C 4) (I 2) v), (if 60 ≤ (I 2) then (I 2) else (I 2) + 1)))) (fun u hu => ⟨⟨⟨⟨rfl, rfl⟩, rfl, rfl⟩, hC, hH, (by dsimp only; rw [if_neg (by omega), if_neg (by omega)]; exact tyK hT hn hv)⟩, ⟨if_neg (by omega), by dsimp only; rw [if_neg (by omega), if_neg (by omega)]⟩⟩) (fun _ _ => rfl) (fun _ _ => rfl)
set_option maxHeartbeats 2000000 in
theorem oc_load (l : Launch) (D : va_G) (cyI : ClassId) (A : Nat → Nat) {c : Int → Int} {ny : Int} {x : Int → Int} {n : Int} (hF : flF x n 61 0 = -1) (hK : flK x n 61 0 0 ≤ 12) (h9 : ∀ rc : Int → Int, flC x n 61 0 (upI rc 0 0) 0 ≤ 9) : OC l yX7_load wsX7_load ({ frames := 6, cells := 0, slots := 0, locals := 142 } : Room) D cyI A [] (c, ny, x, n) (fun z r => ∃ rc : Int → Int, z = flC x n 61 0 (upI rc 0 0) 0 ∧ r = (cpI c (flC x n 61 0 (upI rc 0 0)) 0 0 49, recN ny, x, n)) := by
  intro I C h
  obtain ⟨⟨⟨e0, e1⟩, e2, e3⟩, hC, hH, hT⟩ := h
  dsimp only at e0 e1 e2 e3 hC hH hT
  subst e0 e1 e2 e3
  have hld := ldK (rc := C 5) hF hK
  have hfo := flC_ok (x := C 4) (n := I 2) 61 0 _ (Lots_0 (C 5))
  have hpos : 0 ≤ ldR (C 4) (I 2) (C 5) := by rw [hld]; exact hfo.1.1
  have hact := act_1 (c' := cpI (C 0) (flC (C 4) (I 2) 61 0 (upI (C 5) 0 0)) 0 0 49) (r := ldR (C 4) (I 2) (C 5)) hH.1 hH.2 hC (fun _ => ⟨Cat_cp hC.1 hfo.1 hfo.2, by rw [cp_lo (by omega)]; exact h9 (C 5)⟩)
  refine fq_MW (c_X7_load l D cyI (A 0) (A 1) (A 4) (A 7) (I 0) (A 10) (A 17) (A 13) (A 20) (A 29) (A 2) (A 3) (C 0) (A 11) (A 12) (C 3) (I 1) (A 14) (A 15) (A 16) (I 3) (I 4) (C 5) (A 18) (A 19) (C 4) (I 2) hC.1 hH.2 hT.1 hT.2) [0, 1, 2, 3, 10, 11, 12, 13, 14, 15, 16, 17, 18, 19] [true, true, true, true, false, false, false, false, false, false, true, true, true, true, true, true, true, true, true, true] rfl (Nat.le_of_ble_eq_true rfl) (by decide) rfl (fun _ => rfl) (fun u => ((upN (upN (upN I 1 (if 0 ≤ ldR (C 4) (I 2) (C 5) then recN (I 1) else (I 1))) 3 (u)) 4 (flK (C 4) (I 2) 61 0 0)), (upN (upN (upN C 0 (if 0 ≤ ldR (C 4) (I 2) (C 5) then cpI (C 0) (flC (C 4) (I 2) 61 0 (upI (C 5) 0 0)) 0 0 49 else (C 0))) 3 (if 0 ≤ ldR (C 4) (I 2) (C 5) then recH (C 3) (C 0) (I 1) else (C 3))) 5 (flC (C 4) (I 2) 61 0 (upI (C 5) 0 0))), ldR (C 4) (I 2) (C 5), ((if 0 ≤ ldR (C 4) (I 2) (C 5) then cpI (C 0) (flC (C 4) (I 2) 61 0 (upI (C 5) 0 0)) 0 0 49 else (C 0)), (if 0 ≤ ldR (C 4) (I 2) (C 5) then recN (I 1) else (I 1)), (C 4), (I 2)))) (fun u hu => ⟨⟨⟨⟨rfl, rfl⟩, rfl, rfl⟩, hact.1, hact.2, hT⟩, ⟨_, hld, by dsimp only; rw [if_pos hpos, if_pos hpos]⟩⟩) (fun _ _ => rfl) (fun _ _ => rfl)
