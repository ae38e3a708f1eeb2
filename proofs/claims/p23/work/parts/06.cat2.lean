set_option maxHeartbeats 4000000 in
set_option maxRecDepth 100000 in
theorem c_X5_copy (l : Launch) (D : va_G) (cyI : ClassId) (h : Nat) (a : Nat) (N : Nat) (c : Int → Int) (h2 : Nat) (a2 : Nat) (N2 : Nat) (d : Int → Int) (to : Int) (fr : Int) (len : Int) (hto : 0 ≤ to ∧ 0 ≤ len ∧ to + len ≤ N) (hfr : 0 ≤ fr ∧ fr + len ≤ N2) (hn : N ≤ 2147483647 ∧ N2 ≤ 2147483647) : fp_MW l yX5_copy wsX5_copy ({ frames := 1, cells := 0, slots := 0, locals := 22 } : Room) D cyI [(h, .inr (5, [.ref a])), (a, fA cyI N c), (h2, .inr (5, [.ref a2])), (a2, fA cyI N2 d)] [.ref h, .int (iI (to)), .ref h2, .int (iI (fr)), .int (iI (len))] (fun (u9 : Unit) => True) (fun (u9 : Unit) => none) (fun (u9 : Unit) => [(h, .inr (5, [.ref a])), (a, fA cyI N (cpI c d to fr len)), (h2, .inr (5, [.ref a2])), (a2, fA cyI N2 d)]) := by
  refine fp_start (cc := cX5_copy) (maxL := 6) (ret := none) (by decide) rfl (Nat.le_of_ble_eq_true rfl) ?_
  intro pg en sx mi ar bl mt cd ls hx hb hr hts hown hlocks hml hnm hP hK hD hl
  have hown : sx.vm.findClass RX5 = some mi.cls := hown
  have hl : lv_has ls 6 [(0, .ref h), (1, .int (iI (to))), (2, .ref h2), (3, .int (iI (fr))), (4, .int (iI (len)))] := hl
  have hD := fp_self hD
  have hS : va_S (fp_A [(h, .inr (5, [.ref a])), (a, fA cyI N c), (h2, .inr (5, [.ref a2])), (a2, fA cyI N2 d)]) sx.heap sx.heap [] := va_S.rf
  refine fp_iconst hx hb dX5_copy_0 ?_
  refine lv_istore (lv' := [(5, .int (iI (0))), (0, .ref h), (1, .int (iI (to))), (2, .ref h2), (3, .int (iI (fr))), (4, .int (iI (len)))]) hx hb dX5_copy_1 hl (by decide) rfl (fun ls hl => ?_)
  have hl := lv_sub hl (l' := [(0, .ref h), (1, .int (iI (to))), (2, .ref h2), (3, .int (iI (fr))), (4, .int (iI (len))), (5, .int (iI (0)))]) [1, 2, 3, 4, 5, 0] rfl
  have lp0 : ∀ (nf : Nat) (i : Int) (f : Int → Int), (0 ≤ i ∧ i ≤ len) → (f = cpI c d to fr i) → (len + 1 ≤ i + (nf : Int)) → ∀ (H : Heap) (locs : List Loc), va_P D vwCl [(h, .inr (5, [.ref a])), (a, fA cyI N f), (h2, .inr (5, [.ref a2])), (a2, fA cyI N2 d)] H → va_D (fp_A [(h, .inr (5, [.ref a])), (a, fA cyI N c), (h2, .inr (5, [.ref a2])), (a2, fA cyI N2 d)]) [(h, .inr (5, [.ref a])), (a, fA cyI N f), (h2, .inr (5, [.ref a2])), (a2, fA cyI N2 d)] → va_S (fp_A [(h, .inr (5, [.ref a])), (a, fA cyI N c), (h2, .inr (5, [.ref a2])), (a2, fA cyI N2 d)]) sx.heap H locs → ∀ (ls : Array Slot), lv_has ls 6 [(0, .ref h), (1, .int (iI (to))), (2, .ref h2), (3, .int (iI (fr))), (4, .int (iI (len))), (5, .int (iI (i)))] → W pg l en ({ frames := 1, cells := 0, slots := 0, locals := 22 } : Room) sx mi ar bl mt cd H locs 0 0 (MQ bl (fp_Qw D [(h, .inr (5, [.ref a])), (a, fA cyI N c), (h2, .inr (5, [.ref a2])), (a2, fA cyI N2 d)] (fun (u9 : Unit) => True) (fun (u9 : Unit) => none) (fun (u9 : Unit) => [(h, .inr (5, [.ref a])), (a, fA cyI N (cpI c d to fr len)), (h2, .inr (5, [.ref a2])), (a2, fA cyI N2 d)])) ar sx 0 0 (fp_A [(h, .inr (5, [.ref a])), (a, fA cyI N c), (h2, .inr (5, [.ref a2])), (a2, fA cyI N2 d)])) (F0 mi 3 ls []) := by
    intro nf
    induction nf with
    | zero =>
      intro i f ik jf hfuel
      exact absurd hfuel (by omega)
    | succ nf ih0 =>
      intro i f ik jf hfuel H locs hP hD hS ls hl
      refine lv_iload hx hb dX5_copy_3 (lv_at hl 5 rfl) ?_
      refine lv_iload hx hb dX5_copy_5 (lv_at hl 4 rfl) ?_
      refine fp_icmp_ge (tgt := 32) hx hb (by omega) dX5_copy_7 (by decide) (fun q7 => ?_) (fun q7 => ?_)
      · skip
        have hP : va_P D vwCl [(h, .inr (5, [.ref a])), (a, fA cyI N (cpI c d to fr len)), (h2, .inr (5, [.ref a2])), (a2, fA cyI N2 d)] H := by
          rw [(show (f : Int → Int) = cpI c d to fr len from (by rw [jf]; congr 1; omega)).symm]
          exact hP
        exact fp_wvret () hx hb hr hlocks hS hP trivial rfl dX5_copy_32
      · skip
        refine lv_aload_n hx hb dX5_copy_10 rfl (lv_at hl 0 rfl) ?_
        refine lv_iload_n hx hb dX5_copy_11 rfl (lv_at hl 1 rfl) ?_
        refine lv_iload hx hb dX5_copy_12 (lv_at hl 5 rfl) ?_
        refine fp_iadd hx hb dX5_copy_14 ?_
        refine lv_aload_n hx hb dX5_copy_15 rfl (lv_at hl 2 rfl) ?_
        refine lv_iload_n hx hb dX5_copy_16 rfl (lv_at hl 3 rfl) ?_
        refine lv_iload hx hb dX5_copy_17 (lv_at hl 5 rfl) ?_
        refine fp_iadd hx hb dX5_copy_19 ?_
        refine fp_pV (As := [.int (iI (fr + i))]) (rest := [.int (iI (to + i)), .ref h]) (wsC := [(h, .inr (5, [.ref a])), (a, fA cyI N f), (h2, .inr (5, [.ref a2])), (a2, fA cyI N2 d)]) ⟨hx, hb, hml, hown, hts⟩ (c_X5_at l D cyI h2 a2 N2 d (fr + i) (by omega) (by omega)) (cwV 1 hts gX5_copy_X5_at rfl rfl rfl (by decide +kernel) ⟨Nat.le_of_ble_eq_true rfl, Nat.le_of_ble_eq_true rfl⟩) hK hP hD [2, 3] (by decide) rfl rfl rfl rfl hl.1 rfl (Nat.le_of_ble_eq_true rfl) dX5_copy_20 ⟨Nat.zero_le _, Nat.zero_le _⟩ ?_
        refine fp_wV (As := [.int (iI (to + i)), .int (iI (d (fr + i)))]) (rest := []) (wsC := [(h, .inr (5, [.ref a])), (a, fA cyI N f), (h2, .inr (5, [.ref a2])), (a2, fA cyI N2 d)]) ⟨hx, hb, hml, hown, hts⟩ (c_X5_put l D cyI h a N f (to + i) (d (fr + i)) (by omega) (by omega)) (cwV 2 hts gX5_copy_X5_put rfl rfl rfl (by decide +kernel) ⟨Nat.le_of_ble_eq_true rfl, Nat.le_of_ble_eq_true rfl⟩) (fun _ => rfl) hK hP hD hS [0, 1] (by decide) rfl rfl rfl rfl hl.1 rfl (Nat.le_of_ble_eq_true rfl) dX5_copy_23 ⟨Nat.zero_le _, Nat.zero_le _⟩ (fun u9v H locs hu hP hD hS => ?_)
        refine W.eq (g2 := F0 mi 26 ls []) rfl ?_
        have hP : va_P D vwCl [(h, .inr (5, [.ref a])), (a, fA cyI N (upI f (to + i) (d (fr + i)))), (h2, .inr (5, [.ref a2])), (a2, fA cyI N2 d)] H := hP
        have hD : va_D (fp_A [(h, .inr (5, [.ref a])), (a, fA cyI N c), (h2, .inr (5, [.ref a2])), (a2, fA cyI N2 d)]) [(h, .inr (5, [.ref a])), (a, fA cyI N (upI f (to + i) (d (fr + i)))), (h2, .inr (5, [.ref a2])), (a2, fA cyI N2 d)] := hD
        refine fp_iinc (k := 5) (lv' := [(5, .int (iI (i + 1))), (0, .ref h), (1, .int (iI (to))), (2, .ref h2), (3, .int (iI (fr))), (4, .int (iI (len)))]) hx hb dX5_copy_26 hl rfl (by decide) rfl (fun ls hl => ?_)
        refine lv_goto (tgt := 3) hx hb dX5_copy_29 (by decide) ?_
        exact ih0 (i + 1) (upI f (to + i) (d (fr + i))) (by omega) (by rw [jf, cpI_s _ _ _ _ _ ik.1]) (by omega) H locs hP hD hS ls (lv_sub hl [1, 2, 3, 4, 5, 0] rfl)
  exact lp0 (((len : Int) + 1 - (0)).toNat) 0 c (by omega) (cpI_0 _ _ _ _).symm (by omega) sx.heap [] hP hD hS ls hl
set_option maxHeartbeats 4000000 in
set_option maxRecDepth 100000 in
theorem c_X5_copyS (l : Launch) (D : va_G) (cyI : ClassId) (h : Nat) (a : Nat) (N : Nat) (c : Int → Int) (to : Int) (fr : Int) (len : Int) (hto : 0 ≤ to ∧ 0 ≤ len ∧ to + len ≤ N) (hfr : to ≤ fr ∧ fr + len ≤ N) (hn : N ≤ 2147483647) : fp_MW l yX5_copy wsX5_copy ({ frames := 1, cells := 0, slots := 0, locals := 22 } : Room) D cyI [(h, .inr (5, [.ref a])), (a, fA cyI N c)] [.ref h, .int (iI (to)), .ref h, .int (iI (fr)), .int (iI (len))] (fun (u9 : Unit) => True) (fun (u9 : Unit) => none) (fun (u9 : Unit) => [(h, .inr (5, [.ref a])), (a, fA cyI N (cpI c c to fr len))]) := by
  refine fp_start (cc := cX5_copy) (maxL := 6) (ret := none) (by decide) rfl (Nat.le_of_ble_eq_true rfl) ?_
  intro pg en sx mi ar bl mt cd ls hx hb hr hts hown hlocks hml hnm hP hK hD hl
  have hown : sx.vm.findClass RX5 = some mi.cls := hown
  have hl : lv_has ls 6 [(0, .ref h), (1, .int (iI (to))), (2, .ref h), (3, .int (iI (fr))), (4, .int (iI (len)))] := hl
  have hD := fp_self hD
  have hS : va_S (fp_A [(h, .inr (5, [.ref a])), (a, fA cyI N c)]) sx.heap sx.heap [] := va_S.rf
  refine fp_iconst hx hb dX5_copy_0 ?_
  refine lv_istore (lv' := [(5, .int (iI (0))), (0, .ref h), (1, .int (iI (to))), (2, .ref h), (3, .int (iI (fr))), (4, .int (iI (len)))]) hx hb dX5_copy_1 hl (by decide) rfl (fun ls hl => ?_)
  have hl := lv_sub hl (l' := [(0, .ref h), (1, .int (iI (to))), (2, .ref h), (3, .int (iI (fr))), (4, .int (iI (len))), (5, .int (iI (0)))]) [1, 2, 3, 4, 5, 0] rfl
  have lp0 : ∀ (nf : Nat) (i : Int) (f : Int → Int), (0 ≤ i ∧ i ≤ len) → (f = cpI c c to fr i) → (len + 1 ≤ i + (nf : Int)) → ∀ (H : Heap) (locs : List Loc), va_P D vwCl [(h, .inr (5, [.ref a])), (a, fA cyI N f)] H → va_D (fp_A [(h, .inr (5, [.ref a])), (a, fA cyI N c)]) [(h, .inr (5, [.ref a])), (a, fA cyI N f)] → va_S (fp_A [(h, .inr (5, [.ref a])), (a, fA cyI N c)]) sx.heap H locs → ∀ (ls : Array Slot), lv_has ls 6 [(0, .ref h), (1, .int (iI (to))), (2, .ref h), (3, .int (iI (fr))), (4, .int (iI (len))), (5, .int (iI (i)))] → W pg l en ({ frames := 1, cells := 0, slots := 0, locals := 22 } : Room) sx mi ar bl mt cd H locs 0 0 (MQ bl (fp_Qw D [(h, .inr (5, [.ref a])), (a, fA cyI N c)] (fun (u9 : Unit) => True) (fun (u9 : Unit) => none) (fun (u9 : Unit) => [(h, .inr (5, [.ref a])), (a, fA cyI N (cpI c c to fr len))])) ar sx 0 0 (fp_A [(h, .inr (5, [.ref a])), (a, fA cyI N c)])) (F0 mi 3 ls []) := by
    intro nf
    induction nf with
    | zero =>
      intro i f ik jf hfuel
      exact absurd hfuel (by omega)
    | succ nf ih0 =>
      intro i f ik jf hfuel H locs hP hD hS ls hl
      refine lv_iload hx hb dX5_copy_3 (lv_at hl 5 rfl) ?_
      refine lv_iload hx hb dX5_copy_5 (lv_at hl 4 rfl) ?_
      refine fp_icmp_ge (tgt := 32) hx hb (by omega) dX5_copy_7 (by decide) (fun q7 => ?_) (fun q7 => ?_)
      · skip
        have hP : va_P D vwCl [(h, .inr (5, [.ref a])), (a, fA cyI N (cpI c c to fr len))] H := by
          rw [(show (f : Int → Int) = cpI c c to fr len from (by rw [jf]; congr 1; omega)).symm]
          exact hP
        exact fp_wvret () hx hb hr hlocks hS hP trivial rfl dX5_copy_32
      · skip
        refine lv_aload_n hx hb dX5_copy_10 rfl (lv_at hl 0 rfl) ?_
        refine lv_iload_n hx hb dX5_copy_11 rfl (lv_at hl 1 rfl) ?_
        refine lv_iload hx hb dX5_copy_12 (lv_at hl 5 rfl) ?_
        refine fp_iadd hx hb dX5_copy_14 ?_
        refine lv_aload_n hx hb dX5_copy_15 rfl (lv_at hl 2 rfl) ?_
        refine lv_iload_n hx hb dX5_copy_16 rfl (lv_at hl 3 rfl) ?_
        refine lv_iload hx hb dX5_copy_17 (lv_at hl 5 rfl) ?_
        refine fp_iadd hx hb dX5_copy_19 ?_
        refine fp_pV (As := [.int (iI (fr + i))]) (rest := [.int (iI (to + i)), .ref h]) (wsC := [(h, .inr (5, [.ref a])), (a, fA cyI N f)]) ⟨hx, hb, hml, hown, hts⟩ (c_X5_at l D cyI h a N f (fr + i) (by omega) (by omega)) (cwV 1 hts gX5_copy_X5_at rfl rfl rfl (by decide +kernel) ⟨Nat.le_of_ble_eq_true rfl, Nat.le_of_ble_eq_true rfl⟩) hK hP hD [0, 1] (by decide) rfl rfl rfl rfl hl.1 rfl (Nat.le_of_ble_eq_true rfl) dX5_copy_20 ⟨Nat.zero_le _, Nat.zero_le _⟩ ?_
        refine fp_wV (As := [.int (iI (to + i)), .int (iI (f (fr + i)))]) (rest := []) (wsC := [(h, .inr (5, [.ref a])), (a, fA cyI N f)]) ⟨hx, hb, hml, hown, hts⟩ (c_X5_put l D cyI h a N f (to + i) (f (fr + i)) (by omega) (by omega)) (cwV 2 hts gX5_copy_X5_put rfl rfl rfl (by decide +kernel) ⟨Nat.le_of_ble_eq_true rfl, Nat.le_of_ble_eq_true rfl⟩) (fun _ => rfl) hK hP hD hS [0, 1] (by decide) rfl rfl rfl rfl hl.1 rfl (Nat.le_of_ble_eq_true rfl) dX5_copy_23 ⟨Nat.zero_le _, Nat.zero_le _⟩ (fun u9v H locs hu hP hD hS => ?_)
        refine W.eq (g2 := F0 mi 26 ls []) rfl ?_
        have hP : va_P D vwCl [(h, .inr (5, [.ref a])), (a, fA cyI N (upI f (to + i) (f (fr + i))))] H := hP
        have hD : va_D (fp_A [(h, .inr (5, [.ref a])), (a, fA cyI N c)]) [(h, .inr (5, [.ref a])), (a, fA cyI N (upI f (to + i) (f (fr + i))))] := hD
        refine fp_iinc (k := 5) (lv' := [(5, .int (iI (i + 1))), (0, .ref h), (1, .int (iI (to))), (2, .ref h), (3, .int (iI (fr))), (4, .int (iI (len)))]) hx hb dX5_copy_26 hl rfl (by decide) rfl (fun ls hl => ?_)
        refine lv_goto (tgt := 3) hx hb dX5_copy_29 (by decide) ?_
        exact ih0 (i + 1) (upI f (to + i) (f (fr + i))) (by omega) (by rw [jf, cpI_out (by omega), cpI_s _ _ _ _ _ ik.1]) (by omega) H locs hP hD hS ls (lv_sub hl [1, 2, 3, 4, 5, 0] rfl)
  exact lp0 (((len : Int) + 1 - (0)).toNat) 0 c (by omega) (cpI_0 _ _ _ _).symm (by omega) sx.heap [] hP hD hS ls hl
theorem fl_X0_takeLots_16 : Cond.fieldLink RX0 16 "FacingPlates$Catalogue" "cells" "LFacingPlates$Row;" ∈ wsX0_takeLots := by decide +kernel
set_option maxHeartbeats 4000000 in
set_option maxRecDepth 100000 in
theorem c_X0_takeLots (l : Launch) (D : va_G) (cyI : ClassId) (h : Nat) (r : Nat) (a : Nat) (c : Int → Int) (h2 : Nat) (r2 : Nat) (a2 : Nat) (d : Int → Int) : fp_MW l yX0_takeLots wsX0_takeLots ({ frames := 2, cells := 0, slots := 0, locals := 47 } : Room) D cyI [(h, .inr (0, [.ref r])), (r, .inr (5, [.ref a])), (a, fA cyI 54 c), (h2, .inr (0, [.ref r2])), (r2, .inr (5, [.ref a2])), (a2, fA cyI 54 d)] [.ref h, .ref h2] (fun (u9 : Unit) => True) (fun (u9 : Unit) => none) (fun (u9 : Unit) => [(h, .inr (0, [.ref r])), (r, .inr (5, [.ref a])), (a, fA cyI 54 (cpI c d 0 0 49)), (h2, .inr (0, [.ref r2])), (r2, .inr (5, [.ref a2])), (a2, fA cyI 54 d)]) := by
  refine fp_start (cc := cX0_takeLots) (maxL := 2) (ret := none) (by decide) rfl (Nat.le_of_ble_eq_true rfl) ?_
  intro pg en sx mi ar bl mt cd ls hx hb hr hts hown hlocks hml hnm hP hK hD hl
  have hown : sx.vm.findClass RX0 = some mi.cls := hown
  have hl : lv_has ls 2 [(0, .ref h), (1, .ref h2)] := hl
  have hD := fp_self hD
  have hS : va_S (fp_A [(h, .inr (0, [.ref r])), (r, .inr (5, [.ref a])), (a, fA cyI 54 c), (h2, .inr (0, [.ref r2])), (r2, .inr (5, [.ref a2])), (a2, fA cyI 54 d)]) sx.heap sx.heap [] := va_S.rf
  refine lv_aload_n hx hb dX0_takeLots_0 rfl (lv_at hl 0 rfl) ?_
  refine va_get (D := D) (ci := 0) (ws := [(h, .inr (0, [.ref r])), (r, .inr (5, [.ref a])), (a, fA cyI 54 c), (h2, .inr (0, [.ref r2])), (r2, .inr (5, [.ref a2])), (a2, fA cyI 54 d)]) (v := .ref r) (C := RX0) (T := TX0) (N := 1) hx hb hts (fun _ h => List.mem_cons_of_mem _ (List.mem_append_left _ (List.mem_append_right _ h))) hown hK.1 hP 0 rfl rfl 0 (by decide) (hts _ fl_X0_takeLots_16) (fun _ h9 => h9) rfl dX0_takeLots_1 ?_
  refine fp_iconst hx hb dX0_takeLots_4 ?_
  refine lv_aload_n hx hb dX0_takeLots_5 rfl (lv_at hl 1 rfl) ?_
  refine va_get (D := D) (ci := 0) (ws := [(h, .inr (0, [.ref r])), (r, .inr (5, [.ref a])), (a, fA cyI 54 c), (h2, .inr (0, [.ref r2])), (r2, .inr (5, [.ref a2])), (a2, fA cyI 54 d)]) (v := .ref r2) (C := RX0) (T := TX0) (N := 1) hx hb hts (fun _ h => List.mem_cons_of_mem _ (List.mem_append_left _ (List.mem_append_right _ h))) hown hK.1 hP 3 rfl rfl 0 (by decide) (hts _ fl_X0_takeLots_16) (fun _ h9 => h9) rfl dX0_takeLots_6 ?_
  refine fp_iconst hx hb dX0_takeLots_9 ?_
  refine fp_bipush hx hb dX0_takeLots_10 (by decide) ?_
  refine fp_wV (As := [.int (iI (0)), .ref r2, .int (iI (0)), .int (iI (49))]) (rest := []) (wsC := [(h, .inr (0, [.ref r])), (r, .inr (5, [.ref a])), (a, fA cyI 54 c), (h2, .inr (0, [.ref r2])), (r2, .inr (5, [.ref a2])), (a2, fA cyI 54 d)]) ⟨hx, hb, hml, hown, hts⟩ (c_X5_copy l D cyI r a 54 c r2 a2 54 d 0 0 49 (by omega) (by omega) (by omega)) (cwV 4 hts gX0_takeLots_X5_copy rfl rfl rfl (by decide +kernel) ⟨Nat.le_of_ble_eq_true rfl, Nat.le_of_ble_eq_true rfl⟩) (fun _ => rfl) hK hP hD hS [1, 2, 4, 5] (by decide) rfl rfl rfl rfl hl.1 rfl (Nat.le_of_ble_eq_true rfl) dX0_takeLots_12 ⟨Nat.zero_le _, Nat.zero_le _⟩ (fun u9v H locs hu hP hD hS => ?_)
  refine W.eq (g2 := F0 mi 15 ls []) rfl ?_
  have hP : va_P D vwCl [(h, .inr (0, [.ref r])), (r, .inr (5, [.ref a])), (a, fA cyI 54 (cpI c d 0 0 49)), (h2, .inr (0, [.ref r2])), (r2, .inr (5, [.ref a2])), (a2, fA cyI 54 d)] H := hP
  have hD : va_D (fp_A [(h, .inr (0, [.ref r])), (r, .inr (5, [.ref a])), (a, fA cyI 54 c), (h2, .inr (0, [.ref r2])), (r2, .inr (5, [.ref a2])), (a2, fA cyI 54 d)]) [(h, .inr (0, [.ref r])), (r, .inr (5, [.ref a])), (a, fA cyI 54 (cpI c d 0 0 49)), (h2, .inr (0, [.ref r2])), (r2, .inr (5, [.ref a2])), (a2, fA cyI 54 d)] := hD
  exact fp_wvret () hx hb hr hlocks hS hP trivial rfl dX0_takeLots_15
theorem fl_X0_copy_16 : Cond.fieldLink RX0 16 "FacingPlates$Catalogue" "cells" "LFacingPlates$Row;" ∈ wsX0_copy := by decide +kernel
set_option maxHeartbeats 4000000 in
set_option maxRecDepth 100000 in
theorem c_X0_copy (l : Launch) (D : va_G) (cyI : ClassId) (h : Nat) (r : Nat) (a : Nat) (c : Int → Int) (h2 : Nat) (r2 : Nat) (a2 : Nat) (d : Int → Int) : fp_MW l yX0_copy wsX0_copy ({ frames := 2, cells := 0, slots := 0, locals := 47 } : Room) D cyI [(h, .inr (0, [.ref r])), (r, .inr (5, [.ref a])), (a, fA cyI 54 c), (h2, .inr (0, [.ref r2])), (r2, .inr (5, [.ref a2])), (a2, fA cyI 54 d)] [.ref h, .ref h2] (fun (u9 : Unit) => True) (fun (u9 : Unit) => none) (fun (u9 : Unit) => [(h, .inr (0, [.ref r])), (r, .inr (5, [.ref a])), (a, fA cyI 54 d), (h2, .inr (0, [.ref r2])), (r2, .inr (5, [.ref a2])), (a2, fA cyI 54 d)]) := by
  refine fp_start (cc := cX0_copy) (maxL := 2) (ret := none) (by decide) rfl (Nat.le_of_ble_eq_true rfl) ?_
  intro pg en sx mi ar bl mt cd ls hx hb hr hts hown hlocks hml hnm hP hK hD hl
  have hown : sx.vm.findClass RX0 = some mi.cls := hown
  have hl : lv_has ls 2 [(0, .ref h), (1, .ref h2)] := hl
  have hD := fp_self hD
  have hS : va_S (fp_A [(h, .inr (0, [.ref r])), (r, .inr (5, [.ref a])), (a, fA cyI 54 c), (h2, .inr (0, [.ref r2])), (r2, .inr (5, [.ref a2])), (a2, fA cyI 54 d)]) sx.heap sx.heap [] := va_S.rf
  refine lv_aload_n hx hb dX0_copy_0 rfl (lv_at hl 0 rfl) ?_
  refine va_get (D := D) (ci := 0) (ws := [(h, .inr (0, [.ref r])), (r, .inr (5, [.ref a])), (a, fA cyI 54 c), (h2, .inr (0, [.ref r2])), (r2, .inr (5, [.ref a2])), (a2, fA cyI 54 d)]) (v := .ref r) (C := RX0) (T := TX0) (N := 1) hx hb hts (fun _ h => List.mem_cons_of_mem _ (List.mem_append_left _ (List.mem_append_right _ h))) hown hK.1 hP 0 rfl rfl 0 (by decide) (hts _ fl_X0_copy_16) (fun _ h9 => h9) rfl dX0_copy_1 ?_
  refine fp_iconst hx hb dX0_copy_4 ?_
  refine lv_aload_n hx hb dX0_copy_5 rfl (lv_at hl 1 rfl) ?_
  refine va_get (D := D) (ci := 0) (ws := [(h, .inr (0, [.ref r])), (r, .inr (5, [.ref a])), (a, fA cyI 54 c), (h2, .inr (0, [.ref r2])), (r2, .inr (5, [.ref a2])), (a2, fA cyI 54 d)]) (v := .ref r2) (C := RX0) (T := TX0) (N := 1) hx hb hts (fun _ h => List.mem_cons_of_mem _ (List.mem_append_left _ (List.mem_append_right _ h))) hown hK.1 hP 3 rfl rfl 0 (by decide) (hts _ fl_X0_copy_16) (fun _ h9 => h9) rfl dX0_copy_6 ?_
  refine fp_iconst hx hb dX0_copy_9 ?_
  refine fp_bipush hx hb dX0_copy_10 (by decide) ?_
  refine fp_wV (As := [.int (iI (0)), .ref r2, .int (iI (0)), .int (iI (54))]) (rest := []) (wsC := [(h, .inr (0, [.ref r])), (r, .inr (5, [.ref a])), (a, fA cyI 54 c), (h2, .inr (0, [.ref r2])), (r2, .inr (5, [.ref a2])), (a2, fA cyI 54 d)]) ⟨hx, hb, hml, hown, hts⟩ (c_X5_copy l D cyI r a 54 c r2 a2 54 d 0 0 54 (by omega) (by omega) (by omega)) (cwV 4 hts gX0_copy_X5_copy rfl rfl rfl (by decide +kernel) ⟨Nat.le_of_ble_eq_true rfl, Nat.le_of_ble_eq_true rfl⟩) (fun _ => rfl) hK hP hD hS [1, 2, 4, 5] (by decide) rfl rfl rfl rfl hl.1 rfl (Nat.le_of_ble_eq_true rfl) dX0_copy_12 ⟨Nat.zero_le _, Nat.zero_le _⟩ (fun u9v H locs hu hP hD hS => ?_)
  refine W.eq (g2 := F0 mi 15 ls []) rfl ?_
  have hP : va_P D vwCl [(h, .inr (0, [.ref r])), (r, .inr (5, [.ref a])), (a, fA cyI 54 (cpI c d 0 0 54)), (h2, .inr (0, [.ref r2])), (r2, .inr (5, [.ref a2])), (a2, fA cyI 54 d)] H := hP
  have hD : va_D (fp_A [(h, .inr (0, [.ref r])), (r, .inr (5, [.ref a])), (a, fA cyI 54 c), (h2, .inr (0, [.ref r2])), (r2, .inr (5, [.ref a2])), (a2, fA cyI 54 d)]) [(h, .inr (0, [.ref r])), (r, .inr (5, [.ref a])), (a, fA cyI 54 (cpI c d 0 0 54)), (h2, .inr (0, [.ref r2])), (r2, .inr (5, [.ref a2])), (a2, fA cyI 54 d)] := hD
  obtain ⟨hP, hD⟩ := fp_ext (ws := [(h, .inr (0, [.ref r])), (r, .inr (5, [.ref a])), (a, fA cyI 54 (cpI c d 0 0 54)), (h2, .inr (0, [.ref r2])), (r2, .inr (5, [.ref a2])), (a2, fA cyI 54 d)]) (f := cpI c d 0 0 54) (f' := d) hP hD 2 rfl (fun j a1 a2 => by rw [cpI_in (by omega)]; congr 1; omega)
  have hP : va_P D vwCl [(h, .inr (0, [.ref r])), (r, .inr (5, [.ref a])), (a, fA cyI 54 d), (h2, .inr (0, [.ref r2])), (r2, .inr (5, [.ref a2])), (a2, fA cyI 54 d)] H := hP
  have hD : va_D (fp_A [(h, .inr (0, [.ref r])), (r, .inr (5, [.ref a])), (a, fA cyI 54 c), (h2, .inr (0, [.ref r2])), (r2, .inr (5, [.ref a2])), (a2, fA cyI 54 d)]) [(h, .inr (0, [.ref r])), (r, .inr (5, [.ref a])), (a, fA cyI 54 d), (h2, .inr (0, [.ref r2])), (r2, .inr (5, [.ref a2])), (a2, fA cyI 54 d)] := hD
  exact fp_wvret () hx hb hr hlocks hS hP trivial rfl dX0_copy_15
theorem fl_X0_writeTo_16 : Cond.fieldLink RX0 16 "FacingPlates$Catalogue" "cells" "LFacingPlates$Row;" ∈ wsX0_writeTo := by decide +kernel
set_option maxHeartbeats 4000000 in
set_option maxRecDepth 100000 in
theorem c_X0_writeTo (l : Launch) (D : va_G) (cyI : ClassId) (h : Nat) (r : Nat) (a : Nat) (c : Int → Int) (h2 : Nat) (a2 : Nat) (N : Nat) (d : Int → Int) (fr : Int) (hfr : 0 ≤ fr ∧ fr + 54 ≤ N) (hn : N ≤ 2147483647) : fp_MW l yX0_writeTo wsX0_writeTo ({ frames := 2, cells := 0, slots := 0, locals := 47 } : Room) D cyI [(h, .inr (0, [.ref r])), (r, .inr (5, [.ref a])), (a, fA cyI 54 c), (h2, .inr (5, [.ref a2])), (a2, fA cyI N d)] [.ref h, .ref h2, .int (iI (fr))] (fun (u9 : Unit) => True) (fun (u9 : Unit) => none) (fun (u9 : Unit) => [(h, .inr (0, [.ref r])), (r, .inr (5, [.ref a])), (a, fA cyI 54 c), (h2, .inr (5, [.ref a2])), (a2, fA cyI N (cpI d c fr 0 54))]) := by
  refine fp_start (cc := cX0_writeTo) (maxL := 3) (ret := none) (by decide) rfl (Nat.le_of_ble_eq_true rfl) ?_
  intro pg en sx mi ar bl mt cd ls hx hb hr hts hown hlocks hml hnm hP hK hD hl
  have hown : sx.vm.findClass RX0 = some mi.cls := hown
  have hl : lv_has ls 3 [(0, .ref h), (1, .ref h2), (2, .int (iI (fr)))] := hl
  have hD := fp_self hD
  have hS : va_S (fp_A [(h, .inr (0, [.ref r])), (r, .inr (5, [.ref a])), (a, fA cyI 54 c), (h2, .inr (5, [.ref a2])), (a2, fA cyI N d)]) sx.heap sx.heap [] := va_S.rf
  refine lv_aload_n hx hb dX0_writeTo_0 rfl (lv_at hl 1 rfl) ?_
  refine lv_iload_n hx hb dX0_writeTo_1 rfl (lv_at hl 2 rfl) ?_
  refine lv_aload_n hx hb dX0_writeTo_2 rfl (lv_at hl 0 rfl) ?_
  refine va_get (D := D) (ci := 0) (ws := [(h, .inr (0, [.ref r])), (r, .inr (5, [.ref a])), (a, fA cyI 54 c), (h2, .inr (5, [.ref a2])), (a2, fA cyI N d)]) (v := .ref r) (C := RX0) (T := TX0) (N := 1) hx hb hts (fun _ h => List.mem_cons_of_mem _ (List.mem_append_left _ (List.mem_append_right _ h))) hown hK.1 hP 0 rfl rfl 0 (by decide) (hts _ fl_X0_writeTo_16) (fun _ h9 => h9) rfl dX0_writeTo_3 ?_
  refine fp_iconst hx hb dX0_writeTo_6 ?_
  refine fp_bipush hx hb dX0_writeTo_7 (by decide) ?_
  refine fp_wV (As := [.int (iI (fr)), .ref r, .int (iI (0)), .int (iI (54))]) (rest := []) (wsC := [(h, .inr (0, [.ref r])), (r, .inr (5, [.ref a])), (a, fA cyI 54 c), (h2, .inr (5, [.ref a2])), (a2, fA cyI N d)]) ⟨hx, hb, hml, hown, hts⟩ (c_X5_copy l D cyI h2 a2 N d r a 54 c fr 0 54 (by omega) (by omega) (by omega)) (cwV 4 hts gX0_writeTo_X5_copy rfl rfl rfl (by decide +kernel) ⟨Nat.le_of_ble_eq_true rfl, Nat.le_of_ble_eq_true rfl⟩) (fun _ => rfl) hK hP hD hS [3, 4, 1, 2] (by decide) rfl rfl rfl rfl hl.1 rfl (Nat.le_of_ble_eq_true rfl) dX0_writeTo_9 ⟨Nat.zero_le _, Nat.zero_le _⟩ (fun u9v H locs hu hP hD hS => ?_)
  refine W.eq (g2 := F0 mi 12 ls []) rfl ?_
  have hP : va_P D vwCl [(h, .inr (0, [.ref r])), (r, .inr (5, [.ref a])), (a, fA cyI 54 c), (h2, .inr (5, [.ref a2])), (a2, fA cyI N (cpI d c fr 0 54))] H := hP
  have hD : va_D (fp_A [(h, .inr (0, [.ref r])), (r, .inr (5, [.ref a])), (a, fA cyI 54 c), (h2, .inr (5, [.ref a2])), (a2, fA cyI N d)]) [(h, .inr (0, [.ref r])), (r, .inr (5, [.ref a])), (a, fA cyI 54 c), (h2, .inr (5, [.ref a2])), (a2, fA cyI N (cpI d c fr 0 54))] := hD
  exact fp_wvret () hx hb hr hlocks hS hP trivial rfl dX0_writeTo_12
theorem fl_X0_readFrom_16 : Cond.fieldLink RX0 16 "FacingPlates$Catalogue" "cells" "LFacingPlates$Row;" ∈ wsX0_readFrom := by decide +kernel
set_option maxHeartbeats 4000000 in
set_option maxRecDepth 100000 in
theorem c_X0_readFrom (l : Launch) (D : va_G) (cyI : ClassId) (h : Nat) (r : Nat) (a : Nat) (c : Int → Int) (h2 : Nat) (a2 : Nat) (N : Nat) (d : Int → Int) (fr : Int) (hfr : 0 ≤ fr ∧ fr + 54 ≤ N) (hn : N ≤ 2147483647) : fp_MW l yX0_readFrom wsX0_readFrom ({ frames := 2, cells := 0, slots := 0, locals := 47 } : Room) D cyI [(h, .inr (0, [.ref r])), (r, .inr (5, [.ref a])), (a, fA cyI 54 c), (h2, .inr (5, [.ref a2])), (a2, fA cyI N d)] [.ref h, .ref h2, .int (iI (fr))] (fun (u9 : Unit) => True) (fun (u9 : Unit) => none) (fun (u9 : Unit) => [(h, .inr (0, [.ref r])), (r, .inr (5, [.ref a])), (a, fA cyI 54 (shfI d fr)), (h2, .inr (5, [.ref a2])), (a2, fA cyI N d)]) := by
  refine fp_start (cc := cX0_readFrom) (maxL := 3) (ret := none) (by decide) rfl (Nat.le_of_ble_eq_true rfl) ?_
  intro pg en sx mi ar bl mt cd ls hx hb hr hts hown hlocks hml hnm hP hK hD hl
  have hown : sx.vm.findClass RX0 = some mi.cls := hown
  have hl : lv_has ls 3 [(0, .ref h), (1, .ref h2), (2, .int (iI (fr)))] := hl
  have hD := fp_self hD
  have hS : va_S (fp_A [(h, .inr (0, [.ref r])), (r, .inr (5, [.ref a])), (a, fA cyI 54 c), (h2, .inr (5, [.ref a2])), (a2, fA cyI N d)]) sx.heap sx.heap [] := va_S.rf
  refine lv_aload_n hx hb dX0_readFrom_0 rfl (lv_at hl 0 rfl) ?_
  refine va_get (D := D) (ci := 0) (ws := [(h, .inr (0, [.ref r])), (r, .inr (5, [.ref a])), (a, fA cyI 54 c), (h2, .inr (5, [.ref a2])), (a2, fA cyI N d)]) (v := .ref r) (C := RX0) (T := TX0) (N := 1) hx hb hts (fun _ h => List.mem_cons_of_mem _ (List.mem_append_left _ (List.mem_append_right _ h))) hown hK.1 hP 0 rfl rfl 0 (by decide) (hts _ fl_X0_readFrom_16) (fun _ h9 => h9) rfl dX0_readFrom_1 ?_
  refine fp_iconst hx hb dX0_readFrom_4 ?_
  refine lv_aload_n hx hb dX0_readFrom_5 rfl (lv_at hl 1 rfl) ?_
  refine lv_iload_n hx hb dX0_readFrom_6 rfl (lv_at hl 2 rfl) ?_
  refine fp_bipush hx hb dX0_readFrom_7 (by decide) ?_
  refine fp_wV (As := [.int (iI (0)), .ref h2, .int (iI (fr)), .int (iI (54))]) (rest := []) (wsC := [(h, .inr (0, [.ref r])), (r, .inr (5, [.ref a])), (a, fA cyI 54 c), (h2, .inr (5, [.ref a2])), (a2, fA cyI N d)]) ⟨hx, hb, hml, hown, hts⟩ (c_X5_copy l D cyI r a 54 c h2 a2 N d 0 fr 54 (by omega) (by omega) (by omega)) (cwV 4 hts gX0_readFrom_X5_copy rfl rfl rfl (by decide +kernel) ⟨Nat.le_of_ble_eq_true rfl, Nat.le_of_ble_eq_true rfl⟩) (fun _ => rfl) hK hP hD hS [1, 2, 3, 4] (by decide) rfl rfl rfl rfl hl.1 rfl (Nat.le_of_ble_eq_true rfl) dX0_readFrom_9 ⟨Nat.zero_le _, Nat.zero_le _⟩ (fun u9v H locs hu hP hD hS => ?_)
  refine W.eq (g2 := F0 mi 12 ls []) rfl ?_
  have hP : va_P D vwCl [(h, .inr (0, [.ref r])), (r, .inr (5, [.ref a])), (a, fA cyI 54 (cpI c d 0 fr 54)), (h2, .inr (5, [.ref a2])), (a2, fA cyI N d)] H := hP
  have hD : va_D (fp_A [(h, .inr (0, [.ref r])), (r, .inr (5, [.ref a])), (a, fA cyI 54 c), (h2, .inr (5, [.ref a2])), (a2, fA cyI N d)]) [(h, .inr (0, [.ref r])), (r, .inr (5, [.ref a])), (a, fA cyI 54 (cpI c d 0 fr 54)), (h2, .inr (5, [.ref a2])), (a2, fA cyI N d)] := hD
  obtain ⟨hP, hD⟩ := fp_ext (ws := [(h, .inr (0, [.ref r])), (r, .inr (5, [.ref a])), (a, fA cyI 54 (cpI c d 0 fr 54)), (h2, .inr (5, [.ref a2])), (a2, fA cyI N d)]) (f := cpI c d 0 fr 54) (f' := shfI d fr) hP hD 2 rfl (fun j a1 a2 => by rw [cpI_in (by omega)]; unfold shfI; congr 1; omega)
  have hP : va_P D vwCl [(h, .inr (0, [.ref r])), (r, .inr (5, [.ref a])), (a, fA cyI 54 (shfI d fr)), (h2, .inr (5, [.ref a2])), (a2, fA cyI N d)] H := hP
  have hD : va_D (fp_A [(h, .inr (0, [.ref r])), (r, .inr (5, [.ref a])), (a, fA cyI 54 c), (h2, .inr (5, [.ref a2])), (a2, fA cyI N d)]) [(h, .inr (0, [.ref r])), (r, .inr (5, [.ref a])), (a, fA cyI 54 (shfI d fr)), (h2, .inr (5, [.ref a2])), (a2, fA cyI N d)] := hD
  exact fp_wvret () hx hb hr hlocks hS hP trivial rfl dX0_readFrom_12
theorem fl_X0_append_16 : Cond.fieldLink RX0 16 "FacingPlates$Catalogue" "cells" "LFacingPlates$Row;" ∈ wsX0_append := by decide +kernel
set_option maxHeartbeats 4000000 in
set_option maxRecDepth 100000 in
theorem c_X0_append (l : Launch) (D : va_G) (cyI : ClassId) (h : Nat) (r : Nat) (a : Nat) (c : Int → Int) (t : Int) (p : Int) (b : Int) (q : Int) (hc : 0 ≤ c 0 ∧ c 0 ≤ 12) : fp_MW l yX0_append wsX0_append ({ frames := 3, cells := 0, slots := 0, locals := 70 } : Room) D cyI [(h, .inr (0, [.ref r])), (r, .inr (5, [.ref a])), (a, fA cyI 54 c)] [.ref h, .int (iI (t)), .int (iI (p)), .int (iI (b)), .int (iI (q))] (fun (u9 : Unit) => True) (fun (u9 : Unit) => none) (fun (u9 : Unit) => [(h, .inr (0, [.ref r])), (r, .inr (5, [.ref a])), (a, fA cyI 54 (appL c t p b q))]) := by
  refine fp_start (cc := cX0_append) (maxL := 6) (ret := none) (by decide) rfl (Nat.le_of_ble_eq_true rfl) ?_
  intro pg en sx mi ar bl mt cd ls hx hb hr hts hown hlocks hml hnm hP hK hD hl
  have hown : sx.vm.findClass RX0 = some mi.cls := hown
  have hl : lv_has ls 6 [(0, .ref h), (1, .int (iI (t))), (2, .int (iI (p))), (3, .int (iI (b))), (4, .int (iI (q)))] := hl
  have hD := fp_self hD
  have hS : va_S (fp_A [(h, .inr (0, [.ref r])), (r, .inr (5, [.ref a])), (a, fA cyI 54 c)]) sx.heap sx.heap [] := va_S.rf
  refine lv_aload_n hx hb dX0_append_0 rfl (lv_at hl 0 rfl) ?_
  refine fp_pV (As := []) (rest := []) (wsC := [(h, .inr (0, [.ref r])), (r, .inr (5, [.ref a])), (a, fA cyI 54 c)]) ⟨hx, hb, hml, hown, hts⟩ (c_X0_lots l D cyI h r a c) (cwV 0 hts gX0_append_X0_lots rfl rfl rfl (by decide +kernel) ⟨Nat.le_of_ble_eq_true rfl, Nat.le_of_ble_eq_true rfl⟩) hK hP hD [0, 1, 2] (by decide) rfl rfl rfl rfl hl.1 rfl (Nat.le_of_ble_eq_true rfl) dX0_append_1 ⟨Nat.zero_le _, Nat.zero_le _⟩ ?_
  refine lv_istore (lv' := [(5, .int (iI (c 0))), (0, .ref h), (1, .int (iI (t))), (2, .int (iI (p))), (3, .int (iI (b))), (4, .int (iI (q)))]) hx hb dX0_append_4 hl (by decide) rfl (fun ls hl => ?_)
  refine lv_iload hx hb dX0_append_6 (lv_at hl 0 rfl) ?_
  refine fp_bipush hx hb dX0_append_8 (by decide) ?_
  refine fp_icmp_ge (tgt := 36) hx hb (by omega) dX0_append_10 (by decide) (fun q10 => ?_) (fun q10 => ?_)
  · skip
    have hP : va_P D vwCl [(h, .inr (0, [.ref r])), (r, .inr (5, [.ref a])), (a, fA cyI 54 (appL c t p b q))] sx.heap := by
      rw [(show (c : Int → Int) = appL c t p b q from (by unfold appL; first | rw [if_pos (by omega)] | rw [if_neg (by omega)])).symm]
      exact hP
    exact fp_wvret () hx hb hr hlocks hS hP trivial rfl dX0_append_36
  · skip
    refine lv_aload_n hx hb dX0_append_13 rfl (lv_at hl 1 rfl) ?_
    refine lv_iload hx hb dX0_append_14 (lv_at hl 0 rfl) ?_
    refine lv_iload_n hx hb dX0_append_16 rfl (lv_at hl 2 rfl) ?_
    refine lv_iload_n hx hb dX0_append_17 rfl (lv_at hl 3 rfl) ?_
    refine lv_iload_n hx hb dX0_append_18 rfl (lv_at hl 4 rfl) ?_
    refine lv_iload hx hb dX0_append_19 (lv_at hl 5 rfl) ?_
    refine fp_wV (As := [.int (iI (c 0)), .int (iI (t)), .int (iI (p)), .int (iI (b)), .int (iI (q))]) (rest := []) (wsC := [(h, .inr (0, [.ref r])), (r, .inr (5, [.ref a])), (a, fA cyI 54 c)]) ⟨hx, hb, hml, hown, hts⟩ (c_X0_putLot l D cyI h r a c (c 0) t p b q (by omega)) (cwV 5 hts gX0_append_X0_putLot rfl rfl rfl (by decide +kernel) ⟨Nat.le_of_ble_eq_true rfl, Nat.le_of_ble_eq_true rfl⟩) (fun _ => rfl) hK hP hD hS [0, 1, 2] (by decide) rfl rfl rfl rfl hl.1 rfl (Nat.le_of_ble_eq_true rfl) dX0_append_21 ⟨Nat.zero_le _, Nat.zero_le _⟩ (fun u9v H locs hu hP hD hS => ?_)
    refine W.eq (g2 := F0 mi 24 ls []) rfl ?_
    have hP : va_P D vwCl [(h, .inr (0, [.ref r])), (r, .inr (5, [.ref a])), (a, fA cyI 54 (putL c (c 0) t p b q))] H := hP
    have hD : va_D (fp_A [(h, .inr (0, [.ref r])), (r, .inr (5, [.ref a])), (a, fA cyI 54 c)]) [(h, .inr (0, [.ref r])), (r, .inr (5, [.ref a])), (a, fA cyI 54 (putL c (c 0) t p b q))] := hD
    refine lv_aload_n hx hb dX0_append_24 rfl (lv_at hl 1 rfl) ?_
    refine va_get (D := D) (ci := 0) (ws := [(h, .inr (0, [.ref r])), (r, .inr (5, [.ref a])), (a, fA cyI 54 (putL c (c 0) t p b q))]) (v := .ref r) (C := RX0) (T := TX0) (N := 1) hx hb hts (fun _ h => List.mem_cons_of_mem _ (List.mem_append_left _ (List.mem_append_right _ h))) hown hK.1 hP 0 rfl rfl 0 (by decide) (hts _ fl_X0_append_16) (fun _ h9 => h9) rfl dX0_append_25 ?_
    refine fp_iconst hx hb dX0_append_28 ?_
    refine lv_iload hx hb dX0_append_29 (lv_at hl 0 rfl) ?_
    refine fp_iconst hx hb dX0_append_31 ?_
    refine fp_iadd hx hb dX0_append_32 ?_
    refine fp_wV (As := [.int (iI (0)), .int (iI ((c 0) + 1))]) (rest := []) (wsC := [(h, .inr (0, [.ref r])), (r, .inr (5, [.ref a])), (a, fA cyI 54 (putL c (c 0) t p b q))]) ⟨hx, hb, hml, hown, hts⟩ (c_X5_put l D cyI r a 54 (putL c (c 0) t p b q) 0 ((c 0) + 1) (by omega) (by decide)) (cwV 2 hts gX0_append_X5_put rfl rfl rfl (by decide +kernel) ⟨Nat.le_of_ble_eq_true rfl, Nat.le_of_ble_eq_true rfl⟩) (fun _ => rfl) hK hP hD hS [1, 2] (by decide) rfl rfl rfl rfl hl.1 rfl (Nat.le_of_ble_eq_true rfl) dX0_append_33 ⟨Nat.zero_le _, Nat.zero_le _⟩ (fun u9v H locs hu hP hD hS => ?_)
    refine W.eq (g2 := F0 mi 36 ls []) rfl ?_
    have hP : va_P D vwCl [(h, .inr (0, [.ref r])), (r, .inr (5, [.ref a])), (a, fA cyI 54 (upI (putL c (c 0) t p b q) 0 ((c 0) + 1)))] H := hP
    have hD : va_D (fp_A [(h, .inr (0, [.ref r])), (r, .inr (5, [.ref a])), (a, fA cyI 54 c)]) [(h, .inr (0, [.ref r])), (r, .inr (5, [.ref a])), (a, fA cyI 54 (upI (putL c (c 0) t p b q) 0 ((c 0) + 1)))] := hD
    have hP : va_P D vwCl [(h, .inr (0, [.ref r])), (r, .inr (5, [.ref a])), (a, fA cyI 54 (appL c t p b q))] H := by
      rw [(show (upI (putL c (c 0) t p b q) 0 ((c 0) + 1) : Int → Int) = appL c t p b q from (by unfold appL; first | rw [if_pos (by omega)] | rw [if_neg (by omega)])).symm]
      exact hP
    exact fp_wvret () hx hb hr hlocks hS hP trivial rfl dX0_append_36
theorem fl_X0_empty_16 : Cond.fieldLink RX0 16 "FacingPlates$Catalogue" "cells" "LFacingPlates$Row;" ∈ wsX0_empty := by decide +kernel
set_option maxHeartbeats 4000000 in
set_option maxRecDepth 100000 in
theorem c_X0_empty (l : Launch) (D : va_G) (cyI : ClassId) (h : Nat) (r : Nat) (a : Nat) (c : Int → Int) : fp_MW l yX0_empty wsX0_empty ({ frames := 1, cells := 0, slots := 0, locals := 22 } : Room) D cyI [(h, .inr (0, [.ref r])), (r, .inr (5, [.ref a])), (a, fA cyI 54 c)] [.ref h] (fun (u9 : Unit) => True) (fun (u9 : Unit) => none) (fun (u9 : Unit) => [(h, .inr (0, [.ref r])), (r, .inr (5, [.ref a])), (a, fA cyI 54 (upI c 0 0))]) := by
  refine fp_start (cc := cX0_empty) (maxL := 1) (ret := none) (by decide) rfl (Nat.le_of_ble_eq_true rfl) ?_
  intro pg en sx mi ar bl mt cd ls hx hb hr hts hown hlocks hml hnm hP hK hD hl
  have hown : sx.vm.findClass RX0 = some mi.cls := hown
  have hl : lv_has ls 1 [(0, .ref h)] := hl
  have hD := fp_self hD
  have hS : va_S (fp_A [(h, .inr (0, [.ref r])), (r, .inr (5, [.ref a])), (a, fA cyI 54 c)]) sx.heap sx.heap [] := va_S.rf
  refine lv_aload_n hx hb dX0_empty_0 rfl (lv_at hl 0 rfl) ?_
  refine va_get (D := D) (ci := 0) (ws := [(h, .inr (0, [.ref r])), (r, .inr (5, [.ref a])), (a, fA cyI 54 c)]) (v := .ref r) (C := RX0) (T := TX0) (N := 1) hx hb hts (fun _ h => List.mem_cons_of_mem _ (List.mem_append_left _ (List.mem_append_right _ h))) hown hK.1 hP 0 rfl rfl 0 (by decide) (hts _ fl_X0_empty_16) (fun _ h9 => h9) rfl dX0_empty_1 ?_
  refine fp_iconst hx hb dX0_empty_4 ?_
  refine fp_iconst hx hb dX0_empty_5 ?_
  refine fp_wV (As := [.int (iI (0)), .int (iI (0))]) (rest := []) (wsC := [(h, .inr (0, [.ref r])), (r, .inr (5, [.ref a])), (a, fA cyI 54 c)]) ⟨hx, hb, hml, hown, hts⟩ (c_X5_put l D cyI r a 54 c 0 0 (by omega) (by decide)) (cwV 2 hts gX0_empty_X5_put rfl rfl rfl (by decide +kernel) ⟨Nat.le_of_ble_eq_true rfl, Nat.le_of_ble_eq_true rfl⟩) (fun _ => rfl) hK hP hD hS [1, 2] (by decide) rfl rfl rfl rfl hl.1 rfl (Nat.le_of_ble_eq_true rfl) dX0_empty_6 ⟨Nat.zero_le _, Nat.zero_le _⟩ (fun u9v H locs hu hP hD hS => ?_)
  refine W.eq (g2 := F0 mi 9 ls []) rfl ?_
  have hP : va_P D vwCl [(h, .inr (0, [.ref r])), (r, .inr (5, [.ref a])), (a, fA cyI 54 (upI c 0 0))] H := hP
  have hD : va_D (fp_A [(h, .inr (0, [.ref r])), (r, .inr (5, [.ref a])), (a, fA cyI 54 c)]) [(h, .inr (0, [.ref r])), (r, .inr (5, [.ref a])), (a, fA cyI 54 (upI c 0 0))] := hD
  exact fp_wvret () hx hb hr hlocks hS hP trivial rfl dX0_empty_9
set_option maxHeartbeats 4000000 in
set_option maxRecDepth 100000 in
theorem c_X0_copyLot (l : Launch) (D : va_G) (cyI : ClassId) (h : Nat) (r : Nat) (a : Nat) (c : Int → Int) (to : Int) (fr : Int) (hk : 0 ≤ to ∧ to < 12 ∧ 0 ≤ fr ∧ fr < 12) : fp_MW l yX0_copyLot wsX0_copyLot ({ frames := 3, cells := 0, slots := 0, locals := 70 } : Room) D cyI [(h, .inr (0, [.ref r])), (r, .inr (5, [.ref a])), (a, fA cyI 54 c)] [.ref h, .int (iI (to)), .int (iI (fr))] (fun (u9 : Unit) => True) (fun (u9 : Unit) => none) (fun (u9 : Unit) => [(h, .inr (0, [.ref r])), (r, .inr (5, [.ref a])), (a, fA cyI 54 (putL c to (c (fr * 4 + 1)) (c (fr * 4 + 2)) (c (fr * 4 + 3)) (c (fr * 4 + 4))))]) := by
  refine fp_start (cc := cX0_copyLot) (maxL := 3) (ret := none) (by decide) rfl (Nat.le_of_ble_eq_true rfl) ?_
  intro pg en sx mi ar bl mt cd ls hx hb hr hts hown hlocks hml hnm hP hK hD hl
  have hown : sx.vm.findClass RX0 = some mi.cls := hown
  have hl : lv_has ls 3 [(0, .ref h), (1, .int (iI (to))), (2, .int (iI (fr)))] := hl
  have hD := fp_self hD
  have hS : va_S (fp_A [(h, .inr (0, [.ref r])), (r, .inr (5, [.ref a])), (a, fA cyI 54 c)]) sx.heap sx.heap [] := va_S.rf
  refine lv_aload_n hx hb dX0_copyLot_0 rfl (lv_at hl 0 rfl) ?_
  refine lv_iload_n hx hb dX0_copyLot_1 rfl (lv_at hl 1 rfl) ?_
  refine lv_aload_n hx hb dX0_copyLot_2 rfl (lv_at hl 0 rfl) ?_
  refine lv_iload_n hx hb dX0_copyLot_3 rfl (lv_at hl 2 rfl) ?_
  refine fp_pV (As := [.int (iI (fr))]) (rest := [.int (iI (to)), .ref h]) (wsC := [(h, .inr (0, [.ref r])), (r, .inr (5, [.ref a])), (a, fA cyI 54 c)]) ⟨hx, hb, hml, hown, hts⟩ (c_X0_text l D cyI h r a c fr (by omega)) (cwV 1 hts gX0_copyLot_X0_text rfl rfl rfl (by decide +kernel) ⟨Nat.le_of_ble_eq_true rfl, Nat.le_of_ble_eq_true rfl⟩) hK hP hD [0, 1, 2] (by decide) rfl rfl rfl rfl hl.1 rfl (Nat.le_of_ble_eq_true rfl) dX0_copyLot_4 ⟨Nat.zero_le _, Nat.zero_le _⟩ ?_
  refine lv_aload_n hx hb dX0_copyLot_7 rfl (lv_at hl 0 rfl) ?_
  refine lv_iload_n hx hb dX0_copyLot_8 rfl (lv_at hl 2 rfl) ?_
  refine fp_pV (As := [.int (iI (fr))]) (rest := [.int (iI (c (fr * 4 + 1))), .int (iI (to)), .ref h]) (wsC := [(h, .inr (0, [.ref r])), (r, .inr (5, [.ref a])), (a, fA cyI 54 c)]) ⟨hx, hb, hml, hown, hts⟩ (c_X0_plate l D cyI h r a c fr (by omega)) (cwV 1 hts gX0_copyLot_X0_plate rfl rfl rfl (by decide +kernel) ⟨Nat.le_of_ble_eq_true rfl, Nat.le_of_ble_eq_true rfl⟩) hK hP hD [0, 1, 2] (by decide) rfl rfl rfl rfl hl.1 rfl (Nat.le_of_ble_eq_true rfl) dX0_copyLot_9 ⟨Nat.zero_le _, Nat.zero_le _⟩ ?_
  refine lv_aload_n hx hb dX0_copyLot_12 rfl (lv_at hl 0 rfl) ?_
  refine lv_iload_n hx hb dX0_copyLot_13 rfl (lv_at hl 2 rfl) ?_
  refine fp_pV (As := [.int (iI (fr))]) (rest := [.int (iI (c (fr * 4 + 2))), .int (iI (c (fr * 4 + 1))), .int (iI (to)), .ref h]) (wsC := [(h, .inr (0, [.ref r])), (r, .inr (5, [.ref a])), (a, fA cyI 54 c)]) ⟨hx, hb, hml, hown, hts⟩ (c_X0_blank l D cyI h r a c fr (by omega)) (cwV 1 hts gX0_copyLot_X0_blank rfl rfl rfl (by decide +kernel) ⟨Nat.le_of_ble_eq_true rfl, Nat.le_of_ble_eq_true rfl⟩) hK hP hD [0, 1, 2] (by decide) rfl rfl rfl rfl hl.1 rfl (Nat.le_of_ble_eq_true rfl) dX0_copyLot_14 ⟨Nat.zero_le _, Nat.zero_le _⟩ ?_
  refine lv_aload_n hx hb dX0_copyLot_17 rfl (lv_at hl 0 rfl) ?_
  refine lv_iload_n hx hb dX0_copyLot_18 rfl (lv_at hl 2 rfl) ?_
  refine fp_pV (As := [.int (iI (fr))]) (rest := [.int (iI (c (fr * 4 + 3))), .int (iI (c (fr * 4 + 2))), .int (iI (c (fr * 4 + 1))), .int (iI (to)), .ref h]) (wsC := [(h, .inr (0, [.ref r])), (r, .inr (5, [.ref a])), (a, fA cyI 54 c)]) ⟨hx, hb, hml, hown, hts⟩ (c_X0_place l D cyI h r a c fr (by omega)) (cwV 1 hts gX0_copyLot_X0_place rfl rfl rfl (by decide +kernel) ⟨Nat.le_of_ble_eq_true rfl, Nat.le_of_ble_eq_true rfl⟩) hK hP hD [0, 1, 2] (by decide) rfl rfl rfl rfl hl.1 rfl (Nat.le_of_ble_eq_true rfl) dX0_copyLot_19 ⟨Nat.zero_le _, Nat.zero_le _⟩ ?_
  refine fp_wV (As := [.int (iI (to)), .int (iI (c (fr * 4 + 1))), .int (iI (c (fr * 4 + 2))), .int (iI (c (fr * 4 + 3))), .int (iI (c (fr * 4 + 4)))]) (rest := []) (wsC := [(h, .inr (0, [.ref r])), (r, .inr (5, [.ref a])), (a, fA cyI 54 c)]) ⟨hx, hb, hml, hown, hts⟩ (c_X0_putLot l D cyI h r a c to (c (fr * 4 + 1)) (c (fr * 4 + 2)) (c (fr * 4 + 3)) (c (fr * 4 + 4)) (by omega)) (cwV 5 hts gX0_copyLot_X0_putLot rfl rfl rfl (by decide +kernel) ⟨Nat.le_of_ble_eq_true rfl, Nat.le_of_ble_eq_true rfl⟩) (fun _ => rfl) hK hP hD hS [0, 1, 2] (by decide) rfl rfl rfl rfl hl.1 rfl (Nat.le_of_ble_eq_true rfl) dX0_copyLot_22 ⟨Nat.zero_le _, Nat.zero_le _⟩ (fun u9v H locs hu hP hD hS => ?_)
  refine W.eq (g2 := F0 mi 25 ls []) rfl ?_
  have hP : va_P D vwCl [(h, .inr (0, [.ref r])), (r, .inr (5, [.ref a])), (a, fA cyI 54 (putL c to (c (fr * 4 + 1)) (c (fr * 4 + 2)) (c (fr * 4 + 3)) (c (fr * 4 + 4))))] H := hP
  have hD : va_D (fp_A [(h, .inr (0, [.ref r])), (r, .inr (5, [.ref a])), (a, fA cyI 54 c)]) [(h, .inr (0, [.ref r])), (r, .inr (5, [.ref a])), (a, fA cyI 54 (putL c to (c (fr * 4 + 1)) (c (fr * 4 + 2)) (c (fr * 4 + 3)) (c (fr * 4 + 4))))] := hD
  exact fp_wvret () hx hb hr hlocks hS hP trivial rfl dX0_copyLot_25
theorem shL_eq {c f : Int → Int} {lot to : Int} (hl : 0 ≤ lot ∧ lot < 12) (ht : 0 ≤ to ∧ to < 12)
    (hf : ∀ j : Int, f j = if lot * 4 + 1 ≤ j ∧ j ≤ to * 4 then c (j + 4) else if to * 4 + 5 ≤ j ∧ j ≤ lot * 4 + 4 then c (j - 4) else c j) :
    putL f to (c (lot * 4 + 1)) (c (lot * 4 + 2)) (c (lot * 4 + 3)) (c (lot * 4 + 4)) = shL c lot to := by
  funext j
  unfold putL choL upI shL movI
  rw [hf j]
  by_cases e4 : j = to * 4 + 4
  · rw [if_pos e4, if_pos (by omega), if_pos (by omega)]
    congr 1
    omega
  rw [if_neg e4]
  by_cases e3 : j = to * 4 + 3
  · rw [if_pos e3, if_pos (by omega), if_pos (by omega)]
    congr 1
    omega
  rw [if_neg e3]
  by_cases e2 : j = to * 4 + 2
  · rw [if_pos e2, if_pos (by omega), if_pos (by omega)]
    congr 1
    omega
  rw [if_neg e2]
  by_cases e1 : j = to * 4 + 1
  · rw [if_pos e1, if_pos (by omega), if_pos (by omega)]
    congr 1
    omega
  rw [if_neg e1]
  by_cases r : 1 ≤ j ∧ j ≤ 48
  · rw [if_pos r, if_neg (show ¬ (j - 1) / 4 = to by omega)]
    by_cases a1 : lot * 4 + 1 ≤ j ∧ j ≤ to * 4
    · rw [if_pos a1, if_pos (by omega)]
      congr 1
      omega
    · rw [if_neg a1, if_neg (show ¬ (lot ≤ (j - 1) / 4 ∧ (j - 1) / 4 < to) by omega)]
      by_cases a2 : to * 4 + 5 ≤ j ∧ j ≤ lot * 4 + 4
      · rw [if_pos a2, if_pos (by omega)]
        congr 1
        omega
      · rw [if_neg a2, if_neg (by omega)]
        congr 1
        omega
  · rw [if_neg r, if_neg (by omega), if_neg (by omega)]
theorem shL_up {c f : Int → Int} {lot i : Int} (hf : ∀ j : Int, f j = if lot * 4 + 1 ≤ j ∧ j ≤ i * 4 then c (j + 4) else c j) (hi : lot ≤ i) :
    ∀ j : Int, putL f i (f ((i + 1) * 4 + 1)) (f ((i + 1) * 4 + 2)) (f ((i + 1) * 4 + 3)) (f ((i + 1) * 4 + 4)) j = if lot * 4 + 1 ≤ j ∧ j ≤ (i + 1) * 4 then c (j + 4) else c j := by
  intro j
  unfold putL choL upI
  rw [hf ((i + 1) * 4 + 1), hf ((i + 1) * 4 + 2), hf ((i + 1) * 4 + 3), hf ((i + 1) * 4 + 4), hf j]
  rw [if_neg (show ¬ (lot * 4 + 1 ≤ (i + 1) * 4 + 1 ∧ (i + 1) * 4 + 1 ≤ i * 4) by omega), if_neg (show ¬ (lot * 4 + 1 ≤ (i + 1) * 4 + 2 ∧ (i + 1) * 4 + 2 ≤ i * 4) by omega), if_neg (show ¬ (lot * 4 + 1 ≤ (i + 1) * 4 + 3 ∧ (i + 1) * 4 + 3 ≤ i * 4) by omega), if_neg (show ¬ (lot * 4 + 1 ≤ (i + 1) * 4 + 4 ∧ (i + 1) * 4 + 4 ≤ i * 4) by omega)]
  by_cases e4 : j = i * 4 + 4
  · rw [if_pos e4, if_pos (by omega)]; congr 1; omega
  rw [if_neg e4]
  by_cases e3 : j = i * 4 + 3
  · rw [if_pos e3, if_pos (by omega)]; congr 1; omega
  rw [if_neg e3]
  by_cases e2 : j = i * 4 + 2
  · rw [if_pos e2, if_pos (by omega)]; congr 1; omega
  rw [if_neg e2]
  by_cases e1 : j = i * 4 + 1
  · rw [if_pos e1, if_pos (by omega)]; congr 1; omega
  rw [if_neg e1]
  by_cases a1 : lot * 4 + 1 ≤ j ∧ j ≤ i * 4
  · rw [if_pos a1, if_pos (by omega)]
  · rw [if_neg a1, if_neg (by omega)]
theorem shL_dn {c f : Int → Int} {lot i : Int} (hf : ∀ j : Int, f j = if i * 4 + 5 ≤ j ∧ j ≤ lot * 4 + 4 then c (j - 4) else c j) (hi : i ≤ lot) :
    ∀ j : Int, putL f i (f ((i - 1) * 4 + 1)) (f ((i - 1) * 4 + 2)) (f ((i - 1) * 4 + 3)) (f ((i - 1) * 4 + 4)) j = if (i - 1) * 4 + 5 ≤ j ∧ j ≤ lot * 4 + 4 then c (j - 4) else c j := by
  intro j
  unfold putL choL upI
  rw [hf ((i - 1) * 4 + 1), hf ((i - 1) * 4 + 2), hf ((i - 1) * 4 + 3), hf ((i - 1) * 4 + 4), hf j]
  rw [if_neg (show ¬ (i * 4 + 5 ≤ (i - 1) * 4 + 1 ∧ (i - 1) * 4 + 1 ≤ lot * 4 + 4) by omega), if_neg (show ¬ (i * 4 + 5 ≤ (i - 1) * 4 + 2 ∧ (i - 1) * 4 + 2 ≤ lot * 4 + 4) by omega), if_neg (show ¬ (i * 4 + 5 ≤ (i - 1) * 4 + 3 ∧ (i - 1) * 4 + 3 ≤ lot * 4 + 4) by omega), if_neg (show ¬ (i * 4 + 5 ≤ (i - 1) * 4 + 4 ∧ (i - 1) * 4 + 4 ≤ lot * 4 + 4) by omega)]
  by_cases e4 : j = i * 4 + 4
  · rw [if_pos e4, if_pos (by omega)]; congr 1; omega
  rw [if_neg e4]
  by_cases e3 : j = i * 4 + 3
  · rw [if_pos e3, if_pos (by omega)]; congr 1; omega
  rw [if_neg e3]
  by_cases e2 : j = i * 4 + 2
  · rw [if_pos e2, if_pos (by omega)]; congr 1; omega
  rw [if_neg e2]
  by_cases e1 : j = i * 4 + 1
  · rw [if_pos e1, if_pos (by omega)]; congr 1; omega
  rw [if_neg e1]
  by_cases a1 : i * 4 + 5 ≤ j ∧ j ≤ lot * 4 + 4
  · rw [if_pos a1, if_pos (by omega)]
  · rw [if_neg a1, if_neg (by omega)]
