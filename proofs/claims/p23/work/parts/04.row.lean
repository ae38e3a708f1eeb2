theorem fl_X5_at_7 : Cond.fieldLink RX5 7 "FacingPlates$Row" "cells" "[I" ∈ wsX5_at := by decide +kernel
set_option maxHeartbeats 4000000 in
set_option maxRecDepth 100000 in
theorem c_X5_at (l : Launch) (D : va_G) (cyI : ClassId) (h : Nat) (a : Nat) (N : Nat) (c : Int → Int) (k : Int) (hk : 0 ≤ k ∧ k < N) (hn : N ≤ 2147483647) : fp_M l yX5_at wsX5_at ({ frames := 0, cells := 0, slots := 0, locals := 0 } : Room) D cyI [(h, .inr (5, [.ref a])), (a, fA cyI N c)] [.ref h, .int (iI (k))] (some (.int (iI (c k)))) := by
  refine fp_start (cc := cX5_at) (maxL := 2) (ret := (some .int)) (by decide) rfl (Nat.le_of_ble_eq_true rfl) ?_
  intro pg en sx mi ar bl mt cd ls hx hb hr hts hown hlocks hml hnm hP hK hD hl
  have hown : sx.vm.findClass RX5 = some mi.cls := hown
  have hl : lv_has ls 2 [(0, .ref h), (1, .int (iI (k)))] := hl
  refine lv_iload_n hx hb dX5_at_0 rfl (lv_at hl 1 rfl) ?_
  refine fp_if_lt (tgt := 22) hx hb (by omega) dX5_at_1 (by decide) (fun q1 => ?_) (fun q1 => ?_)
  · skip
    refine fp_iconst hx hb dX5_at_22 ?_
    have hret : (c k : Int) = 0 := (by first | rfl | omega | (unfold bI; split <;> first | rfl | omega))
    exact fp_ret hx hb hr hlocks dX5_at_23 (congrArg (fun z : Int => Value.int (iI z)) hret)
  · skip
    refine lv_iload_n hx hb dX5_at_4 rfl (lv_at hl 1 rfl) ?_
    refine lv_aload_n hx hb dX5_at_5 rfl (lv_at hl 0 rfl) ?_
    refine va_get (D := D) (ci := 5) (ws := [(h, .inr (5, [.ref a])), (a, fA cyI N c)]) (v := .ref a) (C := RX5) (T := TX5) (N := 1) hx hb hts (fun _ h => List.mem_cons_of_mem _ (List.mem_append_right _ h)) hown hK.1 hP 0 rfl rfl 0 (by decide) (hts _ fl_X5_at_7) (fun _ h9 => h9) rfl dX5_at_6 ?_
    refine fp_alen (wsC := [(h, .inr (5, [.ref a])), (a, fA cyI N c)]) hx hb hK hP 1 rfl dX5_at_9 ?_
    refine fp_icmp_ge (tgt := 22) hx hb (by omega) dX5_at_10 (by decide) (fun q10 => ?_) (fun q10 => ?_)
    · skip
      refine fp_iconst hx hb dX5_at_22 ?_
      have hret : (c k : Int) = 0 := (by first | rfl | omega | (unfold bI; split <;> first | rfl | omega))
      exact fp_ret hx hb hr hlocks dX5_at_23 (congrArg (fun z : Int => Value.int (iI z)) hret)
    · skip
      refine lv_aload_n hx hb dX5_at_13 rfl (lv_at hl 0 rfl) ?_
      refine va_get (D := D) (ci := 5) (ws := [(h, .inr (5, [.ref a])), (a, fA cyI N c)]) (v := .ref a) (C := RX5) (T := TX5) (N := 1) hx hb hts (fun _ h => List.mem_cons_of_mem _ (List.mem_append_right _ h)) hown hK.1 hP 0 rfl rfl 0 (by decide) (hts _ fl_X5_at_7) (fun _ h9 => h9) rfl dX5_at_14 ?_
      refine lv_iload_n hx hb dX5_at_17 rfl (lv_at hl 1 rfl) ?_
      refine fp_iald (wsC := [(h, .inr (5, [.ref a])), (a, fA cyI N c)]) hx hb hK hP 1 rfl (by omega) (by omega) dX5_at_18 ?_
      refine lv_goto (tgt := 23) hx hb dX5_at_19 (by decide) ?_
      have hret : (c k : Int) = c k := (by first | rfl | omega | (unfold bI; split <;> first | rfl | omega))
      exact fp_ret hx hb hr hlocks dX5_at_23 (congrArg (fun z : Int => Value.int (iI z)) hret)
theorem fl_X5_put_7 : Cond.fieldLink RX5 7 "FacingPlates$Row" "cells" "[I" ∈ wsX5_put := by decide +kernel
set_option maxHeartbeats 4000000 in
set_option maxRecDepth 100000 in
theorem c_X5_put (l : Launch) (D : va_G) (cyI : ClassId) (h : Nat) (a : Nat) (N : Nat) (c : Int → Int) (k : Int) (v : Int) (hk : 0 ≤ k ∧ k < N) (hn : N ≤ 2147483647) : fp_MW l yX5_put wsX5_put ({ frames := 0, cells := 0, slots := 0, locals := 0 } : Room) D cyI [(h, .inr (5, [.ref a])), (a, fA cyI N c)] [.ref h, .int (iI (k)), .int (iI (v))] (fun (u9 : Unit) => True) (fun (u9 : Unit) => none) (fun (u9 : Unit) => [(h, .inr (5, [.ref a])), (a, fA cyI N (upI c k v))]) := by
  refine fp_start (cc := cX5_put) (maxL := 3) (ret := none) (by decide) rfl (Nat.le_of_ble_eq_true rfl) ?_
  intro pg en sx mi ar bl mt cd ls hx hb hr hts hown hlocks hml hnm hP hK hD hl
  have hown : sx.vm.findClass RX5 = some mi.cls := hown
  have hl : lv_has ls 3 [(0, .ref h), (1, .int (iI (k))), (2, .int (iI (v)))] := hl
  have hD := fp_self hD
  have hS : va_S (fp_A [(h, .inr (5, [.ref a])), (a, fA cyI N c)]) sx.heap sx.heap [] := va_S.rf
  refine lv_iload_n hx hb dX5_put_0 rfl (lv_at hl 1 rfl) ?_
  refine fp_if_lt (tgt := 20) hx hb (by omega) dX5_put_1 (by decide) (fun q1 => ?_) (fun q1 => ?_)
  · skip
    have hP : va_P D vwCl [(h, .inr (5, [.ref a])), (a, fA cyI N (upI c k v))] sx.heap := by
      rw [(show (c : Int → Int) = upI c k v from (by first | rfl | (exfalso; omega))).symm]
      exact hP
    exact fp_wvret () hx hb hr hlocks hS hP trivial rfl dX5_put_20
  · skip
    refine lv_iload_n hx hb dX5_put_4 rfl (lv_at hl 1 rfl) ?_
    refine lv_aload_n hx hb dX5_put_5 rfl (lv_at hl 0 rfl) ?_
    refine va_get (D := D) (ci := 5) (ws := [(h, .inr (5, [.ref a])), (a, fA cyI N c)]) (v := .ref a) (C := RX5) (T := TX5) (N := 1) hx hb hts (fun _ h => List.mem_cons_of_mem _ (List.mem_append_right _ h)) hown hK.1 hP 0 rfl rfl 0 (by decide) (hts _ fl_X5_put_7) (fun _ h9 => h9) rfl dX5_put_6 ?_
    refine fp_alen (wsC := [(h, .inr (5, [.ref a])), (a, fA cyI N c)]) hx hb hK hP 1 rfl dX5_put_9 ?_
    refine fp_icmp_ge (tgt := 20) hx hb (by omega) dX5_put_10 (by decide) (fun q10 => ?_) (fun q10 => ?_)
    · skip
      have hP : va_P D vwCl [(h, .inr (5, [.ref a])), (a, fA cyI N (upI c k v))] sx.heap := by
        rw [(show (c : Int → Int) = upI c k v from (by first | rfl | (exfalso; omega))).symm]
        exact hP
      exact fp_wvret () hx hb hr hlocks hS hP trivial rfl dX5_put_20
    · skip
      refine lv_aload_n hx hb dX5_put_13 rfl (lv_at hl 0 rfl) ?_
      refine va_get (D := D) (ci := 5) (ws := [(h, .inr (5, [.ref a])), (a, fA cyI N c)]) (v := .ref a) (C := RX5) (T := TX5) (N := 1) hx hb hts (fun _ h => List.mem_cons_of_mem _ (List.mem_append_right _ h)) hown hK.1 hP 0 rfl rfl 0 (by decide) (hts _ fl_X5_put_7) (fun _ h9 => h9) rfl dX5_put_14 ?_
      refine lv_iload_n hx hb dX5_put_17 rfl (lv_at hl 1 rfl) ?_
      refine lv_iload_n hx hb dX5_put_18 rfl (lv_at hl 2 rfl) ?_
      refine fp_iast (wsC := [(h, .inr (5, [.ref a])), (a, fA cyI N c)]) hx hb hK hP hD hS 1 rfl (by omega) (by omega) dX5_put_19 (fun H locs hP hD hS => ?_)
      have hP : va_P D vwCl [(h, .inr (5, [.ref a])), (a, fA cyI N (upI (c) (k) (v)))] H := hP
      have hD : va_D (fp_A [(h, .inr (5, [.ref a])), (a, fA cyI N c)]) [(h, .inr (5, [.ref a])), (a, fA cyI N (upI (c) (k) (v)))] := hD
      have hP : va_P D vwCl [(h, .inr (5, [.ref a])), (a, fA cyI N (upI c k v))] H := by
        rw [(show (upI (c) (k) (v) : Int → Int) = upI c k v from (by first | rfl | (exfalso; omega))).symm]
        exact hP
      exact fp_wvret () hx hb hr hlocks hS hP trivial rfl dX5_put_20
theorem fl_X0_lots_16 : Cond.fieldLink RX0 16 "FacingPlates$Catalogue" "cells" "LFacingPlates$Row;" ∈ wsX0_lots := by decide +kernel
set_option maxHeartbeats 4000000 in
set_option maxRecDepth 100000 in
theorem c_X0_lots (l : Launch) (D : va_G) (cyI : ClassId) (h : Nat) (r : Nat) (a : Nat) (c : Int → Int) : fp_M l yX0_lots wsX0_lots ({ frames := 1, cells := 0, slots := 0, locals := 21 } : Room) D cyI [(h, .inr (0, [.ref r])), (r, .inr (5, [.ref a])), (a, fA cyI 54 c)] [.ref h] (some (.int (iI (c 0)))) := by
  refine fp_start (cc := cX0_lots) (maxL := 1) (ret := (some .int)) (by decide) rfl (Nat.le_of_ble_eq_true rfl) ?_
  intro pg en sx mi ar bl mt cd ls hx hb hr hts hown hlocks hml hnm hP hK hD hl
  have hown : sx.vm.findClass RX0 = some mi.cls := hown
  have hl : lv_has ls 1 [(0, .ref h)] := hl
  refine lv_aload_n hx hb dX0_lots_0 rfl (lv_at hl 0 rfl) ?_
  refine va_get (D := D) (ci := 0) (ws := [(h, .inr (0, [.ref r])), (r, .inr (5, [.ref a])), (a, fA cyI 54 c)]) (v := .ref r) (C := RX0) (T := TX0) (N := 1) hx hb hts (fun _ h => List.mem_cons_of_mem _ (List.mem_append_left _ (List.mem_append_right _ h))) hown hK.1 hP 0 rfl rfl 0 (by decide) (hts _ fl_X0_lots_16) (fun _ h9 => h9) rfl dX0_lots_1 ?_
  refine fp_iconst hx hb dX0_lots_4 ?_
  refine fp_pV (As := [.int (iI (0))]) (rest := []) (wsC := [(h, .inr (0, [.ref r])), (r, .inr (5, [.ref a])), (a, fA cyI 54 c)]) ⟨hx, hb, hml, hown, hts⟩ (c_X5_at l D cyI r a 54 c 0 (by omega) (by decide)) (cwV 1 hts gX0_lots_X5_at rfl rfl rfl (by decide +kernel) ⟨Nat.le_of_ble_eq_true rfl, Nat.le_of_ble_eq_true rfl⟩) hK hP hD [1, 2] (by decide) rfl rfl rfl rfl hl.1 rfl (Nat.le_of_ble_eq_true rfl) dX0_lots_5 ⟨Nat.zero_le _, Nat.zero_le _⟩ ?_
  have hret : (c 0 : Int) = c 0 := (by first | rfl | omega | (unfold bI; split <;> first | rfl | omega))
  exact fp_ret hx hb hr hlocks dX0_lots_8 (congrArg (fun z : Int => Value.int (iI z)) hret)
theorem fl_X0_text_16 : Cond.fieldLink RX0 16 "FacingPlates$Catalogue" "cells" "LFacingPlates$Row;" ∈ wsX0_text := by decide +kernel
set_option maxHeartbeats 4000000 in
set_option maxRecDepth 100000 in
theorem c_X0_text (l : Launch) (D : va_G) (cyI : ClassId) (h : Nat) (r : Nat) (a : Nat) (c : Int → Int) (k : Int) (hk : 0 ≤ k ∧ k < 12) : fp_M l yX0_text wsX0_text ({ frames := 1, cells := 0, slots := 0, locals := 21 } : Room) D cyI [(h, .inr (0, [.ref r])), (r, .inr (5, [.ref a])), (a, fA cyI 54 c)] [.ref h, .int (iI (k))] (some (.int (iI (c (k * 4 + 1))))) := by
  refine fp_start (cc := cX0_text) (maxL := 2) (ret := (some .int)) (by decide) rfl (Nat.le_of_ble_eq_true rfl) ?_
  intro pg en sx mi ar bl mt cd ls hx hb hr hts hown hlocks hml hnm hP hK hD hl
  have hown : sx.vm.findClass RX0 = some mi.cls := hown
  have hl : lv_has ls 2 [(0, .ref h), (1, .int (iI (k)))] := hl
  refine lv_aload_n hx hb dX0_text_0 rfl (lv_at hl 0 rfl) ?_
  refine va_get (D := D) (ci := 0) (ws := [(h, .inr (0, [.ref r])), (r, .inr (5, [.ref a])), (a, fA cyI 54 c)]) (v := .ref r) (C := RX0) (T := TX0) (N := 1) hx hb hts (fun _ h => List.mem_cons_of_mem _ (List.mem_append_left _ (List.mem_append_right _ h))) hown hK.1 hP 0 rfl rfl 0 (by decide) (hts _ fl_X0_text_16) (fun _ h9 => h9) rfl dX0_text_1 ?_
  refine lv_iload_n hx hb dX0_text_4 rfl (lv_at hl 1 rfl) ?_
  refine fp_iconst hx hb dX0_text_5 ?_
  refine fp_imul hx hb dX0_text_6 ?_
  refine fp_iconst hx hb dX0_text_7 ?_
  refine fp_iadd hx hb dX0_text_8 ?_
  refine fp_pV (As := [.int (iI ((k * 4) + 1))]) (rest := []) (wsC := [(h, .inr (0, [.ref r])), (r, .inr (5, [.ref a])), (a, fA cyI 54 c)]) ⟨hx, hb, hml, hown, hts⟩ (c_X5_at l D cyI r a 54 c ((k * 4) + 1) (by omega) (by decide)) (cwV 1 hts gX0_text_X5_at rfl rfl rfl (by decide +kernel) ⟨Nat.le_of_ble_eq_true rfl, Nat.le_of_ble_eq_true rfl⟩) hK hP hD [1, 2] (by decide) rfl rfl rfl rfl hl.1 rfl (Nat.le_of_ble_eq_true rfl) dX0_text_9 ⟨Nat.zero_le _, Nat.zero_le _⟩ ?_
  have hret : (c (k * 4 + 1) : Int) = c ((k * 4) + 1) := (by first | rfl | omega | (unfold bI; split <;> first | rfl | omega))
  exact fp_ret hx hb hr hlocks dX0_text_12 (congrArg (fun z : Int => Value.int (iI z)) hret)
theorem fl_X0_plate_16 : Cond.fieldLink RX0 16 "FacingPlates$Catalogue" "cells" "LFacingPlates$Row;" ∈ wsX0_plate := by decide +kernel
set_option maxHeartbeats 4000000 in
set_option maxRecDepth 100000 in
theorem c_X0_plate (l : Launch) (D : va_G) (cyI : ClassId) (h : Nat) (r : Nat) (a : Nat) (c : Int → Int) (k : Int) (hk : 0 ≤ k ∧ k < 12) : fp_M l yX0_plate wsX0_plate ({ frames := 1, cells := 0, slots := 0, locals := 21 } : Room) D cyI [(h, .inr (0, [.ref r])), (r, .inr (5, [.ref a])), (a, fA cyI 54 c)] [.ref h, .int (iI (k))] (some (.int (iI (c (k * 4 + 2))))) := by
  refine fp_start (cc := cX0_plate) (maxL := 2) (ret := (some .int)) (by decide) rfl (Nat.le_of_ble_eq_true rfl) ?_
  intro pg en sx mi ar bl mt cd ls hx hb hr hts hown hlocks hml hnm hP hK hD hl
  have hown : sx.vm.findClass RX0 = some mi.cls := hown
  have hl : lv_has ls 2 [(0, .ref h), (1, .int (iI (k)))] := hl
  refine lv_aload_n hx hb dX0_plate_0 rfl (lv_at hl 0 rfl) ?_
  refine va_get (D := D) (ci := 0) (ws := [(h, .inr (0, [.ref r])), (r, .inr (5, [.ref a])), (a, fA cyI 54 c)]) (v := .ref r) (C := RX0) (T := TX0) (N := 1) hx hb hts (fun _ h => List.mem_cons_of_mem _ (List.mem_append_left _ (List.mem_append_right _ h))) hown hK.1 hP 0 rfl rfl 0 (by decide) (hts _ fl_X0_plate_16) (fun _ h9 => h9) rfl dX0_plate_1 ?_
  refine lv_iload_n hx hb dX0_plate_4 rfl (lv_at hl 1 rfl) ?_
  refine fp_iconst hx hb dX0_plate_5 ?_
  refine fp_imul hx hb dX0_plate_6 ?_
  refine fp_iconst hx hb dX0_plate_7 ?_
  refine fp_iadd hx hb dX0_plate_8 ?_
  refine fp_pV (As := [.int (iI ((k * 4) + 2))]) (rest := []) (wsC := [(h, .inr (0, [.ref r])), (r, .inr (5, [.ref a])), (a, fA cyI 54 c)]) ⟨hx, hb, hml, hown, hts⟩ (c_X5_at l D cyI r a 54 c ((k * 4) + 2) (by omega) (by decide)) (cwV 1 hts gX0_plate_X5_at rfl rfl rfl (by decide +kernel) ⟨Nat.le_of_ble_eq_true rfl, Nat.le_of_ble_eq_true rfl⟩) hK hP hD [1, 2] (by decide) rfl rfl rfl rfl hl.1 rfl (Nat.le_of_ble_eq_true rfl) dX0_plate_9 ⟨Nat.zero_le _, Nat.zero_le _⟩ ?_
  have hret : (c (k * 4 + 2) : Int) = c ((k * 4) + 2) := (by first | rfl | omega | (unfold bI; split <;> first | rfl | omega))
  exact fp_ret hx hb hr hlocks dX0_plate_12 (congrArg (fun z : Int => Value.int (iI z)) hret)
theorem fl_X0_blank_16 : Cond.fieldLink RX0 16 "FacingPlates$Catalogue" "cells" "LFacingPlates$Row;" ∈ wsX0_blank := by decide +kernel
set_option maxHeartbeats 4000000 in
set_option maxRecDepth 100000 in
theorem c_X0_blank (l : Launch) (D : va_G) (cyI : ClassId) (h : Nat) (r : Nat) (a : Nat) (c : Int → Int) (k : Int) (hk : 0 ≤ k ∧ k < 12) : fp_M l yX0_blank wsX0_blank ({ frames := 1, cells := 0, slots := 0, locals := 21 } : Room) D cyI [(h, .inr (0, [.ref r])), (r, .inr (5, [.ref a])), (a, fA cyI 54 c)] [.ref h, .int (iI (k))] (some (.int (iI (c (k * 4 + 3))))) := by
  refine fp_start (cc := cX0_blank) (maxL := 2) (ret := (some .int)) (by decide) rfl (Nat.le_of_ble_eq_true rfl) ?_
  intro pg en sx mi ar bl mt cd ls hx hb hr hts hown hlocks hml hnm hP hK hD hl
  have hown : sx.vm.findClass RX0 = some mi.cls := hown
  have hl : lv_has ls 2 [(0, .ref h), (1, .int (iI (k)))] := hl
  refine lv_aload_n hx hb dX0_blank_0 rfl (lv_at hl 0 rfl) ?_
  refine va_get (D := D) (ci := 0) (ws := [(h, .inr (0, [.ref r])), (r, .inr (5, [.ref a])), (a, fA cyI 54 c)]) (v := .ref r) (C := RX0) (T := TX0) (N := 1) hx hb hts (fun _ h => List.mem_cons_of_mem _ (List.mem_append_left _ (List.mem_append_right _ h))) hown hK.1 hP 0 rfl rfl 0 (by decide) (hts _ fl_X0_blank_16) (fun _ h9 => h9) rfl dX0_blank_1 ?_
  refine lv_iload_n hx hb dX0_blank_4 rfl (lv_at hl 1 rfl) ?_
  refine fp_iconst hx hb dX0_blank_5 ?_
  refine fp_imul hx hb dX0_blank_6 ?_
  refine fp_iconst hx hb dX0_blank_7 ?_
  refine fp_iadd hx hb dX0_blank_8 ?_
  refine fp_pV (As := [.int (iI ((k * 4) + 3))]) (rest := []) (wsC := [(h, .inr (0, [.ref r])), (r, .inr (5, [.ref a])), (a, fA cyI 54 c)]) ⟨hx, hb, hml, hown, hts⟩ (c_X5_at l D cyI r a 54 c ((k * 4) + 3) (by omega) (by decide)) (cwV 1 hts gX0_blank_X5_at rfl rfl rfl (by decide +kernel) ⟨Nat.le_of_ble_eq_true rfl, Nat.le_of_ble_eq_true rfl⟩) hK hP hD [1, 2] (by decide) rfl rfl rfl rfl hl.1 rfl (Nat.le_of_ble_eq_true rfl) dX0_blank_9 ⟨Nat.zero_le _, Nat.zero_le _⟩ ?_
  have hret : (c (k * 4 + 3) : Int) = c ((k * 4) + 3) := (by first | rfl | omega | (unfold bI; split <;> first | rfl | omega))
  exact fp_ret hx hb hr hlocks dX0_blank_12 (congrArg (fun z : Int => Value.int (iI z)) hret)
theorem fl_X0_place_16 : Cond.fieldLink RX0 16 "FacingPlates$Catalogue" "cells" "LFacingPlates$Row;" ∈ wsX0_place := by decide +kernel
set_option maxHeartbeats 4000000 in
set_option maxRecDepth 100000 in
theorem c_X0_place (l : Launch) (D : va_G) (cyI : ClassId) (h : Nat) (r : Nat) (a : Nat) (c : Int → Int) (k : Int) (hk : 0 ≤ k ∧ k < 12) : fp_M l yX0_place wsX0_place ({ frames := 1, cells := 0, slots := 0, locals := 21 } : Room) D cyI [(h, .inr (0, [.ref r])), (r, .inr (5, [.ref a])), (a, fA cyI 54 c)] [.ref h, .int (iI (k))] (some (.int (iI (c (k * 4 + 4))))) := by
  refine fp_start (cc := cX0_place) (maxL := 2) (ret := (some .int)) (by decide) rfl (Nat.le_of_ble_eq_true rfl) ?_
  intro pg en sx mi ar bl mt cd ls hx hb hr hts hown hlocks hml hnm hP hK hD hl
  have hown : sx.vm.findClass RX0 = some mi.cls := hown
  have hl : lv_has ls 2 [(0, .ref h), (1, .int (iI (k)))] := hl
  refine lv_aload_n hx hb dX0_place_0 rfl (lv_at hl 0 rfl) ?_
  refine va_get (D := D) (ci := 0) (ws := [(h, .inr (0, [.ref r])), (r, .inr (5, [.ref a])), (a, fA cyI 54 c)]) (v := .ref r) (C := RX0) (T := TX0) (N := 1) hx hb hts (fun _ h => List.mem_cons_of_mem _ (List.mem_append_left _ (List.mem_append_right _ h))) hown hK.1 hP 0 rfl rfl 0 (by decide) (hts _ fl_X0_place_16) (fun _ h9 => h9) rfl dX0_place_1 ?_
  refine lv_iload_n hx hb dX0_place_4 rfl (lv_at hl 1 rfl) ?_
  refine fp_iconst hx hb dX0_place_5 ?_
  refine fp_imul hx hb dX0_place_6 ?_
  refine fp_iconst hx hb dX0_place_7 ?_
  refine fp_iadd hx hb dX0_place_8 ?_
  refine fp_pV (As := [.int (iI ((k * 4) + 4))]) (rest := []) (wsC := [(h, .inr (0, [.ref r])), (r, .inr (5, [.ref a])), (a, fA cyI 54 c)]) ⟨hx, hb, hml, hown, hts⟩ (c_X5_at l D cyI r a 54 c ((k * 4) + 4) (by omega) (by decide)) (cwV 1 hts gX0_place_X5_at rfl rfl rfl (by decide +kernel) ⟨Nat.le_of_ble_eq_true rfl, Nat.le_of_ble_eq_true rfl⟩) hK hP hD [1, 2] (by decide) rfl rfl rfl rfl hl.1 rfl (Nat.le_of_ble_eq_true rfl) dX0_place_9 ⟨Nat.zero_le _, Nat.zero_le _⟩ ?_
  have hret : (c (k * 4 + 4) : Int) = c ((k * 4) + 4) := (by first | rfl | omega | (unfold bI; split <;> first | rfl | omega))
  exact fp_ret hx hb hr hlocks dX0_place_12 (congrArg (fun z : Int => Value.int (iI z)) hret)
theorem fl_X0_setting_16 : Cond.fieldLink RX0 16 "FacingPlates$Catalogue" "cells" "LFacingPlates$Row;" ∈ wsX0_setting := by decide +kernel
set_option maxHeartbeats 4000000 in
set_option maxRecDepth 100000 in
theorem c_X0_setting (l : Launch) (D : va_G) (cyI : ClassId) (h : Nat) (r : Nat) (a : Nat) (c : Int → Int) (k : Int) (hk : 0 ≤ k ∧ k < 5) : fp_M l yX0_setting wsX0_setting ({ frames := 1, cells := 0, slots := 0, locals := 21 } : Room) D cyI [(h, .inr (0, [.ref r])), (r, .inr (5, [.ref a])), (a, fA cyI 54 c)] [.ref h, .int (iI (k))] (some (.int (iI (c (49 + k))))) := by
  refine fp_start (cc := cX0_setting) (maxL := 2) (ret := (some .int)) (by decide) rfl (Nat.le_of_ble_eq_true rfl) ?_
  intro pg en sx mi ar bl mt cd ls hx hb hr hts hown hlocks hml hnm hP hK hD hl
  have hown : sx.vm.findClass RX0 = some mi.cls := hown
  have hl : lv_has ls 2 [(0, .ref h), (1, .int (iI (k)))] := hl
  refine lv_aload_n hx hb dX0_setting_0 rfl (lv_at hl 0 rfl) ?_
  refine va_get (D := D) (ci := 0) (ws := [(h, .inr (0, [.ref r])), (r, .inr (5, [.ref a])), (a, fA cyI 54 c)]) (v := .ref r) (C := RX0) (T := TX0) (N := 1) hx hb hts (fun _ h => List.mem_cons_of_mem _ (List.mem_append_left _ (List.mem_append_right _ h))) hown hK.1 hP 0 rfl rfl 0 (by decide) (hts _ fl_X0_setting_16) (fun _ h9 => h9) rfl dX0_setting_1 ?_
  refine fp_bipush hx hb dX0_setting_4 (by decide) ?_
  refine lv_iload_n hx hb dX0_setting_6 rfl (lv_at hl 1 rfl) ?_
  refine fp_iadd hx hb dX0_setting_7 ?_
  refine fp_pV (As := [.int (iI (49 + k))]) (rest := []) (wsC := [(h, .inr (0, [.ref r])), (r, .inr (5, [.ref a])), (a, fA cyI 54 c)]) ⟨hx, hb, hml, hown, hts⟩ (c_X5_at l D cyI r a 54 c (49 + k) (by omega) (by decide)) (cwV 1 hts gX0_setting_X5_at rfl rfl rfl (by decide +kernel) ⟨Nat.le_of_ble_eq_true rfl, Nat.le_of_ble_eq_true rfl⟩) hK hP hD [1, 2] (by decide) rfl rfl rfl rfl hl.1 rfl (Nat.le_of_ble_eq_true rfl) dX0_setting_8 ⟨Nat.zero_le _, Nat.zero_le _⟩ ?_
  have hret : (c (49 + k) : Int) = c (49 + k) := (by first | rfl | omega | (unfold bI; split <;> first | rfl | omega))
  exact fp_ret hx hb hr hlocks dX0_setting_11 (congrArg (fun z : Int => Value.int (iI z)) hret)
theorem fl_X0_putSetting_16 : Cond.fieldLink RX0 16 "FacingPlates$Catalogue" "cells" "LFacingPlates$Row;" ∈ wsX0_putSetting := by decide +kernel
set_option maxHeartbeats 4000000 in
set_option maxRecDepth 100000 in
theorem c_X0_putSetting (l : Launch) (D : va_G) (cyI : ClassId) (h : Nat) (r : Nat) (a : Nat) (c : Int → Int) (k : Int) (v : Int) (hk : 0 ≤ k ∧ k < 5) : fp_MW l yX0_putSetting wsX0_putSetting ({ frames := 1, cells := 0, slots := 0, locals := 22 } : Room) D cyI [(h, .inr (0, [.ref r])), (r, .inr (5, [.ref a])), (a, fA cyI 54 c)] [.ref h, .int (iI (k)), .int (iI (v))] (fun (u9 : Unit) => True) (fun (u9 : Unit) => none) (fun (u9 : Unit) => [(h, .inr (0, [.ref r])), (r, .inr (5, [.ref a])), (a, fA cyI 54 (upI c (49 + k) v))]) := by
  refine fp_start (cc := cX0_putSetting) (maxL := 3) (ret := none) (by decide) rfl (Nat.le_of_ble_eq_true rfl) ?_
  intro pg en sx mi ar bl mt cd ls hx hb hr hts hown hlocks hml hnm hP hK hD hl
  have hown : sx.vm.findClass RX0 = some mi.cls := hown
  have hl : lv_has ls 3 [(0, .ref h), (1, .int (iI (k))), (2, .int (iI (v)))] := hl
  have hD := fp_self hD
  have hS : va_S (fp_A [(h, .inr (0, [.ref r])), (r, .inr (5, [.ref a])), (a, fA cyI 54 c)]) sx.heap sx.heap [] := va_S.rf
  refine lv_aload_n hx hb dX0_putSetting_0 rfl (lv_at hl 0 rfl) ?_
  refine va_get (D := D) (ci := 0) (ws := [(h, .inr (0, [.ref r])), (r, .inr (5, [.ref a])), (a, fA cyI 54 c)]) (v := .ref r) (C := RX0) (T := TX0) (N := 1) hx hb hts (fun _ h => List.mem_cons_of_mem _ (List.mem_append_left _ (List.mem_append_right _ h))) hown hK.1 hP 0 rfl rfl 0 (by decide) (hts _ fl_X0_putSetting_16) (fun _ h9 => h9) rfl dX0_putSetting_1 ?_
  refine fp_bipush hx hb dX0_putSetting_4 (by decide) ?_
  refine lv_iload_n hx hb dX0_putSetting_6 rfl (lv_at hl 1 rfl) ?_
  refine fp_iadd hx hb dX0_putSetting_7 ?_
  refine lv_iload_n hx hb dX0_putSetting_8 rfl (lv_at hl 2 rfl) ?_
  refine fp_wV (As := [.int (iI (49 + k)), .int (iI (v))]) (rest := []) (wsC := [(h, .inr (0, [.ref r])), (r, .inr (5, [.ref a])), (a, fA cyI 54 c)]) ⟨hx, hb, hml, hown, hts⟩ (c_X5_put l D cyI r a 54 c (49 + k) v (by omega) (by decide)) (cwV 2 hts gX0_putSetting_X5_put rfl rfl rfl (by decide +kernel) ⟨Nat.le_of_ble_eq_true rfl, Nat.le_of_ble_eq_true rfl⟩) (fun _ => rfl) hK hP hD hS [1, 2] (by decide) rfl rfl rfl rfl hl.1 rfl (Nat.le_of_ble_eq_true rfl) dX0_putSetting_9 ⟨Nat.zero_le _, Nat.zero_le _⟩ (fun u9v H locs hu hP hD hS => ?_)
  refine W.eq (g2 := F0 mi 12 ls []) rfl ?_
  have hP : va_P D vwCl [(h, .inr (0, [.ref r])), (r, .inr (5, [.ref a])), (a, fA cyI 54 (upI c (49 + k) v))] H := hP
  have hD : va_D (fp_A [(h, .inr (0, [.ref r])), (r, .inr (5, [.ref a])), (a, fA cyI 54 c)]) [(h, .inr (0, [.ref r])), (r, .inr (5, [.ref a])), (a, fA cyI 54 (upI c (49 + k) v))] := hD
  exact fp_wvret () hx hb hr hlocks hS hP trivial rfl dX0_putSetting_12
set_option maxHeartbeats 4000000 in
set_option maxRecDepth 100000 in
theorem c_X0_has (l : Launch) (D : va_G) (cyI : ClassId) (h : Nat) (r : Nat) (a : Nat) (c : Int → Int) (k : Int) (hk : -2147483648 ≤ k ∧ k ≤ 2147483647) (hc : 0 ≤ c 0 ∧ c 0 ≤ 12) : fp_M l yX0_has wsX0_has ({ frames := 2, cells := 0, slots := 0, locals := 41 } : Room) D cyI [(h, .inr (0, [.ref r])), (r, .inr (5, [.ref a])), (a, fA cyI 54 c)] [.ref h, .int (iI (k))] (some (.int (iI (bI (0 ≤ k ∧ k < c 0))))) := by
  refine fp_start (cc := cX0_has) (maxL := 2) (ret := (some .boolean)) (by decide) rfl (Nat.le_of_ble_eq_true rfl) ?_
  intro pg en sx mi ar bl mt cd ls hx hb hr hts hown hlocks hml hnm hP hK hD hl
  have hown : sx.vm.findClass RX0 = some mi.cls := hown
  have hl : lv_has ls 2 [(0, .ref h), (1, .int (iI (k)))] := hl
  refine lv_iload_n hx hb dX0_has_0 rfl (lv_at hl 1 rfl) ?_
  refine fp_if_lt (tgt := 16) hx hb (by omega) dX0_has_1 (by decide) (fun q1 => ?_) (fun q1 => ?_)
  · skip
    refine fp_iconst hx hb dX0_has_16 ?_
    have hret : (bI (0 ≤ k ∧ k < c 0) : Int) = 0 := (by first | rfl | omega | (unfold bI; split <;> first | rfl | omega))
    exact fp_zret hx hb hr hlocks (by first | exact Or.inl rfl | exact Or.inr rfl | exact bI_01 _ | omega) dX0_has_17 (congrArg (fun z : Int => Value.int (iI z)) hret)
  · skip
    refine lv_iload_n hx hb dX0_has_4 rfl (lv_at hl 1 rfl) ?_
    refine lv_aload_n hx hb dX0_has_5 rfl (lv_at hl 0 rfl) ?_
    refine fp_pV (As := []) (rest := [.int (iI (k))]) (wsC := [(h, .inr (0, [.ref r])), (r, .inr (5, [.ref a])), (a, fA cyI 54 c)]) ⟨hx, hb, hml, hown, hts⟩ (c_X0_lots l D cyI h r a c) (cwV 0 hts gX0_has_X0_lots rfl rfl rfl (by decide +kernel) ⟨Nat.le_of_ble_eq_true rfl, Nat.le_of_ble_eq_true rfl⟩) hK hP hD [0, 1, 2] (by decide) rfl rfl rfl rfl hl.1 rfl (Nat.le_of_ble_eq_true rfl) dX0_has_6 ⟨Nat.zero_le _, Nat.zero_le _⟩ ?_
    refine fp_icmp_ge (tgt := 16) hx hb (by omega) dX0_has_9 (by decide) (fun q9 => ?_) (fun q9 => ?_)
    · skip
      refine fp_iconst hx hb dX0_has_16 ?_
      have hret : (bI (0 ≤ k ∧ k < c 0) : Int) = 0 := (by first | rfl | omega | (unfold bI; split <;> first | rfl | omega))
      exact fp_zret hx hb hr hlocks (by first | exact Or.inl rfl | exact Or.inr rfl | exact bI_01 _ | omega) dX0_has_17 (congrArg (fun z : Int => Value.int (iI z)) hret)
    · skip
      refine fp_iconst hx hb dX0_has_12 ?_
      refine lv_goto (tgt := 17) hx hb dX0_has_13 (by decide) ?_
      have hret : (bI (0 ≤ k ∧ k < c 0) : Int) = 1 := (by first | rfl | omega | (unfold bI; split <;> first | rfl | omega))
      exact fp_zret hx hb hr hlocks (by first | exact Or.inl rfl | exact Or.inr rfl | exact bI_01 _ | omega) dX0_has_17 (congrArg (fun z : Int => Value.int (iI z)) hret)
