theorem fl_X2_gatherings_36 : Cond.fieldLink RX2 36 "FacingPlates$Layout" "gatherings" "I" ∈ wsX2_gatherings := by decide +kernel
set_option maxHeartbeats 4000000 in
set_option maxRecDepth 100000 in
theorem c_X2_gatherings (l : Launch) (D : va_G) (cyI : ClassId) (h : Nat) (ro : Nat) (rk : Nat) (rf : Nat) (rp : Nat) (size : Int) (laid : Int) (gath : Int) : fp_M l yX2_gatherings wsX2_gatherings ({ frames := 0, cells := 0, slots := 0, locals := 0 } : Room) D cyI [(h, .inr (2, [.ref ro, .ref rk, .ref rf, .ref rp, .int (iI (size)), .int (iI (laid)), .int (iI (gath))]))] [.ref h] (some (.int (iI (gath)))) := by
  refine fp_start (cc := cX2_gatherings) (maxL := 1) (ret := (some .int)) (by decide) rfl (Nat.le_of_ble_eq_true rfl) ?_
  intro pg en sx mi ar bl mt cd ls hx hb hr hts hown hlocks hml hnm hP hK hD hl
  have hown : sx.vm.findClass RX2 = some mi.cls := hown
  have hl : lv_has ls 1 [(0, .ref h)] := hl
  refine lv_aload_n hx hb dX2_gatherings_0 rfl (lv_at hl 0 rfl) ?_
  refine va_get (D := D) (ci := 2) (ws := [(h, .inr (2, [.ref ro, .ref rk, .ref rf, .ref rp, .int (iI (size)), .int (iI (laid)), .int (iI (gath))]))]) (v := .int (iI (gath))) (C := RX2) (T := TX2) (N := 7) hx hb hts (fun _ h => List.mem_cons_of_mem _ (List.mem_append_right _ h)) hown hK.1 hP 0 rfl rfl 6 (by decide) (hts _ fl_X2_gatherings_36) (fun _ h9 => h9) rfl dX2_gatherings_1 ?_
  have hret : (gath : Int) = gath := (by first | rfl | omega | (unfold bI; split <;> first | rfl | omega))
  exact fp_ret hx hb hr hlocks dX2_gatherings_4 (congrArg (fun z : Int => Value.int (iI z)) hret)
theorem fl_X2_allPages_33 : Cond.fieldLink RX2 33 "FacingPlates$Layout" "laid" "I" ∈ wsX2_allPages := by decide +kernel
set_option maxHeartbeats 4000000 in
set_option maxRecDepth 100000 in
theorem c_X2_allPages (l : Launch) (D : va_G) (cyI : ClassId) (h : Nat) (ro : Nat) (rk : Nat) (rf : Nat) (rp : Nat) (size : Int) (laid : Int) (gath : Int) : fp_M l yX2_allPages wsX2_allPages ({ frames := 0, cells := 0, slots := 0, locals := 0 } : Room) D cyI [(h, .inr (2, [.ref ro, .ref rk, .ref rf, .ref rp, .int (iI (size)), .int (iI (laid)), .int (iI (gath))]))] [.ref h] (some (.int (iI (laid)))) := by
  refine fp_start (cc := cX2_allPages) (maxL := 1) (ret := (some .int)) (by decide) rfl (Nat.le_of_ble_eq_true rfl) ?_
  intro pg en sx mi ar bl mt cd ls hx hb hr hts hown hlocks hml hnm hP hK hD hl
  have hown : sx.vm.findClass RX2 = some mi.cls := hown
  have hl : lv_has ls 1 [(0, .ref h)] := hl
  refine lv_aload_n hx hb dX2_allPages_0 rfl (lv_at hl 0 rfl) ?_
  refine va_get (D := D) (ci := 2) (ws := [(h, .inr (2, [.ref ro, .ref rk, .ref rf, .ref rp, .int (iI (size)), .int (iI (laid)), .int (iI (gath))]))]) (v := .int (iI (laid))) (C := RX2) (T := TX2) (N := 7) hx hb hts (fun _ h => List.mem_cons_of_mem _ (List.mem_append_right _ h)) hown hK.1 hP 0 rfl rfl 5 (by decide) (hts _ fl_X2_allPages_33) (fun _ h9 => h9) rfl dX2_allPages_1 ?_
  have hret : (laid : Int) = laid := (by first | rfl | omega | (unfold bI; split <;> first | rfl | omega))
  exact fp_ret hx hb hr hlocks dX2_allPages_4 (congrArg (fun z : Int => Value.int (iI z)) hret)
theorem fl_X2_hasPage_33 : Cond.fieldLink RX2 33 "FacingPlates$Layout" "laid" "I" ∈ wsX2_hasPage := by decide +kernel
set_option maxHeartbeats 4000000 in
set_option maxRecDepth 100000 in
theorem c_X2_hasPage (l : Launch) (D : va_G) (cyI : ClassId) (h : Nat) (ro : Nat) (rk : Nat) (rf : Nat) (rp : Nat) (size : Int) (laid : Int) (gath : Int) (q : Int) (hq : -2147483648 ≤ q ∧ q ≤ 2147483647) (hl0 : 0 ≤ laid ∧ laid ≤ 64) : fp_M l yX2_hasPage wsX2_hasPage ({ frames := 0, cells := 0, slots := 0, locals := 0 } : Room) D cyI [(h, .inr (2, [.ref ro, .ref rk, .ref rf, .ref rp, .int (iI (size)), .int (iI (laid)), .int (iI (gath))]))] [.ref h, .int (iI (q))] (some (.int (iI (bI (1 ≤ q ∧ q ≤ laid))))) := by
  refine fp_start (cc := cX2_hasPage) (maxL := 2) (ret := (some .boolean)) (by decide) rfl (Nat.le_of_ble_eq_true rfl) ?_
  intro pg en sx mi ar bl mt cd ls hx hb hr hts hown hlocks hml hnm hP hK hD hl
  have hown : sx.vm.findClass RX2 = some mi.cls := hown
  have hl : lv_has ls 2 [(0, .ref h), (1, .int (iI (q)))] := hl
  refine lv_iload_n hx hb dX2_hasPage_0 rfl (lv_at hl 1 rfl) ?_
  refine fp_iconst hx hb dX2_hasPage_1 ?_
  refine fp_icmp_lt (tgt := 17) hx hb (by omega) dX2_hasPage_2 (by decide) (fun q2 => ?_) (fun q2 => ?_)
  · skip
    refine fp_iconst hx hb dX2_hasPage_17 ?_
    have hret : (bI (1 ≤ q ∧ q ≤ laid) : Int) = 0 := (by first | rfl | omega | (unfold bI; split <;> first | rfl | omega))
    exact fp_zret hx hb hr hlocks (by first | exact Or.inl rfl | exact Or.inr rfl | exact bI_01 _ | omega) dX2_hasPage_18 (congrArg (fun z : Int => Value.int (iI z)) hret)
  · skip
    refine lv_iload_n hx hb dX2_hasPage_5 rfl (lv_at hl 1 rfl) ?_
    refine lv_aload_n hx hb dX2_hasPage_6 rfl (lv_at hl 0 rfl) ?_
    refine va_get (D := D) (ci := 2) (ws := [(h, .inr (2, [.ref ro, .ref rk, .ref rf, .ref rp, .int (iI (size)), .int (iI (laid)), .int (iI (gath))]))]) (v := .int (iI (laid))) (C := RX2) (T := TX2) (N := 7) hx hb hts (fun _ h => List.mem_cons_of_mem _ (List.mem_append_right _ h)) hown hK.1 hP 0 rfl rfl 5 (by decide) (hts _ fl_X2_hasPage_33) (fun _ h9 => h9) rfl dX2_hasPage_7 ?_
    refine fp_icmp_gt (tgt := 17) hx hb (by omega) dX2_hasPage_10 (by decide) (fun q10 => ?_) (fun q10 => ?_)
    · skip
      refine fp_iconst hx hb dX2_hasPage_17 ?_
      have hret : (bI (1 ≤ q ∧ q ≤ laid) : Int) = 0 := (by first | rfl | omega | (unfold bI; split <;> first | rfl | omega))
      exact fp_zret hx hb hr hlocks (by first | exact Or.inl rfl | exact Or.inr rfl | exact bI_01 _ | omega) dX2_hasPage_18 (congrArg (fun z : Int => Value.int (iI z)) hret)
    · skip
      refine fp_iconst hx hb dX2_hasPage_13 ?_
      refine lv_goto (tgt := 18) hx hb dX2_hasPage_14 (by decide) ?_
      have hret : (bI (1 ≤ q ∧ q ≤ laid) : Int) = 1 := (by first | rfl | omega | (unfold bI; split <;> first | rfl | omega))
      exact fp_zret hx hb hr hlocks (by first | exact Or.inl rfl | exact Or.inr rfl | exact bI_01 _ | omega) dX2_hasPage_18 (congrArg (fun z : Int => Value.int (iI z)) hret)
theorem fl_X2_owner_14 : Cond.fieldLink RX2 14 "FacingPlates$Layout" "owners" "LFacingPlates$Row;" ∈ wsX2_owner := by decide +kernel
set_option maxHeartbeats 4000000 in
set_option maxRecDepth 100000 in
theorem c_X2_owner (l : Launch) (D : va_G) (cyI : ClassId) (h : Nat) (ro : Nat) (rk : Nat) (rf : Nat) (rp : Nat) (size : Int) (laid : Int) (gath : Int) (ao : Nat) (o : Int → Int) (q : Int) (hq : 0 ≤ q ∧ q ≤ 64) : fp_M l yX2_owner wsX2_owner ({ frames := 1, cells := 0, slots := 0, locals := 21 } : Room) D cyI [(h, .inr (2, [.ref ro, .ref rk, .ref rf, .ref rp, .int (iI (size)), .int (iI (laid)), .int (iI (gath))])), (ro, .inr (5, [.ref ao])), (ao, fA cyI 65 o)] [.ref h, .int (iI (q))] (some (.int (iI (o q)))) := by
  refine fp_start (cc := cX2_owner) (maxL := 2) (ret := (some .int)) (by decide) rfl (Nat.le_of_ble_eq_true rfl) ?_
  intro pg en sx mi ar bl mt cd ls hx hb hr hts hown hlocks hml hnm hP hK hD hl
  have hown : sx.vm.findClass RX2 = some mi.cls := hown
  have hl : lv_has ls 2 [(0, .ref h), (1, .int (iI (q)))] := hl
  refine lv_aload_n hx hb dX2_owner_0 rfl (lv_at hl 0 rfl) ?_
  refine va_get (D := D) (ci := 2) (ws := [(h, .inr (2, [.ref ro, .ref rk, .ref rf, .ref rp, .int (iI (size)), .int (iI (laid)), .int (iI (gath))])), (ro, .inr (5, [.ref ao])), (ao, fA cyI 65 o)]) (v := .ref ro) (C := RX2) (T := TX2) (N := 7) hx hb hts (fun _ h => List.mem_cons_of_mem _ (List.mem_append_left _ (List.mem_append_right _ h))) hown hK.1 hP 0 rfl rfl 0 (by decide) (hts _ fl_X2_owner_14) (fun _ h9 => h9) rfl dX2_owner_1 ?_
  refine lv_iload_n hx hb dX2_owner_4 rfl (lv_at hl 1 rfl) ?_
  refine fp_pV (As := [.int (iI (q))]) (rest := []) (wsC := [(h, .inr (2, [.ref ro, .ref rk, .ref rf, .ref rp, .int (iI (size)), .int (iI (laid)), .int (iI (gath))])), (ro, .inr (5, [.ref ao])), (ao, fA cyI 65 o)]) ⟨hx, hb, hml, hown, hts⟩ (c_X5_at l D cyI ro ao 65 o q (by omega) (by decide)) (cwV 1 hts gX2_owner_X5_at rfl rfl rfl (by decide +kernel) ⟨Nat.le_of_ble_eq_true rfl, Nat.le_of_ble_eq_true rfl⟩) hK hP hD [1, 2] (by decide) rfl rfl rfl rfl hl.1 rfl (Nat.le_of_ble_eq_true rfl) dX2_owner_5 ⟨Nat.zero_le _, Nat.zero_le _⟩ ?_
  have hret : (o q : Int) = o q := (by first | rfl | omega | (unfold bI; split <;> first | rfl | omega))
  exact fp_ret hx hb hr hlocks dX2_owner_8 (congrArg (fun z : Int => Value.int (iI z)) hret)
theorem fl_X2_kind_20 : Cond.fieldLink RX2 20 "FacingPlates$Layout" "kinds" "LFacingPlates$Row;" ∈ wsX2_kind := by decide +kernel
set_option maxHeartbeats 4000000 in
set_option maxRecDepth 100000 in
theorem c_X2_kind (l : Launch) (D : va_G) (cyI : ClassId) (h : Nat) (ro : Nat) (rk : Nat) (rf : Nat) (rp : Nat) (size : Int) (laid : Int) (gath : Int) (ak : Nat) (kd : Int → Int) (q : Int) (hq : 0 ≤ q ∧ q ≤ 64) : fp_M l yX2_kind wsX2_kind ({ frames := 1, cells := 0, slots := 0, locals := 21 } : Room) D cyI [(h, .inr (2, [.ref ro, .ref rk, .ref rf, .ref rp, .int (iI (size)), .int (iI (laid)), .int (iI (gath))])), (rk, .inr (5, [.ref ak])), (ak, fA cyI 65 kd)] [.ref h, .int (iI (q))] (some (.int (iI (kd q)))) := by
  refine fp_start (cc := cX2_kind) (maxL := 2) (ret := (some .int)) (by decide) rfl (Nat.le_of_ble_eq_true rfl) ?_
  intro pg en sx mi ar bl mt cd ls hx hb hr hts hown hlocks hml hnm hP hK hD hl
  have hown : sx.vm.findClass RX2 = some mi.cls := hown
  have hl : lv_has ls 2 [(0, .ref h), (1, .int (iI (q)))] := hl
  refine lv_aload_n hx hb dX2_kind_0 rfl (lv_at hl 0 rfl) ?_
  refine va_get (D := D) (ci := 2) (ws := [(h, .inr (2, [.ref ro, .ref rk, .ref rf, .ref rp, .int (iI (size)), .int (iI (laid)), .int (iI (gath))])), (rk, .inr (5, [.ref ak])), (ak, fA cyI 65 kd)]) (v := .ref rk) (C := RX2) (T := TX2) (N := 7) hx hb hts (fun _ h => List.mem_cons_of_mem _ (List.mem_append_left _ (List.mem_append_right _ h))) hown hK.1 hP 0 rfl rfl 1 (by decide) (hts _ fl_X2_kind_20) (fun _ h9 => h9) rfl dX2_kind_1 ?_
  refine lv_iload_n hx hb dX2_kind_4 rfl (lv_at hl 1 rfl) ?_
  refine fp_pV (As := [.int (iI (q))]) (rest := []) (wsC := [(h, .inr (2, [.ref ro, .ref rk, .ref rf, .ref rp, .int (iI (size)), .int (iI (laid)), .int (iI (gath))])), (rk, .inr (5, [.ref ak])), (ak, fA cyI 65 kd)]) ⟨hx, hb, hml, hown, hts⟩ (c_X5_at l D cyI rk ak 65 kd q (by omega) (by decide)) (cwV 1 hts gX2_kind_X5_at rfl rfl rfl (by decide +kernel) ⟨Nat.le_of_ble_eq_true rfl, Nat.le_of_ble_eq_true rfl⟩) hK hP hD [1, 2] (by decide) rfl rfl rfl rfl hl.1 rfl (Nat.le_of_ble_eq_true rfl) dX2_kind_5 ⟨Nat.zero_le _, Nat.zero_le _⟩ ?_
  have hret : (kd q : Int) = kd q := (by first | rfl | omega | (unfold bI; split <;> first | rfl | omega))
  exact fp_ret hx hb hr hlocks dX2_kind_8 (congrArg (fun z : Int => Value.int (iI z)) hret)
theorem fl_X2_firstPage_23 : Cond.fieldLink RX2 23 "FacingPlates$Layout" "firstPages" "LFacingPlates$Row;" ∈ wsX2_firstPage := by decide +kernel
set_option maxHeartbeats 4000000 in
set_option maxRecDepth 100000 in
theorem c_X2_firstPage (l : Launch) (D : va_G) (cyI : ClassId) (h : Nat) (ro : Nat) (rk : Nat) (rf : Nat) (rp : Nat) (size : Int) (laid : Int) (gath : Int) (af : Nat) (f : Int → Int) (q : Int) (hq : 0 ≤ q ∧ q < 12) : fp_M l yX2_firstPage wsX2_firstPage ({ frames := 1, cells := 0, slots := 0, locals := 21 } : Room) D cyI [(h, .inr (2, [.ref ro, .ref rk, .ref rf, .ref rp, .int (iI (size)), .int (iI (laid)), .int (iI (gath))])), (rf, .inr (5, [.ref af])), (af, fA cyI 12 f)] [.ref h, .int (iI (q))] (some (.int (iI (f q)))) := by
  refine fp_start (cc := cX2_firstPage) (maxL := 2) (ret := (some .int)) (by decide) rfl (Nat.le_of_ble_eq_true rfl) ?_
  intro pg en sx mi ar bl mt cd ls hx hb hr hts hown hlocks hml hnm hP hK hD hl
  have hown : sx.vm.findClass RX2 = some mi.cls := hown
  have hl : lv_has ls 2 [(0, .ref h), (1, .int (iI (q)))] := hl
  refine lv_aload_n hx hb dX2_firstPage_0 rfl (lv_at hl 0 rfl) ?_
  refine va_get (D := D) (ci := 2) (ws := [(h, .inr (2, [.ref ro, .ref rk, .ref rf, .ref rp, .int (iI (size)), .int (iI (laid)), .int (iI (gath))])), (rf, .inr (5, [.ref af])), (af, fA cyI 12 f)]) (v := .ref rf) (C := RX2) (T := TX2) (N := 7) hx hb hts (fun _ h => List.mem_cons_of_mem _ (List.mem_append_left _ (List.mem_append_right _ h))) hown hK.1 hP 0 rfl rfl 2 (by decide) (hts _ fl_X2_firstPage_23) (fun _ h9 => h9) rfl dX2_firstPage_1 ?_
  refine lv_iload_n hx hb dX2_firstPage_4 rfl (lv_at hl 1 rfl) ?_
  refine fp_pV (As := [.int (iI (q))]) (rest := []) (wsC := [(h, .inr (2, [.ref ro, .ref rk, .ref rf, .ref rp, .int (iI (size)), .int (iI (laid)), .int (iI (gath))])), (rf, .inr (5, [.ref af])), (af, fA cyI 12 f)]) ⟨hx, hb, hml, hown, hts⟩ (c_X5_at l D cyI rf af 12 f q (by omega) (by decide)) (cwV 1 hts gX2_firstPage_X5_at rfl rfl rfl (by decide +kernel) ⟨Nat.le_of_ble_eq_true rfl, Nat.le_of_ble_eq_true rfl⟩) hK hP hD [1, 2] (by decide) rfl rfl rfl rfl hl.1 rfl (Nat.le_of_ble_eq_true rfl) dX2_firstPage_5 ⟨Nat.zero_le _, Nat.zero_le _⟩ ?_
  have hret : (f q : Int) = f q := (by first | rfl | omega | (unfold bI; split <;> first | rfl | omega))
  exact fp_ret hx hb hr hlocks dX2_firstPage_8 (congrArg (fun z : Int => Value.int (iI z)) hret)
theorem fl_X2_platePage_26 : Cond.fieldLink RX2 26 "FacingPlates$Layout" "platePages" "LFacingPlates$Row;" ∈ wsX2_platePage := by decide +kernel
set_option maxHeartbeats 4000000 in
set_option maxRecDepth 100000 in
theorem c_X2_platePage (l : Launch) (D : va_G) (cyI : ClassId) (h : Nat) (ro : Nat) (rk : Nat) (rf : Nat) (rp : Nat) (size : Int) (laid : Int) (gath : Int) (ap : Nat) (g : Int → Int) (q : Int) (hq : 0 ≤ q ∧ q < 12) : fp_M l yX2_platePage wsX2_platePage ({ frames := 1, cells := 0, slots := 0, locals := 21 } : Room) D cyI [(h, .inr (2, [.ref ro, .ref rk, .ref rf, .ref rp, .int (iI (size)), .int (iI (laid)), .int (iI (gath))])), (rp, .inr (5, [.ref ap])), (ap, fA cyI 12 g)] [.ref h, .int (iI (q))] (some (.int (iI (g q)))) := by
  refine fp_start (cc := cX2_platePage) (maxL := 2) (ret := (some .int)) (by decide) rfl (Nat.le_of_ble_eq_true rfl) ?_
  intro pg en sx mi ar bl mt cd ls hx hb hr hts hown hlocks hml hnm hP hK hD hl
  have hown : sx.vm.findClass RX2 = some mi.cls := hown
  have hl : lv_has ls 2 [(0, .ref h), (1, .int (iI (q)))] := hl
  refine lv_aload_n hx hb dX2_platePage_0 rfl (lv_at hl 0 rfl) ?_
  refine va_get (D := D) (ci := 2) (ws := [(h, .inr (2, [.ref ro, .ref rk, .ref rf, .ref rp, .int (iI (size)), .int (iI (laid)), .int (iI (gath))])), (rp, .inr (5, [.ref ap])), (ap, fA cyI 12 g)]) (v := .ref rp) (C := RX2) (T := TX2) (N := 7) hx hb hts (fun _ h => List.mem_cons_of_mem _ (List.mem_append_left _ (List.mem_append_right _ h))) hown hK.1 hP 0 rfl rfl 3 (by decide) (hts _ fl_X2_platePage_26) (fun _ h9 => h9) rfl dX2_platePage_1 ?_
  refine lv_iload_n hx hb dX2_platePage_4 rfl (lv_at hl 1 rfl) ?_
  refine fp_pV (As := [.int (iI (q))]) (rest := []) (wsC := [(h, .inr (2, [.ref ro, .ref rk, .ref rf, .ref rp, .int (iI (size)), .int (iI (laid)), .int (iI (gath))])), (rp, .inr (5, [.ref ap])), (ap, fA cyI 12 g)]) ⟨hx, hb, hml, hown, hts⟩ (c_X5_at l D cyI rp ap 12 g q (by omega) (by decide)) (cwV 1 hts gX2_platePage_X5_at rfl rfl rfl (by decide +kernel) ⟨Nat.le_of_ble_eq_true rfl, Nat.le_of_ble_eq_true rfl⟩) hK hP hD [1, 2] (by decide) rfl rfl rfl rfl hl.1 rfl (Nat.le_of_ble_eq_true rfl) dX2_platePage_5 ⟨Nat.zero_le _, Nat.zero_le _⟩ ?_
  have hret : (g q : Int) = g q := (by first | rfl | omega | (unfold bI; split <;> first | rfl | omega))
  exact fp_ret hx hb hr hlocks dX2_platePage_8 (congrArg (fun z : Int => Value.int (iI z)) hret)
theorem fl_X2_gatheringOf_29 : Cond.fieldLink RX2 29 "FacingPlates$Layout" "size" "I" ∈ wsX2_gatheringOf := by decide +kernel
theorem ini_X2_gatheringOf_X7 : Cond.initialized RX7 ∈ wsX2_gatheringOf := by decide +kernel
theorem stt_X2_gatheringOf_X7_gatheringOfPage : Cond.static yX7_gatheringOfPage ∈ wsX2_gatheringOf := by decide +kernel
set_option maxHeartbeats 4000000 in
set_option maxRecDepth 100000 in
theorem c_X2_gatheringOf (l : Launch) (D : va_G) (cyI : ClassId) (h : Nat) (ro : Nat) (rk : Nat) (rf : Nat) (rp : Nat) (size : Int) (laid : Int) (gath : Int) (q : Int) (hg : size = 4 ∨ size = 8 ∨ size = 16) (hq : 1 ≤ q ∧ q ≤ 10000) : fp_M l yX2_gatheringOf wsX2_gatheringOf ({ frames := 1, cells := 0, slots := 0, locals := 21 } : Room) D cyI [(h, .inr (2, [.ref ro, .ref rk, .ref rf, .ref rp, .int (iI (size)), .int (iI (laid)), .int (iI (gath))]))] [.ref h, .int (iI (q))] (some (.int (iI ((q - 1) / size)))) := by
  refine fp_start (cc := cX2_gatheringOf) (maxL := 2) (ret := (some .int)) (by decide) rfl (Nat.le_of_ble_eq_true rfl) ?_
  intro pg en sx mi ar bl mt cd ls hx hb hr hts hown hlocks hml hnm hP hK hD hl
  have hown : sx.vm.findClass RX2 = some mi.cls := hown
  have hl : lv_has ls 2 [(0, .ref h), (1, .int (iI (q)))] := hl
  refine lv_iload_n hx hb dX2_gatheringOf_0 rfl (lv_at hl 1 rfl) ?_
  refine lv_aload_n hx hb dX2_gatheringOf_1 rfl (lv_at hl 0 rfl) ?_
  refine va_get (D := D) (ci := 2) (ws := [(h, .inr (2, [.ref ro, .ref rk, .ref rf, .ref rp, .int (iI (size)), .int (iI (laid)), .int (iI (gath))]))]) (v := .int (iI (size))) (C := RX2) (T := TX2) (N := 7) hx hb hts (fun _ h => List.mem_cons_of_mem _ (List.mem_append_right _ h)) hown hK.1 hP 0 rfl rfl 4 (by decide) (hts _ fl_X2_gatheringOf_29) (fun _ h9 => h9) rfl dX2_gatheringOf_2 ?_
  refine fp_pSN (As := [.int (iI (q)), .int (iI (size))]) (rest := []) (wsC := [(h, .inr (2, [.ref ro, .ref rk, .ref rf, .ref rp, .int (iI (size)), .int (iI (laid)), .int (iI (gath))]))]) ⟨hx, hb, hml, hown, hts⟩ (c_X7_gatheringOfPage l D cyI q size hg (by omega)) ⟨va_cnB 2 hts gX2_gatheringOf_X7_gatheringOfPage_n79 rfl rfl rfl hK.2.2.2.2.2.2.2 (hts _ ini_X2_gatheringOf_X7) (by decide +kernel) ⟨Nat.le_of_ble_eq_true rfl, Nat.le_of_ble_eq_true rfl⟩, (hts _ stt_X2_gatheringOf_X7_gatheringOfPage), trivial⟩ hK hP hD [] (by decide) rfl rfl hl.1 rfl (Nat.le_of_ble_eq_true rfl) dX2_gatheringOf_5 ⟨Nat.zero_le _, Nat.zero_le _⟩ ?_
  have hret : ((q - 1) / size : Int) = (q - 1) / size := (by first | rfl | omega | (unfold bI; split <;> first | rfl | omega))
  exact fp_ret hx hb hr hlocks dX2_gatheringOf_8 (congrArg (fun z : Int => Value.int (iI z)) hret)
theorem fl_X2_otherPage_33 : Cond.fieldLink RX2 33 "FacingPlates$Layout" "laid" "I" ∈ wsX2_otherPage := by decide +kernel
set_option maxHeartbeats 4000000 in
set_option maxRecDepth 100000 in
theorem c_X2_otherPage (l : Launch) (D : va_G) (cyI : ClassId) (h : Nat) (ro : Nat) (rk : Nat) (rf : Nat) (rp : Nat) (size : Int) (laid : Int) (gath : Int) (q : Int) (hq : 0 ≤ q ∧ q ≤ 64) (hl0 : 0 ≤ laid ∧ laid ≤ 64) : fp_M l yX2_otherPage wsX2_otherPage ({ frames := 0, cells := 0, slots := 0, locals := 0 } : Room) D cyI [(h, .inr (2, [.ref ro, .ref rk, .ref rf, .ref rp, .int (iI (size)), .int (iI (laid)), .int (iI (gath))]))] [.ref h, .int (iI (q))] (some (.int (iI (othI q laid)))) := by
  refine fp_start (cc := cX2_otherPage) (maxL := 2) (ret := (some .int)) (by decide) rfl (Nat.le_of_ble_eq_true rfl) ?_
  intro pg en sx mi ar bl mt cd ls hx hb hr hts hown hlocks hml hnm hP hK hD hl
  have hown : sx.vm.findClass RX2 = some mi.cls := hown
  have hl : lv_has ls 2 [(0, .ref h), (1, .int (iI (q)))] := hl
  refine lv_iload_n hx hb dX2_otherPage_0 rfl (lv_at hl 1 rfl) ?_
  refine fp_iconst hx hb dX2_otherPage_1 ?_
  refine fp_icmp_le (tgt := 13) hx hb (by omega) dX2_otherPage_2 (by decide) (fun q2 => ?_) (fun q2 => ?_)
  · skip
    refine fp_bipush hx hb dX2_otherPage_13 (by decide) ?_
    have hret : (othI q laid : Int) = (-5) := (by unfold othI; first | rw [if_pos (by omega)] | rw [if_neg (by omega), if_pos (by omega)] | rw [if_neg (by omega), if_neg (by omega)])
    exact fp_ret hx hb hr hlocks dX2_otherPage_15 (congrArg (fun z : Int => Value.int (iI z)) hret)
  · skip
    refine lv_iload_n hx hb dX2_otherPage_5 rfl (lv_at hl 1 rfl) ?_
    refine lv_aload_n hx hb dX2_otherPage_6 rfl (lv_at hl 0 rfl) ?_
    refine va_get (D := D) (ci := 2) (ws := [(h, .inr (2, [.ref ro, .ref rk, .ref rf, .ref rp, .int (iI (size)), .int (iI (laid)), .int (iI (gath))]))]) (v := .int (iI (laid))) (C := RX2) (T := TX2) (N := 7) hx hb hts (fun _ h => List.mem_cons_of_mem _ (List.mem_append_right _ h)) hown hK.1 hP 0 rfl rfl 5 (by decide) (hts _ fl_X2_otherPage_33) (fun _ h9 => h9) rfl dX2_otherPage_7 ?_
    refine fp_icmp_lt (tgt := 16) hx hb (by omega) dX2_otherPage_10 (by decide) (fun q10 => ?_) (fun q10 => ?_)
    · skip
      refine lv_iload_n hx hb dX2_otherPage_16 rfl (lv_at hl 1 rfl) ?_
      refine fp_iconst hx hb dX2_otherPage_17 ?_
      refine fp_and1 hx hb (by omega) dX2_otherPage_18 ?_
      refine fp_if_ne (tgt := 28) hx hb (by omega) dX2_otherPage_19 (by decide) (fun q19 => ?_) (fun q19 => ?_)
      · skip
        refine lv_iload_n hx hb dX2_otherPage_28 rfl (lv_at hl 1 rfl) ?_
        refine fp_iconst hx hb dX2_otherPage_29 ?_
        refine fp_isub hx hb dX2_otherPage_30 ?_
        have hret : (othI q laid : Int) = q - 1 := (by unfold othI; first | rw [if_pos (by omega)] | rw [if_neg (by omega), if_pos (by omega)] | rw [if_neg (by omega), if_neg (by omega)])
        exact fp_ret hx hb hr hlocks dX2_otherPage_31 (congrArg (fun z : Int => Value.int (iI z)) hret)
      · skip
        refine lv_iload_n hx hb dX2_otherPage_22 rfl (lv_at hl 1 rfl) ?_
        refine fp_iconst hx hb dX2_otherPage_23 ?_
        refine fp_iadd hx hb dX2_otherPage_24 ?_
        refine lv_goto (tgt := 31) hx hb dX2_otherPage_25 (by decide) ?_
        have hret : (othI q laid : Int) = q + 1 := (by unfold othI; first | rw [if_pos (by omega)] | rw [if_neg (by omega), if_pos (by omega)] | rw [if_neg (by omega), if_neg (by omega)])
        exact fp_ret hx hb hr hlocks dX2_otherPage_31 (congrArg (fun z : Int => Value.int (iI z)) hret)
    · skip
      refine fp_bipush hx hb dX2_otherPage_13 (by decide) ?_
      have hret : (othI q laid : Int) = (-5) := (by unfold othI; first | rw [if_pos (by omega)] | rw [if_neg (by omega), if_pos (by omega)] | rw [if_neg (by omega), if_neg (by omega)])
      exact fp_ret hx hb hr hlocks dX2_otherPage_15 (congrArg (fun z : Int => Value.int (iI z)) hret)
set_option maxHeartbeats 4000000 in
set_option maxRecDepth 100000 in
theorem c_X2_isBlank (l : Launch) (D : va_G) (cyI : ClassId) (h : Nat) (ro : Nat) (rk : Nat) (rf : Nat) (rp : Nat) (size : Int) (laid : Int) (gath : Int) (ak : Nat) (kd : Int → Int) (q : Int) (hq : 0 ≤ q ∧ q ≤ 64) (hk : 0 ≤ kd q ∧ kd q ≤ 4) : fp_M l yX2_isBlank wsX2_isBlank ({ frames := 2, cells := 0, slots := 0, locals := 42 } : Room) D cyI [(h, .inr (2, [.ref ro, .ref rk, .ref rf, .ref rp, .int (iI (size)), .int (iI (laid)), .int (iI (gath))])), (rk, .inr (5, [.ref ak])), (ak, fA cyI 65 kd)] [.ref h, .int (iI (q))] (some (.int (iI (blkI (kd q))))) := by
  refine fp_start (cc := cX2_isBlank) (maxL := 2) (ret := (some .boolean)) (by decide) rfl (Nat.le_of_ble_eq_true rfl) ?_
  intro pg en sx mi ar bl mt cd ls hx hb hr hts hown hlocks hml hnm hP hK hD hl
  have hown : sx.vm.findClass RX2 = some mi.cls := hown
  have hl : lv_has ls 2 [(0, .ref h), (1, .int (iI (q)))] := hl
  refine lv_aload_n hx hb dX2_isBlank_0 rfl (lv_at hl 0 rfl) ?_
  refine lv_iload_n hx hb dX2_isBlank_1 rfl (lv_at hl 1 rfl) ?_
  refine fp_pV (As := [.int (iI (q))]) (rest := []) (wsC := [(h, .inr (2, [.ref ro, .ref rk, .ref rf, .ref rp, .int (iI (size)), .int (iI (laid)), .int (iI (gath))])), (rk, .inr (5, [.ref ak])), (ak, fA cyI 65 kd)]) ⟨hx, hb, hml, hown, hts⟩ (c_X2_kind l D cyI h ro rk rf rp size laid gath ak kd q (by omega)) (cwV 1 hts gX2_isBlank_X2_kind rfl rfl rfl (by decide +kernel) ⟨Nat.le_of_ble_eq_true rfl, Nat.le_of_ble_eq_true rfl⟩) hK hP hD [0, 1, 2] (by decide) rfl rfl rfl rfl hl.1 rfl (Nat.le_of_ble_eq_true rfl) dX2_isBlank_2 ⟨Nat.zero_le _, Nat.zero_le _⟩ ?_
  refine fp_if_eq (tgt := 17) hx hb (by omega) dX2_isBlank_5 (by decide) (fun q5 => ?_) (fun q5 => ?_)
  · skip
    refine fp_iconst hx hb dX2_isBlank_17 ?_
    refine lv_goto (tgt := 22) hx hb dX2_isBlank_18 (by decide) ?_
    have hret : (blkI (kd q) : Int) = 1 := (by unfold blkI; first | rw [bI_t (by omega)] | rw [bI_f (by omega)])
    exact fp_zret hx hb hr hlocks (by first | exact Or.inl rfl | exact Or.inr rfl | exact bI_01 _ | omega) dX2_isBlank_22 (congrArg (fun z : Int => Value.int (iI z)) hret)
  · skip
    refine lv_aload_n hx hb dX2_isBlank_8 rfl (lv_at hl 0 rfl) ?_
    refine lv_iload_n hx hb dX2_isBlank_9 rfl (lv_at hl 1 rfl) ?_
    refine fp_pV (As := [.int (iI (q))]) (rest := []) (wsC := [(h, .inr (2, [.ref ro, .ref rk, .ref rf, .ref rp, .int (iI (size)), .int (iI (laid)), .int (iI (gath))])), (rk, .inr (5, [.ref ak])), (ak, fA cyI 65 kd)]) ⟨hx, hb, hml, hown, hts⟩ (c_X2_kind l D cyI h ro rk rf rp size laid gath ak kd q (by omega)) (cwV 1 hts gX2_isBlank_X2_kind rfl rfl rfl (by decide +kernel) ⟨Nat.le_of_ble_eq_true rfl, Nat.le_of_ble_eq_true rfl⟩) hK hP hD [0, 1, 2] (by decide) rfl rfl rfl rfl hl.1 rfl (Nat.le_of_ble_eq_true rfl) dX2_isBlank_10 ⟨Nat.zero_le _, Nat.zero_le _⟩ ?_
    refine fp_iconst hx hb dX2_isBlank_13 ?_
    refine fp_icmp_ne (tgt := 21) hx hb (by omega) dX2_isBlank_14 (by decide) (fun q14 => ?_) (fun q14 => ?_)
    · skip
      refine fp_iconst hx hb dX2_isBlank_21 ?_
      have hret : (blkI (kd q) : Int) = 0 := (by unfold blkI; first | rw [bI_t (by omega)] | rw [bI_f (by omega)])
      exact fp_zret hx hb hr hlocks (by first | exact Or.inl rfl | exact Or.inr rfl | exact bI_01 _ | omega) dX2_isBlank_22 (congrArg (fun z : Int => Value.int (iI z)) hret)
    · skip
      refine fp_iconst hx hb dX2_isBlank_17 ?_
      refine lv_goto (tgt := 22) hx hb dX2_isBlank_18 (by decide) ?_
      have hret : (blkI (kd q) : Int) = 1 := (by unfold blkI; first | rw [bI_t (by omega)] | rw [bI_f (by omega)])
      exact fp_zret hx hb hr hlocks (by first | exact Or.inl rfl | exact Or.inr rfl | exact bI_01 _ | omega) dX2_isBlank_22 (congrArg (fun z : Int => Value.int (iI z)) hret)
set_option maxHeartbeats 4000000 in
set_option maxRecDepth 100000 in
theorem c_X2_isPlatePage (l : Launch) (D : va_G) (cyI : ClassId) (h : Nat) (ro : Nat) (rk : Nat) (rf : Nat) (rp : Nat) (size : Int) (laid : Int) (gath : Int) (ak : Nat) (kd : Int → Int) (q : Int) (hq : 0 ≤ q ∧ q ≤ 64) (hk : 0 ≤ kd q ∧ kd q ≤ 4) : fp_M l yX2_isPlatePage wsX2_isPlatePage ({ frames := 3, cells := 0, slots := 0, locals := 63 } : Room) D cyI [(h, .inr (2, [.ref ro, .ref rk, .ref rf, .ref rp, .int (iI (size)), .int (iI (laid)), .int (iI (gath))])), (rk, .inr (5, [.ref ak])), (ak, fA cyI 65 kd)] [.ref h, .int (iI (q))] (some (.int (iI (plkI (kd q))))) := by
  refine fp_start (cc := cX2_isPlatePage) (maxL := 2) (ret := (some .boolean)) (by decide) rfl (Nat.le_of_ble_eq_true rfl) ?_
  intro pg en sx mi ar bl mt cd ls hx hb hr hts hown hlocks hml hnm hP hK hD hl
  have hown : sx.vm.findClass RX2 = some mi.cls := hown
  have hl : lv_has ls 2 [(0, .ref h), (1, .int (iI (q)))] := hl
  refine lv_aload_n hx hb dX2_isPlatePage_0 rfl (lv_at hl 0 rfl) ?_
  refine lv_iload_n hx hb dX2_isPlatePage_1 rfl (lv_at hl 1 rfl) ?_
  refine fp_pV (As := [.int (iI (q))]) (rest := []) (wsC := [(h, .inr (2, [.ref ro, .ref rk, .ref rf, .ref rp, .int (iI (size)), .int (iI (laid)), .int (iI (gath))])), (rk, .inr (5, [.ref ak])), (ak, fA cyI 65 kd)]) ⟨hx, hb, hml, hown, hts⟩ (c_X2_isBlank l D cyI h ro rk rf rp size laid gath ak kd q (by omega) (by omega)) (cwV 1 hts gX2_isPlatePage_X2_isBlank rfl rfl rfl (by decide +kernel) ⟨Nat.le_of_ble_eq_true rfl, Nat.le_of_ble_eq_true rfl⟩) hK hP hD [0, 1, 2] (by decide) rfl rfl rfl rfl hl.1 rfl (Nat.le_of_ble_eq_true rfl) dX2_isPlatePage_2 ⟨Nat.zero_le _, Nat.zero_le _⟩ ?_
  refine fp_if_ne (tgt := 21) hx hb (bI_r32 _) dX2_isPlatePage_5 (by decide) (fun q5 => ?_) (fun q5 => ?_)
  · skip
    have c5 := bI_ne q5
    refine fp_iconst hx hb dX2_isPlatePage_21 ?_
    have hret : (plkI (kd q) : Int) = 0 := (by unfold plkI; first | rw [bI_t (by omega)] | rw [bI_f (by omega)])
    exact fp_zret hx hb hr hlocks (by first | exact Or.inl rfl | exact Or.inr rfl | exact bI_01 _ | omega) dX2_isPlatePage_22 (congrArg (fun z : Int => Value.int (iI z)) hret)
  · skip
    have n5 := bI_e q5
    refine lv_aload_n hx hb dX2_isPlatePage_8 rfl (lv_at hl 0 rfl) ?_
    refine lv_iload_n hx hb dX2_isPlatePage_9 rfl (lv_at hl 1 rfl) ?_
    refine fp_pV (As := [.int (iI (q))]) (rest := []) (wsC := [(h, .inr (2, [.ref ro, .ref rk, .ref rf, .ref rp, .int (iI (size)), .int (iI (laid)), .int (iI (gath))])), (rk, .inr (5, [.ref ak])), (ak, fA cyI 65 kd)]) ⟨hx, hb, hml, hown, hts⟩ (c_X2_kind l D cyI h ro rk rf rp size laid gath ak kd q (by omega)) (cwV 1 hts gX2_isPlatePage_X2_kind rfl rfl rfl (by decide +kernel) ⟨Nat.le_of_ble_eq_true rfl, Nat.le_of_ble_eq_true rfl⟩) hK hP hD [0, 1, 2] (by decide) rfl rfl rfl rfl hl.1 rfl (Nat.le_of_ble_eq_true rfl) dX2_isPlatePage_10 ⟨Nat.zero_le _, Nat.zero_le _⟩ ?_
    refine fp_iconst hx hb dX2_isPlatePage_13 ?_
    refine fp_icmp_eq (tgt := 21) hx hb (by omega) dX2_isPlatePage_14 (by decide) (fun q14 => ?_) (fun q14 => ?_)
    · skip
      refine fp_iconst hx hb dX2_isPlatePage_21 ?_
      have hret : (plkI (kd q) : Int) = 0 := (by unfold plkI; first | rw [bI_t (by omega)] | rw [bI_f (by omega)])
      exact fp_zret hx hb hr hlocks (by first | exact Or.inl rfl | exact Or.inr rfl | exact bI_01 _ | omega) dX2_isPlatePage_22 (congrArg (fun z : Int => Value.int (iI z)) hret)
    · skip
      refine fp_iconst hx hb dX2_isPlatePage_17 ?_
      refine lv_goto (tgt := 22) hx hb dX2_isPlatePage_18 (by decide) ?_
      have hret : (plkI (kd q) : Int) = 1 := (by unfold plkI; first | rw [bI_t (by omega)] | rw [bI_f (by omega)])
      exact fp_zret hx hb hr hlocks (by first | exact Or.inl rfl | exact Or.inr rfl | exact bI_01 _ | omega) dX2_isPlatePage_22 (congrArg (fun z : Int => Value.int (iI z)) hret)
set_option maxHeartbeats 4000000 in
set_option maxRecDepth 100000 in
theorem c_X2_whyNotFacing (l : Launch) (D : va_G) (cyI : ClassId) (h : Nat) (ro : Nat) (rk : Nat) (rf : Nat) (rp : Nat) (size : Int) (laid : Int) (gath : Int) (ao : Nat) (o : Int → Int) (ak : Nat) (kd : Int → Int) (ap : Nat) (g : Int → Int) (lot : Int) (hlot : 0 ≤ lot ∧ lot < 12) (hgl : 0 ≤ g lot ∧ g lot ≤ laid) (hl0 : 0 ≤ laid ∧ laid ≤ 64) (hR : ∀ p : Int, 1 ≤ p → p ≤ laid → (0 ≤ kd p ∧ kd p ≤ 4) ∧ (-5 ≤ o p ∧ o p ≤ 12)) : fp_M l yX2_whyNotFacing wsX2_whyNotFacing ({ frames := 3, cells := 0, slots := 0, locals := 63 } : Room) D cyI [(h, .inr (2, [.ref ro, .ref rk, .ref rf, .ref rp, .int (iI (size)), .int (iI (laid)), .int (iI (gath))])), (ro, .inr (5, [.ref ao])), (ao, fA cyI 65 o), (rk, .inr (5, [.ref ak])), (ak, fA cyI 65 kd), (rp, .inr (5, [.ref ap])), (ap, fA cyI 12 g)] [.ref h, .int (iI (lot))] (some (.int (iI (whyI o kd g laid lot)))) := by
  refine fp_start (cc := cX2_whyNotFacing) (maxL := 4) (ret := (some .int)) (by decide) rfl (Nat.le_of_ble_eq_true rfl) ?_
  intro pg en sx mi ar bl mt cd ls hx hb hr hts hown hlocks hml hnm hP hK hD hl
  have hown : sx.vm.findClass RX2 = some mi.cls := hown
  have hl : lv_has ls 4 [(0, .ref h), (1, .int (iI (lot)))] := hl
  refine lv_aload_n hx hb dX2_whyNotFacing_0 rfl (lv_at hl 0 rfl) ?_
  refine lv_iload_n hx hb dX2_whyNotFacing_1 rfl (lv_at hl 1 rfl) ?_
  refine fp_pV (As := [.int (iI (lot))]) (rest := []) (wsC := [(h, .inr (2, [.ref ro, .ref rk, .ref rf, .ref rp, .int (iI (size)), .int (iI (laid)), .int (iI (gath))])), (ro, .inr (5, [.ref ao])), (ao, fA cyI 65 o), (rk, .inr (5, [.ref ak])), (ak, fA cyI 65 kd), (rp, .inr (5, [.ref ap])), (ap, fA cyI 12 g)]) ⟨hx, hb, hml, hown, hts⟩ (c_X2_platePage l D cyI h ro rk rf rp size laid gath ap g lot (by omega)) (cwV 1 hts gX2_whyNotFacing_X2_platePage rfl rfl rfl (by decide +kernel) ⟨Nat.le_of_ble_eq_true rfl, Nat.le_of_ble_eq_true rfl⟩) hK hP hD [0, 5, 6] (by decide) rfl rfl rfl rfl hl.1 rfl (Nat.le_of_ble_eq_true rfl) dX2_whyNotFacing_2 ⟨Nat.zero_le _, Nat.zero_le _⟩ ?_
  refine lv_istore_n (lv' := [(2, .int (iI (g lot))), (0, .ref h), (1, .int (iI (lot)))]) hx hb dX2_whyNotFacing_5 rfl hl (by decide) rfl (fun ls hl => ?_)
  refine lv_iload_n hx hb dX2_whyNotFacing_6 rfl (lv_at hl 0 rfl) ?_
  refine fp_if_ne (tgt := 12) hx hb (by omega) dX2_whyNotFacing_7 (by decide) (fun q7 => ?_) (fun q7 => ?_)
  · skip
    refine lv_aload_n hx hb dX2_whyNotFacing_12 rfl (lv_at hl 1 rfl) ?_
    refine lv_iload_n hx hb dX2_whyNotFacing_13 rfl (lv_at hl 0 rfl) ?_
    refine fp_pV (As := [.int (iI (g lot))]) (rest := []) (wsC := [(h, .inr (2, [.ref ro, .ref rk, .ref rf, .ref rp, .int (iI (size)), .int (iI (laid)), .int (iI (gath))])), (ro, .inr (5, [.ref ao])), (ao, fA cyI 65 o), (rk, .inr (5, [.ref ak])), (ak, fA cyI 65 kd), (rp, .inr (5, [.ref ap])), (ap, fA cyI 12 g)]) ⟨hx, hb, hml, hown, hts⟩ (c_X2_otherPage l D cyI h ro rk rf rp size laid gath (g lot) (by omega) (by omega)) (cwV 1 hts gX2_whyNotFacing_X2_otherPage rfl rfl rfl (by decide +kernel) ⟨Nat.le_of_ble_eq_true rfl, Nat.le_of_ble_eq_true rfl⟩) hK hP hD [0] (by decide) rfl rfl rfl rfl hl.1 rfl (Nat.le_of_ble_eq_true rfl) dX2_whyNotFacing_14 ⟨Nat.zero_le _, Nat.zero_le _⟩ ?_
    have hoth : othI (g lot) laid = -5 ∨ (1 ≤ othI (g lot) laid ∧ othI (g lot) laid ≤ laid) := by
      unfold othI
      split
      · exact Or.inl rfl
      · split <;> omega
    refine lv_istore_n (lv' := [(3, .int (iI (othI (g lot) laid))), (2, .int (iI (g lot))), (0, .ref h), (1, .int (iI (lot)))]) hx hb dX2_whyNotFacing_17 rfl hl (by decide) rfl (fun ls hl => ?_)
    refine lv_iload_n hx hb dX2_whyNotFacing_18 rfl (lv_at hl 0 rfl) ?_
    refine fp_bipush hx hb dX2_whyNotFacing_19 (by decide) ?_
    refine fp_icmp_ne (tgt := 26) hx hb (by omega) dX2_whyNotFacing_21 (by decide) (fun q21 => ?_) (fun q21 => ?_)
    · skip
      have hrr := hR (othI (g lot) laid) (by omega) (by omega)
      refine lv_aload_n hx hb dX2_whyNotFacing_26 rfl (lv_at hl 2 rfl) ?_
      refine lv_iload_n hx hb dX2_whyNotFacing_27 rfl (lv_at hl 0 rfl) ?_
      refine fp_pV (As := [.int (iI (othI (g lot) laid))]) (rest := []) (wsC := [(h, .inr (2, [.ref ro, .ref rk, .ref rf, .ref rp, .int (iI (size)), .int (iI (laid)), .int (iI (gath))])), (ro, .inr (5, [.ref ao])), (ao, fA cyI 65 o), (rk, .inr (5, [.ref ak])), (ak, fA cyI 65 kd), (rp, .inr (5, [.ref ap])), (ap, fA cyI 12 g)]) ⟨hx, hb, hml, hown, hts⟩ (c_X2_isBlank l D cyI h ro rk rf rp size laid gath ak kd (othI (g lot) laid) (by omega) (by omega)) (cwV 1 hts gX2_whyNotFacing_X2_isBlank rfl rfl rfl (by decide +kernel) ⟨Nat.le_of_ble_eq_true rfl, Nat.le_of_ble_eq_true rfl⟩) hK hP hD [0, 3, 4] (by decide) rfl rfl rfl rfl hl.1 rfl (Nat.le_of_ble_eq_true rfl) dX2_whyNotFacing_28 ⟨Nat.zero_le _, Nat.zero_le _⟩ ?_
      refine fp_if_eq (tgt := 36) hx hb (bI_r32 _) dX2_whyNotFacing_31 (by decide) (fun q31 => ?_) (fun q31 => ?_)
      · skip
        have n31 := bI_e q31
        refine lv_aload_n hx hb dX2_whyNotFacing_36 rfl (lv_at hl 2 rfl) ?_
        refine lv_iload_n hx hb dX2_whyNotFacing_37 rfl (lv_at hl 0 rfl) ?_
        refine fp_pV (As := [.int (iI (othI (g lot) laid))]) (rest := []) (wsC := [(h, .inr (2, [.ref ro, .ref rk, .ref rf, .ref rp, .int (iI (size)), .int (iI (laid)), .int (iI (gath))])), (ro, .inr (5, [.ref ao])), (ao, fA cyI 65 o), (rk, .inr (5, [.ref ak])), (ak, fA cyI 65 kd), (rp, .inr (5, [.ref ap])), (ap, fA cyI 12 g)]) ⟨hx, hb, hml, hown, hts⟩ (c_X2_owner l D cyI h ro rk rf rp size laid gath ao o (othI (g lot) laid) (by omega)) (cwV 1 hts gX2_whyNotFacing_X2_owner rfl rfl rfl (by decide +kernel) ⟨Nat.le_of_ble_eq_true rfl, Nat.le_of_ble_eq_true rfl⟩) hK hP hD [0, 1, 2] (by decide) rfl rfl rfl rfl hl.1 rfl (Nat.le_of_ble_eq_true rfl) dX2_whyNotFacing_38 ⟨Nat.zero_le _, Nat.zero_le _⟩ ?_
        refine lv_iload_n hx hb dX2_whyNotFacing_41 rfl (lv_at hl 3 rfl) ?_
        refine fp_icmp_ne (tgt := 49) hx hb (by omega) dX2_whyNotFacing_42 (by decide) (fun q42 => ?_) (fun q42 => ?_)
        · skip
          refine fp_iconst hx hb dX2_whyNotFacing_49 ?_
          have hret : (whyI o kd g laid lot : Int) = 2 := (by unfold whyI; first | rw [if_pos q7] | rw [if_neg q7, if_pos q21] | rw [if_neg q7, if_neg q21, if_pos c31] | rw [if_neg q7, if_neg q21, if_neg n31, if_pos q42] | rw [if_neg q7, if_neg q21, if_neg n31, if_neg q42])
          exact fp_ret hx hb hr hlocks dX2_whyNotFacing_50 (congrArg (fun z : Int => Value.int (iI z)) hret)
        · skip
          refine fp_iconst hx hb dX2_whyNotFacing_45 ?_
          refine lv_goto (tgt := 50) hx hb dX2_whyNotFacing_46 (by decide) ?_
          have hret : (whyI o kd g laid lot : Int) = 0 := (by unfold whyI; first | rw [if_pos q7] | rw [if_neg q7, if_pos q21] | rw [if_neg q7, if_neg q21, if_pos c31] | rw [if_neg q7, if_neg q21, if_neg n31, if_pos q42] | rw [if_neg q7, if_neg q21, if_neg n31, if_neg q42])
          exact fp_ret hx hb hr hlocks dX2_whyNotFacing_50 (congrArg (fun z : Int => Value.int (iI z)) hret)
      · skip
        have c31 := bI_ne q31
        refine fp_iconst hx hb dX2_whyNotFacing_34 ?_
        have hret : (whyI o kd g laid lot : Int) = 3 := (by unfold whyI; first | rw [if_pos q7] | rw [if_neg q7, if_pos q21] | rw [if_neg q7, if_neg q21, if_pos c31] | rw [if_neg q7, if_neg q21, if_neg n31, if_pos q42] | rw [if_neg q7, if_neg q21, if_neg n31, if_neg q42])
        exact fp_ret hx hb hr hlocks dX2_whyNotFacing_35 (congrArg (fun z : Int => Value.int (iI z)) hret)
    · skip
      refine fp_iconst hx hb dX2_whyNotFacing_24 ?_
      have hret : (whyI o kd g laid lot : Int) = 1 := (by unfold whyI; first | rw [if_pos q7] | rw [if_neg q7, if_pos q21] | rw [if_neg q7, if_neg q21, if_pos c31] | rw [if_neg q7, if_neg q21, if_neg n31, if_pos q42] | rw [if_neg q7, if_neg q21, if_neg n31, if_neg q42])
      exact fp_ret hx hb hr hlocks dX2_whyNotFacing_25 (congrArg (fun z : Int => Value.int (iI z)) hret)
  · skip
    refine fp_iconst hx hb dX2_whyNotFacing_10 ?_
    have hret : (whyI o kd g laid lot : Int) = 0 := (by unfold whyI; first | rw [if_pos q7] | rw [if_neg q7, if_pos q21] | rw [if_neg q7, if_neg q21, if_pos c31] | rw [if_neg q7, if_neg q21, if_neg n31, if_pos q42] | rw [if_neg q7, if_neg q21, if_neg n31, if_neg q42])
    exact fp_ret hx hb hr hlocks dX2_whyNotFacing_11 (congrArg (fun z : Int => Value.int (iI z)) hret)
theorem fl_X2_lotsIn_29 : Cond.fieldLink RX2 29 "FacingPlates$Layout" "size" "I" ∈ wsX2_lotsIn := by decide +kernel
set_option maxHeartbeats 4000000 in
set_option maxRecDepth 100000 in
theorem c_X2_lotsIn (l : Launch) (D : va_G) (cyI : ClassId) (h : Nat) (ro : Nat) (rk : Nat) (rf : Nat) (rp : Nat) (size : Int) (laid : Int) (gath : Int) (ao : Nat) (o : Int → Int) (gi : Int) (hg : size = 4 ∨ size = 8 ∨ size = 16) (hgg : 0 ≤ gi ∧ gi < gath) (hgl : laid = gath * size ∧ 0 ≤ laid ∧ laid ≤ 64 ∧ 0 ≤ gath ∧ gath ≤ 16) (hR : ∀ p : Int, 1 ≤ p → p ≤ laid → -5 ≤ o p ∧ o p ≤ 12) : fp_M l yX2_lotsIn wsX2_lotsIn ({ frames := 2, cells := 0, slots := 0, locals := 42 } : Room) D cyI [(h, .inr (2, [.ref ro, .ref rk, .ref rf, .ref rp, .int (iI (size)), .int (iI (laid)), .int (iI (gath))])), (ro, .inr (5, [.ref ao])), (ao, fA cyI 65 o)] [.ref h, .int (iI (gi))] (some (.int (iI (lcI o (gi * size) size.toNat)))) := by
  refine fp_start (cc := cX2_lotsIn) (maxL := 6) (ret := (some .int)) (by decide) rfl (Nat.le_of_ble_eq_true rfl) ?_
  intro pg en sx mi ar bl mt cd ls hx hb hr hts hown hlocks hml hnm hP hK hD hl
  have hown : sx.vm.findClass RX2 = some mi.cls := hown
  have hl : lv_has ls 6 [(0, .ref h), (1, .int (iI (gi)))] := hl
  have hb0 : 0 ≤ gi * size := Int.mul_nonneg (by omega) (by omega)
  have hb1 : gi * size + size ≤ gath * size := by have := Int.mul_le_mul_of_nonneg_right (show gi + 1 ≤ gath by omega) (show 0 ≤ size by omega); rw [Int.add_mul, Int.one_mul] at this; exact this
  refine fp_iconst hx hb dX2_lotsIn_0 ?_
  refine lv_istore_n (lv' := [(2, .int (iI (0))), (0, .ref h), (1, .int (iI (gi)))]) hx hb dX2_lotsIn_1 rfl hl (by decide) rfl (fun ls hl => ?_)
  refine fp_bipush hx hb dX2_lotsIn_2 (by decide) ?_
  refine lv_istore_n (lv' := [(3, .int (iI ((-5)))), (2, .int (iI (0))), (0, .ref h), (1, .int (iI (gi)))]) hx hb dX2_lotsIn_4 rfl hl (by decide) rfl (fun ls hl => ?_)
  refine fp_iconst hx hb dX2_lotsIn_5 ?_
  refine lv_istore (lv' := [(4, .int (iI (1))), (3, .int (iI ((-5)))), (2, .int (iI (0))), (0, .ref h), (1, .int (iI (gi)))]) hx hb dX2_lotsIn_6 hl (by decide) rfl (fun ls hl => ?_)
  have hl := lv_sub hl (l' := [(0, .ref h), (1, .int (iI (gi))), (2, .int (iI (0))), (3, .int (iI ((-5)))), (4, .int (iI (1)))]) [3, 4, 2, 1, 0] rfl
  have lp0 : ∀ (nf : Nat) (x : Int) (lt : Int) (i : Int), (1 ≤ i ∧ i ≤ size + 1) → (-5 ≤ lt ∧ lt ≤ 12) → (x = lcI o (gi * size) (i - 1).toNat) → (lt = ltI o (gi * size) (i - 1).toNat) → (size + 1 + 1 ≤ i + (nf : Int)) → ∀ (ls : Array Slot), lv_has ls 6 [(0, .ref h), (1, .int (iI (gi))), (2, .int (iI (x))), (3, .int (iI (lt))), (4, .int (iI (i)))] → W pg l en ({ frames := 2, cells := 0, slots := 0, locals := 42 } : Room) sx mi ar bl mt cd sx.heap [] 0 0 (MQ bl (fp_Qp (some (.int (iI (lcI o (gi * size) size.toNat))))) ar sx 0 0 (fun _ => False)) (F0 mi 8 ls []) := by
    intro nf
    induction nf with
    | zero =>
      intro x lt i ii ilt ix il hfuel
      exact absurd hfuel (by omega)
    | succ nf ih0 =>
      intro x lt i ii ilt ix il hfuel ls hl
      refine lv_iload hx hb dX2_lotsIn_8 (lv_at hl 4 rfl) ?_
      refine lv_aload_n hx hb dX2_lotsIn_10 rfl (lv_at hl 0 rfl) ?_
      refine va_get (D := D) (ci := 2) (ws := [(h, .inr (2, [.ref ro, .ref rk, .ref rf, .ref rp, .int (iI (size)), .int (iI (laid)), .int (iI (gath))])), (ro, .inr (5, [.ref ao])), (ao, fA cyI 65 o)]) (v := .int (iI (size))) (C := RX2) (T := TX2) (N := 7) hx hb hts (fun _ h => List.mem_cons_of_mem _ (List.mem_append_left _ (List.mem_append_right _ h))) hown hK.1 hP 0 rfl rfl 4 (by decide) (hts _ fl_X2_lotsIn_29) (fun _ h9 => h9) rfl dX2_lotsIn_11 ?_
      refine fp_icmp_gt (tgt := 57) hx hb (by omega) dX2_lotsIn_14 (by decide) (fun q14 => ?_) (fun q14 => ?_)
      · skip
        refine lv_iload_n hx hb dX2_lotsIn_57 rfl (lv_at hl 2 rfl) ?_
        have hret : (lcI o (gi * size) size.toNat : Int) = x := (by rw [ix]; congr 1; omega)
        exact fp_ret hx hb hr hlocks dX2_lotsIn_58 (congrArg (fun z : Int => Value.int (iI z)) hret)
      · skip
        have hrr := hR (gi * size + i) (by omega) (by omega)
        refine lv_aload_n hx hb dX2_lotsIn_17 rfl (lv_at hl 0 rfl) ?_
        refine lv_iload_n hx hb dX2_lotsIn_18 rfl (lv_at hl 1 rfl) ?_
        refine lv_aload_n hx hb dX2_lotsIn_19 rfl (lv_at hl 0 rfl) ?_
        refine va_get (D := D) (ci := 2) (ws := [(h, .inr (2, [.ref ro, .ref rk, .ref rf, .ref rp, .int (iI (size)), .int (iI (laid)), .int (iI (gath))])), (ro, .inr (5, [.ref ao])), (ao, fA cyI 65 o)]) (v := .int (iI (size))) (C := RX2) (T := TX2) (N := 7) hx hb hts (fun _ h => List.mem_cons_of_mem _ (List.mem_append_left _ (List.mem_append_right _ h))) hown hK.1 hP 0 rfl rfl 4 (by decide) (hts _ fl_X2_lotsIn_29) (fun _ h9 => h9) rfl dX2_lotsIn_20 ?_
        refine fp_imul hx hb dX2_lotsIn_23 ?_
        refine lv_iload hx hb dX2_lotsIn_24 (lv_at hl 4 rfl) ?_
        refine fp_iadd hx hb dX2_lotsIn_26 ?_
        refine fp_pV (As := [.int (iI ((gi * size) + i))]) (rest := []) (wsC := [(h, .inr (2, [.ref ro, .ref rk, .ref rf, .ref rp, .int (iI (size)), .int (iI (laid)), .int (iI (gath))])), (ro, .inr (5, [.ref ao])), (ao, fA cyI 65 o)]) ⟨hx, hb, hml, hown, hts⟩ (c_X2_owner l D cyI h ro rk rf rp size laid gath ao o ((gi * size) + i) (by omega)) (cwV 1 hts gX2_lotsIn_X2_owner rfl rfl rfl (by decide +kernel) ⟨Nat.le_of_ble_eq_true rfl, Nat.le_of_ble_eq_true rfl⟩) hK hP hD [0, 1, 2] (by decide) rfl rfl rfl rfl hl.1 rfl (Nat.le_of_ble_eq_true rfl) dX2_lotsIn_27 ⟨Nat.zero_le _, Nat.zero_le _⟩ ?_
        refine lv_istore (lv' := [(5, .int (iI (o ((gi * size) + i)))), (0, .ref h), (1, .int (iI (gi))), (2, .int (iI (x))), (3, .int (iI (lt))), (4, .int (iI (i)))]) hx hb dX2_lotsIn_30 hl (by decide) rfl (fun ls hl => ?_)
        refine lv_iload hx hb dX2_lotsIn_32 (lv_at hl 0 rfl) ?_
        refine fp_bipush hx hb dX2_lotsIn_34 (by decide) ?_
        refine fp_icmp_eq (tgt := 51) hx hb (by omega) dX2_lotsIn_36 (by decide) (fun q36 => ?_) (fun q36 => ?_)
        · skip
          refine fp_iinc (k := 5) (lv' := [(4, .int (iI (i + 1))), (5, .int (iI (o ((gi * size) + i)))), (0, .ref h), (1, .int (iI (gi))), (2, .int (iI (x))), (3, .int (iI (lt)))]) hx hb dX2_lotsIn_51 hl rfl (by decide) rfl (fun ls hl => ?_)
          refine lv_goto (tgt := 8) hx hb dX2_lotsIn_54 (by decide) ?_
          exact ih0 x lt (i + 1) (by omega) (by omega) (by rw [show i + 1 - 1 = i by omega, lcI_s _ _ ii.1, ← il, ← ix]; first | (rw [bI_t ⟨by omega, by omega⟩]) | (rw [bI_f (by omega)]; omega)) (by rw [show i + 1 - 1 = i by omega, ltI_s _ _ ii.1]; first | (rw [if_pos (by omega)]; exact il) | (rw [if_neg (by omega)]; omega) | (rw [if_neg (by omega)])) (by omega) ls (lv_sub hl [2, 3, 4, 5, 0] rfl)
        · skip
          refine lv_iload hx hb dX2_lotsIn_39 (lv_at hl 0 rfl) ?_
          refine lv_iload_n hx hb dX2_lotsIn_41 rfl (lv_at hl 4 rfl) ?_
          refine fp_icmp_eq (tgt := 51) hx hb (by omega) dX2_lotsIn_42 (by decide) (fun q42 => ?_) (fun q42 => ?_)
          · skip
            refine fp_iinc (k := 5) (lv' := [(4, .int (iI (i + 1))), (5, .int (iI (o ((gi * size) + i)))), (0, .ref h), (1, .int (iI (gi))), (2, .int (iI (x))), (3, .int (iI (lt)))]) hx hb dX2_lotsIn_51 hl rfl (by decide) rfl (fun ls hl => ?_)
            refine lv_goto (tgt := 8) hx hb dX2_lotsIn_54 (by decide) ?_
            exact ih0 x lt (i + 1) (by omega) (by omega) (by rw [show i + 1 - 1 = i by omega, lcI_s _ _ ii.1, ← il, ← ix]; first | (rw [bI_t ⟨by omega, by omega⟩]) | (rw [bI_f (by omega)]; omega)) (by rw [show i + 1 - 1 = i by omega, ltI_s _ _ ii.1]; first | (rw [if_pos (by omega)]; exact il) | (rw [if_neg (by omega)]; omega) | (rw [if_neg (by omega)])) (by omega) ls (lv_sub hl [2, 3, 4, 5, 0] rfl)
          · skip
            refine fp_iinc (k := 3) (lv' := [(2, .int (iI (x + 1))), (5, .int (iI (o ((gi * size) + i)))), (0, .ref h), (1, .int (iI (gi))), (3, .int (iI (lt))), (4, .int (iI (i)))]) hx hb dX2_lotsIn_45 hl rfl (by decide) rfl (fun ls hl => ?_)
            refine lv_iload hx hb dX2_lotsIn_48 (lv_at hl 1 rfl) ?_
            refine lv_istore_n (lv' := [(3, .int (iI (o ((gi * size) + i)))), (2, .int (iI (x + 1))), (5, .int (iI (o ((gi * size) + i)))), (0, .ref h), (1, .int (iI (gi))), (4, .int (iI (i)))]) hx hb dX2_lotsIn_50 rfl hl (by decide) rfl (fun ls hl => ?_)
            refine fp_iinc (k := 5) (lv' := [(4, .int (iI (i + 1))), (3, .int (iI (o ((gi * size) + i)))), (2, .int (iI (x + 1))), (5, .int (iI (o ((gi * size) + i)))), (0, .ref h), (1, .int (iI (gi)))]) hx hb dX2_lotsIn_51 hl rfl (by decide) rfl (fun ls hl => ?_)
            refine lv_goto (tgt := 8) hx hb dX2_lotsIn_54 (by decide) ?_
            exact ih0 (x + 1) (o ((gi * size) + i)) (i + 1) (by omega) (by omega) (by rw [show i + 1 - 1 = i by omega, lcI_s _ _ ii.1, ← il, ← ix]; first | (rw [bI_t ⟨by omega, by omega⟩]) | (rw [bI_f (by omega)]; omega)) (by rw [show i + 1 - 1 = i by omega, ltI_s _ _ ii.1]; first | (rw [if_pos (by omega)]; exact il) | (rw [if_neg (by omega)]; omega) | (rw [if_neg (by omega)])) (by omega) ls (lv_sub hl [4, 5, 2, 1, 0] rfl)
  exact lp0 (((size + 1 : Int) + 1 - (1)).toNat) 0 ((-5)) 1 (by omega) (by omega) rfl rfl (by omega) ls hl
theorem fl_X2_platesIn_29 : Cond.fieldLink RX2 29 "FacingPlates$Layout" "size" "I" ∈ wsX2_platesIn := by decide +kernel
set_option maxHeartbeats 4000000 in
set_option maxRecDepth 100000 in
theorem c_X2_platesIn (l : Launch) (D : va_G) (cyI : ClassId) (h : Nat) (ro : Nat) (rk : Nat) (rf : Nat) (rp : Nat) (size : Int) (laid : Int) (gath : Int) (ak : Nat) (kd : Int → Int) (gi : Int) (hg : size = 4 ∨ size = 8 ∨ size = 16) (hgg : 0 ≤ gi ∧ gi < gath) (hgl : laid = gath * size ∧ 0 ≤ laid ∧ laid ≤ 64 ∧ 0 ≤ gath ∧ gath ≤ 16) (hR : ∀ p : Int, 1 ≤ p → p ≤ laid → 0 ≤ kd p ∧ kd p ≤ 4) : fp_M l yX2_platesIn wsX2_platesIn ({ frames := 4, cells := 0, slots := 0, locals := 84 } : Room) D cyI [(h, .inr (2, [.ref ro, .ref rk, .ref rf, .ref rp, .int (iI (size)), .int (iI (laid)), .int (iI (gath))])), (rk, .inr (5, [.ref ak])), (ak, fA cyI 65 kd)] [.ref h, .int (iI (gi))] (some (.int (iI (sumI size.toNat (fun j9 => plkI (kd (gi * size + (j9 + 1)))))))) := by
  refine fp_start (cc := cX2_platesIn) (maxL := 4) (ret := (some .int)) (by decide) rfl (Nat.le_of_ble_eq_true rfl) ?_
  intro pg en sx mi ar bl mt cd ls hx hb hr hts hown hlocks hml hnm hP hK hD hl
  have hown : sx.vm.findClass RX2 = some mi.cls := hown
  have hl : lv_has ls 4 [(0, .ref h), (1, .int (iI (gi)))] := hl
  have hb0 : 0 ≤ gi * size := Int.mul_nonneg (by omega) (by omega)
  have hb1 : gi * size + size ≤ gath * size := by have := Int.mul_le_mul_of_nonneg_right (show gi + 1 ≤ gath by omega) (show 0 ≤ size by omega); rw [Int.add_mul, Int.one_mul] at this; exact this
  refine fp_iconst hx hb dX2_platesIn_0 ?_
  refine lv_istore_n (lv' := [(2, .int (iI (0))), (0, .ref h), (1, .int (iI (gi)))]) hx hb dX2_platesIn_1 rfl hl (by decide) rfl (fun ls hl => ?_)
  refine fp_iconst hx hb dX2_platesIn_2 ?_
  refine lv_istore_n (lv' := [(3, .int (iI (1))), (2, .int (iI (0))), (0, .ref h), (1, .int (iI (gi)))]) hx hb dX2_platesIn_3 rfl hl (by decide) rfl (fun ls hl => ?_)
  have hl := lv_sub hl (l' := [(0, .ref h), (1, .int (iI (gi))), (2, .int (iI (0))), (3, .int (iI (1)))]) [2, 3, 1, 0] rfl
  have lp0 : ∀ (nf : Nat) (x : Int) (i : Int), (1 ≤ i ∧ i ≤ size + 1) → (x = sumI (i - 1).toNat (fun j => plkI (kd (gi * size + (j + 1))))) → (size + 1 + 1 ≤ i + (nf : Int)) → ∀ (ls : Array Slot), lv_has ls 4 [(0, .ref h), (1, .int (iI (gi))), (2, .int (iI (x))), (3, .int (iI (i)))] → W pg l en ({ frames := 4, cells := 0, slots := 0, locals := 84 } : Room) sx mi ar bl mt cd sx.heap [] 0 0 (MQ bl (fp_Qp (some (.int (iI (sumI size.toNat (fun j9 => plkI (kd (gi * size + (j9 + 1))))))))) ar sx 0 0 (fun _ => False)) (F0 mi 4 ls []) := by
    intro nf
    induction nf with
    | zero =>
      intro x i ii ix hfuel
      exact absurd hfuel (by omega)
    | succ nf ih0 =>
      intro x i ii ix hfuel ls hl
      refine lv_iload_n hx hb dX2_platesIn_4 rfl (lv_at hl 3 rfl) ?_
      refine lv_aload_n hx hb dX2_platesIn_5 rfl (lv_at hl 0 rfl) ?_
      refine va_get (D := D) (ci := 2) (ws := [(h, .inr (2, [.ref ro, .ref rk, .ref rf, .ref rp, .int (iI (size)), .int (iI (laid)), .int (iI (gath))])), (rk, .inr (5, [.ref ak])), (ak, fA cyI 65 kd)]) (v := .int (iI (size))) (C := RX2) (T := TX2) (N := 7) hx hb hts (fun _ h => List.mem_cons_of_mem _ (List.mem_append_left _ (List.mem_append_right _ h))) hown hK.1 hP 0 rfl rfl 4 (by decide) (hts _ fl_X2_platesIn_29) (fun _ h9 => h9) rfl dX2_platesIn_6 ?_
      refine fp_icmp_gt (tgt := 41) hx hb (by omega) dX2_platesIn_9 (by decide) (fun q9 => ?_) (fun q9 => ?_)
      · skip
        refine lv_iload_n hx hb dX2_platesIn_41 rfl (lv_at hl 2 rfl) ?_
        have hret : (sumI size.toNat (fun j9 => plkI (kd (gi * size + (j9 + 1)))) : Int) = x := (by rw [ix]; congr 2; omega)
        exact fp_ret hx hb hr hlocks dX2_platesIn_42 (congrArg (fun z : Int => Value.int (iI z)) hret)
      · skip
        have hrr := hR (gi * size + i) (by omega) (by omega)
        have h01 : plkI (kd (gi * size + i)) = 0 ∨ plkI (kd (gi * size + i)) = 1 := bI_01 _
        refine lv_iload_n hx hb dX2_platesIn_12 rfl (lv_at hl 2 rfl) ?_
        refine lv_aload_n hx hb dX2_platesIn_13 rfl (lv_at hl 0 rfl) ?_
        refine lv_iload_n hx hb dX2_platesIn_14 rfl (lv_at hl 1 rfl) ?_
        refine lv_aload_n hx hb dX2_platesIn_15 rfl (lv_at hl 0 rfl) ?_
        refine va_get (D := D) (ci := 2) (ws := [(h, .inr (2, [.ref ro, .ref rk, .ref rf, .ref rp, .int (iI (size)), .int (iI (laid)), .int (iI (gath))])), (rk, .inr (5, [.ref ak])), (ak, fA cyI 65 kd)]) (v := .int (iI (size))) (C := RX2) (T := TX2) (N := 7) hx hb hts (fun _ h => List.mem_cons_of_mem _ (List.mem_append_left _ (List.mem_append_right _ h))) hown hK.1 hP 0 rfl rfl 4 (by decide) (hts _ fl_X2_platesIn_29) (fun _ h9 => h9) rfl dX2_platesIn_16 ?_
        refine fp_imul hx hb dX2_platesIn_19 ?_
        refine lv_iload_n hx hb dX2_platesIn_20 rfl (lv_at hl 3 rfl) ?_
        refine fp_iadd hx hb dX2_platesIn_21 ?_
        refine fp_pV (As := [.int (iI ((gi * size) + i))]) (rest := [.int (iI (x))]) (wsC := [(h, .inr (2, [.ref ro, .ref rk, .ref rf, .ref rp, .int (iI (size)), .int (iI (laid)), .int (iI (gath))])), (rk, .inr (5, [.ref ak])), (ak, fA cyI 65 kd)]) ⟨hx, hb, hml, hown, hts⟩ (c_X2_isPlatePage l D cyI h ro rk rf rp size laid gath ak kd ((gi * size) + i) (by omega) (by omega)) (cwV 1 hts gX2_platesIn_X2_isPlatePage rfl rfl rfl (by decide +kernel) ⟨Nat.le_of_ble_eq_true rfl, Nat.le_of_ble_eq_true rfl⟩) hK hP hD [0, 1, 2] (by decide) rfl rfl rfl rfl hl.1 rfl (Nat.le_of_ble_eq_true rfl) dX2_platesIn_22 ⟨Nat.zero_le _, Nat.zero_le _⟩ ?_
        refine fp_if_eq (tgt := 32) hx hb (bI_r32 _) dX2_platesIn_25 (by decide) (fun q25 => ?_) (fun q25 => ?_)
        · skip
          refine fp_iconst hx hb dX2_platesIn_32 ?_
          refine fp_iadd hx hb dX2_platesIn_33 ?_
          refine lv_istore_n (lv' := [(2, .int (iI (x + 0))), (0, .ref h), (1, .int (iI (gi))), (3, .int (iI (i)))]) hx hb dX2_platesIn_34 rfl hl (by decide) rfl (fun ls hl => ?_)
          refine fp_iinc (k := 3) (lv' := [(3, .int (iI (i + 1))), (2, .int (iI (x + 0))), (0, .ref h), (1, .int (iI (gi)))]) hx hb dX2_platesIn_35 hl rfl (by decide) rfl (fun ls hl => ?_)
          refine lv_goto (tgt := 4) hx hb dX2_platesIn_38 (by decide) ?_
          exact ih0 (x + 0) (i + 1) (by omega) (by rw [show i + 1 - 1 = (i - 1) + 1 by omega, sumI_s _ (show 0 ≤ i - 1 by omega), ← ix, show i - 1 + 1 = i by omega]; omega) (by omega) ls (lv_sub hl [2, 3, 1, 0] rfl)
        · skip
          refine fp_iconst hx hb dX2_platesIn_28 ?_
          refine lv_goto (tgt := 33) hx hb dX2_platesIn_29 (by decide) ?_
          refine fp_iadd hx hb dX2_platesIn_33 ?_
          refine lv_istore_n (lv' := [(2, .int (iI (x + 1))), (0, .ref h), (1, .int (iI (gi))), (3, .int (iI (i)))]) hx hb dX2_platesIn_34 rfl hl (by decide) rfl (fun ls hl => ?_)
          refine fp_iinc (k := 3) (lv' := [(3, .int (iI (i + 1))), (2, .int (iI (x + 1))), (0, .ref h), (1, .int (iI (gi)))]) hx hb dX2_platesIn_35 hl rfl (by decide) rfl (fun ls hl => ?_)
          refine lv_goto (tgt := 4) hx hb dX2_platesIn_38 (by decide) ?_
          exact ih0 (x + 1) (i + 1) (by omega) (by rw [show i + 1 - 1 = (i - 1) + 1 by omega, sumI_s _ (show 0 ≤ i - 1 by omega), ← ix, show i - 1 + 1 = i by omega]; omega) (by omega) ls (lv_sub hl [2, 3, 1, 0] rfl)
  exact lp0 (((size + 1 : Int) + 1 - (1)).toNat) 0 1 (by omega) rfl (by omega) ls hl
theorem fl_X2_blanksIn_29 : Cond.fieldLink RX2 29 "FacingPlates$Layout" "size" "I" ∈ wsX2_blanksIn := by decide +kernel
set_option maxHeartbeats 4000000 in
set_option maxRecDepth 100000 in
theorem c_X2_blanksIn (l : Launch) (D : va_G) (cyI : ClassId) (h : Nat) (ro : Nat) (rk : Nat) (rf : Nat) (rp : Nat) (size : Int) (laid : Int) (gath : Int) (ak : Nat) (kd : Int → Int) (gi : Int) (hg : size = 4 ∨ size = 8 ∨ size = 16) (hgg : 0 ≤ gi ∧ gi < gath) (hgl : laid = gath * size ∧ 0 ≤ laid ∧ laid ≤ 64 ∧ 0 ≤ gath ∧ gath ≤ 16) (hR : ∀ p : Int, 1 ≤ p → p ≤ laid → 0 ≤ kd p ∧ kd p ≤ 4) : fp_M l yX2_blanksIn wsX2_blanksIn ({ frames := 3, cells := 0, slots := 0, locals := 63 } : Room) D cyI [(h, .inr (2, [.ref ro, .ref rk, .ref rf, .ref rp, .int (iI (size)), .int (iI (laid)), .int (iI (gath))])), (rk, .inr (5, [.ref ak])), (ak, fA cyI 65 kd)] [.ref h, .int (iI (gi))] (some (.int (iI (sumI size.toNat (fun j9 => blkI (kd (gi * size + (j9 + 1)))))))) := by
  refine fp_start (cc := cX2_blanksIn) (maxL := 4) (ret := (some .int)) (by decide) rfl (Nat.le_of_ble_eq_true rfl) ?_
  intro pg en sx mi ar bl mt cd ls hx hb hr hts hown hlocks hml hnm hP hK hD hl
  have hown : sx.vm.findClass RX2 = some mi.cls := hown
  have hl : lv_has ls 4 [(0, .ref h), (1, .int (iI (gi)))] := hl
  have hb0 : 0 ≤ gi * size := Int.mul_nonneg (by omega) (by omega)
  have hb1 : gi * size + size ≤ gath * size := by have := Int.mul_le_mul_of_nonneg_right (show gi + 1 ≤ gath by omega) (show 0 ≤ size by omega); rw [Int.add_mul, Int.one_mul] at this; exact this
  refine fp_iconst hx hb dX2_blanksIn_0 ?_
  refine lv_istore_n (lv' := [(2, .int (iI (0))), (0, .ref h), (1, .int (iI (gi)))]) hx hb dX2_blanksIn_1 rfl hl (by decide) rfl (fun ls hl => ?_)
  refine fp_iconst hx hb dX2_blanksIn_2 ?_
  refine lv_istore_n (lv' := [(3, .int (iI (1))), (2, .int (iI (0))), (0, .ref h), (1, .int (iI (gi)))]) hx hb dX2_blanksIn_3 rfl hl (by decide) rfl (fun ls hl => ?_)
  have hl := lv_sub hl (l' := [(0, .ref h), (1, .int (iI (gi))), (2, .int (iI (0))), (3, .int (iI (1)))]) [2, 3, 1, 0] rfl
  have lp0 : ∀ (nf : Nat) (x : Int) (i : Int), (1 ≤ i ∧ i ≤ size + 1) → (x = sumI (i - 1).toNat (fun j => blkI (kd (gi * size + (j + 1))))) → (size + 1 + 1 ≤ i + (nf : Int)) → ∀ (ls : Array Slot), lv_has ls 4 [(0, .ref h), (1, .int (iI (gi))), (2, .int (iI (x))), (3, .int (iI (i)))] → W pg l en ({ frames := 3, cells := 0, slots := 0, locals := 63 } : Room) sx mi ar bl mt cd sx.heap [] 0 0 (MQ bl (fp_Qp (some (.int (iI (sumI size.toNat (fun j9 => blkI (kd (gi * size + (j9 + 1))))))))) ar sx 0 0 (fun _ => False)) (F0 mi 4 ls []) := by
    intro nf
    induction nf with
    | zero =>
      intro x i ii ix hfuel
      exact absurd hfuel (by omega)
    | succ nf ih0 =>
      intro x i ii ix hfuel ls hl
      refine lv_iload_n hx hb dX2_blanksIn_4 rfl (lv_at hl 3 rfl) ?_
      refine lv_aload_n hx hb dX2_blanksIn_5 rfl (lv_at hl 0 rfl) ?_
      refine va_get (D := D) (ci := 2) (ws := [(h, .inr (2, [.ref ro, .ref rk, .ref rf, .ref rp, .int (iI (size)), .int (iI (laid)), .int (iI (gath))])), (rk, .inr (5, [.ref ak])), (ak, fA cyI 65 kd)]) (v := .int (iI (size))) (C := RX2) (T := TX2) (N := 7) hx hb hts (fun _ h => List.mem_cons_of_mem _ (List.mem_append_left _ (List.mem_append_right _ h))) hown hK.1 hP 0 rfl rfl 4 (by decide) (hts _ fl_X2_blanksIn_29) (fun _ h9 => h9) rfl dX2_blanksIn_6 ?_
      refine fp_icmp_gt (tgt := 41) hx hb (by omega) dX2_blanksIn_9 (by decide) (fun q9 => ?_) (fun q9 => ?_)
      · skip
        refine lv_iload_n hx hb dX2_blanksIn_41 rfl (lv_at hl 2 rfl) ?_
        have hret : (sumI size.toNat (fun j9 => blkI (kd (gi * size + (j9 + 1)))) : Int) = x := (by rw [ix]; congr 2; omega)
        exact fp_ret hx hb hr hlocks dX2_blanksIn_42 (congrArg (fun z : Int => Value.int (iI z)) hret)
      · skip
        have hrr := hR (gi * size + i) (by omega) (by omega)
        have h01 : blkI (kd (gi * size + i)) = 0 ∨ blkI (kd (gi * size + i)) = 1 := bI_01 _
        refine lv_iload_n hx hb dX2_blanksIn_12 rfl (lv_at hl 2 rfl) ?_
        refine lv_aload_n hx hb dX2_blanksIn_13 rfl (lv_at hl 0 rfl) ?_
        refine lv_iload_n hx hb dX2_blanksIn_14 rfl (lv_at hl 1 rfl) ?_
        refine lv_aload_n hx hb dX2_blanksIn_15 rfl (lv_at hl 0 rfl) ?_
        refine va_get (D := D) (ci := 2) (ws := [(h, .inr (2, [.ref ro, .ref rk, .ref rf, .ref rp, .int (iI (size)), .int (iI (laid)), .int (iI (gath))])), (rk, .inr (5, [.ref ak])), (ak, fA cyI 65 kd)]) (v := .int (iI (size))) (C := RX2) (T := TX2) (N := 7) hx hb hts (fun _ h => List.mem_cons_of_mem _ (List.mem_append_left _ (List.mem_append_right _ h))) hown hK.1 hP 0 rfl rfl 4 (by decide) (hts _ fl_X2_blanksIn_29) (fun _ h9 => h9) rfl dX2_blanksIn_16 ?_
        refine fp_imul hx hb dX2_blanksIn_19 ?_
        refine lv_iload_n hx hb dX2_blanksIn_20 rfl (lv_at hl 3 rfl) ?_
        refine fp_iadd hx hb dX2_blanksIn_21 ?_
        refine fp_pV (As := [.int (iI ((gi * size) + i))]) (rest := [.int (iI (x))]) (wsC := [(h, .inr (2, [.ref ro, .ref rk, .ref rf, .ref rp, .int (iI (size)), .int (iI (laid)), .int (iI (gath))])), (rk, .inr (5, [.ref ak])), (ak, fA cyI 65 kd)]) ⟨hx, hb, hml, hown, hts⟩ (c_X2_isBlank l D cyI h ro rk rf rp size laid gath ak kd ((gi * size) + i) (by omega) (by omega)) (cwV 1 hts gX2_blanksIn_X2_isBlank rfl rfl rfl (by decide +kernel) ⟨Nat.le_of_ble_eq_true rfl, Nat.le_of_ble_eq_true rfl⟩) hK hP hD [0, 1, 2] (by decide) rfl rfl rfl rfl hl.1 rfl (Nat.le_of_ble_eq_true rfl) dX2_blanksIn_22 ⟨Nat.zero_le _, Nat.zero_le _⟩ ?_
        refine fp_if_eq (tgt := 32) hx hb (bI_r32 _) dX2_blanksIn_25 (by decide) (fun q25 => ?_) (fun q25 => ?_)
        · skip
          refine fp_iconst hx hb dX2_blanksIn_32 ?_
          refine fp_iadd hx hb dX2_blanksIn_33 ?_
          refine lv_istore_n (lv' := [(2, .int (iI (x + 0))), (0, .ref h), (1, .int (iI (gi))), (3, .int (iI (i)))]) hx hb dX2_blanksIn_34 rfl hl (by decide) rfl (fun ls hl => ?_)
          refine fp_iinc (k := 3) (lv' := [(3, .int (iI (i + 1))), (2, .int (iI (x + 0))), (0, .ref h), (1, .int (iI (gi)))]) hx hb dX2_blanksIn_35 hl rfl (by decide) rfl (fun ls hl => ?_)
          refine lv_goto (tgt := 4) hx hb dX2_blanksIn_38 (by decide) ?_
          exact ih0 (x + 0) (i + 1) (by omega) (by rw [show i + 1 - 1 = (i - 1) + 1 by omega, sumI_s _ (show 0 ≤ i - 1 by omega), ← ix, show i - 1 + 1 = i by omega]; omega) (by omega) ls (lv_sub hl [2, 3, 1, 0] rfl)
        · skip
          refine fp_iconst hx hb dX2_blanksIn_28 ?_
          refine lv_goto (tgt := 33) hx hb dX2_blanksIn_29 (by decide) ?_
          refine fp_iadd hx hb dX2_blanksIn_33 ?_
          refine lv_istore_n (lv' := [(2, .int (iI (x + 1))), (0, .ref h), (1, .int (iI (gi))), (3, .int (iI (i)))]) hx hb dX2_blanksIn_34 rfl hl (by decide) rfl (fun ls hl => ?_)
          refine fp_iinc (k := 3) (lv' := [(3, .int (iI (i + 1))), (2, .int (iI (x + 1))), (0, .ref h), (1, .int (iI (gi)))]) hx hb dX2_blanksIn_35 hl rfl (by decide) rfl (fun ls hl => ?_)
          refine lv_goto (tgt := 4) hx hb dX2_blanksIn_38 (by decide) ?_
          exact ih0 (x + 1) (i + 1) (by omega) (by rw [show i + 1 - 1 = (i - 1) + 1 by omega, sumI_s _ (show 0 ≤ i - 1 by omega), ← ix, show i - 1 + 1 = i by omega]; omega) (by omega) ls (lv_sub hl [2, 3, 1, 0] rfl)
  exact lp0 (((size + 1 : Int) + 1 - (1)).toNat) 0 1 (by omega) rfl (by omega) ls hl
theorem fl_X2_coloured_29 : Cond.fieldLink RX2 29 "FacingPlates$Layout" "size" "I" ∈ wsX2_coloured := by decide +kernel
theorem ini_X2_coloured_X7 : Cond.initialized RX7 ∈ wsX2_coloured := by decide +kernel
theorem stt_X2_coloured_X7_sideOfPage : Cond.static yX7_sideOfPage ∈ wsX2_coloured := by decide +kernel
set_option maxHeartbeats 4000000 in
set_option maxRecDepth 100000 in
theorem c_X2_coloured (l : Launch) (D : va_G) (cyI : ClassId) (h : Nat) (ro : Nat) (rk : Nat) (rf : Nat) (rp : Nat) (size : Int) (laid : Int) (gath : Int) (ak : Nat) (kd : Int → Int) (gi : Int) (sd : Int) (hg : size = 4 ∨ size = 8 ∨ size = 16) (hgg : 0 ≤ gi ∧ gi < gath) (hgl : laid = gath * size ∧ 0 ≤ laid ∧ laid ≤ 64 ∧ 0 ≤ gath ∧ gath ≤ 16) (hR : ∀ p : Int, 1 ≤ p → p ≤ laid → 0 ≤ kd p ∧ kd p ≤ 4) (hsd : 0 ≤ sd ∧ sd ≤ 1) : fp_M l yX2_coloured wsX2_coloured ({ frames := 2, cells := 0, slots := 0, locals := 42 } : Room) D cyI [(h, .inr (2, [.ref ro, .ref rk, .ref rf, .ref rp, .int (iI (size)), .int (iI (laid)), .int (iI (gath))])), (rk, .inr (5, [.ref ak])), (ak, fA cyI 65 kd)] [.ref h, .int (iI (gi)), .int (iI (sd))] (some (.int (iI (colI kd size gi sd)))) := by
  refine fp_start (cc := cX2_coloured) (maxL := 5) (ret := (some .int)) (by decide) rfl (Nat.le_of_ble_eq_true rfl) ?_
  intro pg en sx mi ar bl mt cd ls hx hb hr hts hown hlocks hml hnm hP hK hD hl
  have hown : sx.vm.findClass RX2 = some mi.cls := hown
  have hl : lv_has ls 5 [(0, .ref h), (1, .int (iI (gi))), (2, .int (iI (sd)))] := hl
  have hb0 : 0 ≤ gi * size := Int.mul_nonneg (by omega) (by omega)
  have hb1 : gi * size + size ≤ gath * size := by have := Int.mul_le_mul_of_nonneg_right (show gi + 1 ≤ gath by omega) (show 0 ≤ size by omega); rw [Int.add_mul, Int.one_mul] at this; exact this
  refine fp_iconst hx hb dX2_coloured_0 ?_
  refine lv_istore_n (lv' := [(3, .int (iI (1))), (0, .ref h), (1, .int (iI (gi))), (2, .int (iI (sd)))]) hx hb dX2_coloured_1 rfl hl (by decide) rfl (fun ls hl => ?_)
  have hl := lv_sub hl (l' := [(0, .ref h), (1, .int (iI (gi))), (2, .int (iI (sd))), (3, .int (iI (1)))]) [1, 2, 3, 0] rfl
  have lp0 : ∀ (nf : Nat) (i : Int), (1 ≤ i ∧ i ≤ size + 1) → (colI kd size gi sd = anyI (hitI kd (gi * size) sd) (size + 1 - i).toNat i) → (size + 1 + 1 ≤ i + (nf : Int)) → ∀ (ls : Array Slot), lv_has ls 5 [(0, .ref h), (1, .int (iI (gi))), (2, .int (iI (sd))), (3, .int (iI (i)))] → W pg l en ({ frames := 2, cells := 0, slots := 0, locals := 42 } : Room) sx mi ar bl mt cd sx.heap [] 0 0 (MQ bl (fp_Qp (some (.int (iI (colI kd size gi sd))))) ar sx 0 0 (fun _ => False)) (F0 mi 2 ls []) := by
    intro nf
    induction nf with
    | zero =>
      intro i ii ix hfuel
      exact absurd hfuel (by omega)
    | succ nf ih0 =>
      intro i ii ix hfuel ls hl
      refine lv_iload_n hx hb dX2_coloured_2 rfl (lv_at hl 3 rfl) ?_
      refine lv_aload_n hx hb dX2_coloured_3 rfl (lv_at hl 0 rfl) ?_
      refine va_get (D := D) (ci := 2) (ws := [(h, .inr (2, [.ref ro, .ref rk, .ref rf, .ref rp, .int (iI (size)), .int (iI (laid)), .int (iI (gath))])), (rk, .inr (5, [.ref ak])), (ak, fA cyI 65 kd)]) (v := .int (iI (size))) (C := RX2) (T := TX2) (N := 7) hx hb hts (fun _ h => List.mem_cons_of_mem _ (List.mem_append_left _ (List.mem_append_right _ h))) hown hK.1 hP 0 rfl rfl 4 (by decide) (hts _ fl_X2_coloured_29) (fun _ h9 => h9) rfl dX2_coloured_4 ?_
      refine fp_icmp_gt (tgt := 47) hx hb (by omega) dX2_coloured_7 (by decide) (fun q7 => ?_) (fun q7 => ?_)
      · skip
        refine fp_iconst hx hb dX2_coloured_47 ?_
        have hret : (colI kd size gi sd : Int) = 0 := (by rw [ix, show (size + 1 - i).toNat = 0 by omega]; rfl)
        exact fp_ret hx hb hr hlocks dX2_coloured_48 (congrArg (fun z : Int => Value.int (iI z)) hret)
      · skip
        have hrr := hR (gi * size + i) (by omega) (by omega)
        have e9 : (size + 1 - i).toNat = (size - i).toNat + 1 := by omega
        have h01 := bI_rg (2 ≤ (gi * size + i) % 4)
        refine lv_iload_n hx hb dX2_coloured_10 rfl (lv_at hl 1 rfl) ?_
        refine lv_aload_n hx hb dX2_coloured_11 rfl (lv_at hl 0 rfl) ?_
        refine va_get (D := D) (ci := 2) (ws := [(h, .inr (2, [.ref ro, .ref rk, .ref rf, .ref rp, .int (iI (size)), .int (iI (laid)), .int (iI (gath))])), (rk, .inr (5, [.ref ak])), (ak, fA cyI 65 kd)]) (v := .int (iI (size))) (C := RX2) (T := TX2) (N := 7) hx hb hts (fun _ h => List.mem_cons_of_mem _ (List.mem_append_left _ (List.mem_append_right _ h))) hown hK.1 hP 0 rfl rfl 4 (by decide) (hts _ fl_X2_coloured_29) (fun _ h9 => h9) rfl dX2_coloured_12 ?_
        refine fp_imul hx hb dX2_coloured_15 ?_
        refine lv_iload_n hx hb dX2_coloured_16 rfl (lv_at hl 3 rfl) ?_
        refine fp_iadd hx hb dX2_coloured_17 ?_
        refine lv_istore (lv' := [(4, .int (iI ((gi * size) + i))), (0, .ref h), (1, .int (iI (gi))), (2, .int (iI (sd))), (3, .int (iI (i)))]) hx hb dX2_coloured_18 hl (by decide) rfl (fun ls hl => ?_)
        refine lv_iload hx hb dX2_coloured_20 (lv_at hl 0 rfl) ?_
        refine fp_pSN (As := [.int (iI ((gi * size) + i))]) (rest := []) (wsC := [(h, .inr (2, [.ref ro, .ref rk, .ref rf, .ref rp, .int (iI (size)), .int (iI (laid)), .int (iI (gath))])), (rk, .inr (5, [.ref ak])), (ak, fA cyI 65 kd)]) ⟨hx, hb, hml, hown, hts⟩ (c_X7_sideOfPage l D cyI ((gi * size) + i) (by omega)) ⟨va_cnB 1 hts gX2_coloured_X7_sideOfPage_n101 rfl rfl rfl hK.2.2.2.1 (hts _ ini_X2_coloured_X7) (by decide +kernel) ⟨Nat.le_of_ble_eq_true rfl, Nat.le_of_ble_eq_true rfl⟩, (hts _ stt_X2_coloured_X7_sideOfPage), trivial⟩ hK hP hD [] (by decide) rfl rfl hl.1 rfl (Nat.le_of_ble_eq_true rfl) dX2_coloured_22 ⟨Nat.zero_le _, Nat.zero_le _⟩ ?_
        refine lv_iload_n hx hb dX2_coloured_25 rfl (lv_at hl 3 rfl) ?_
        refine fp_icmp_ne (tgt := 41) hx hb (by omega) dX2_coloured_26 (by decide) (fun q26 => ?_) (fun q26 => ?_)
        · skip
          have hn9 : ¬ hitI kd (gi * size) sd i = 1 := by unfold hitI; rw [bI_f (fun z => q26 z.1)]; omega
          refine fp_iinc (k := 4) (lv' := [(3, .int (iI (i + 1))), (4, .int (iI ((gi * size) + i))), (0, .ref h), (1, .int (iI (gi))), (2, .int (iI (sd)))]) hx hb dX2_coloured_41 hl rfl (by decide) rfl (fun ls hl => ?_)
          refine lv_goto (tgt := 2) hx hb dX2_coloured_44 (by decide) ?_
          exact ih0 (i + 1) (by omega) (by rw [ix, e9]; show (if _ then _ else _) = _; rw [if_neg hn9]; congr 1; omega) (by omega) ls (lv_sub hl [2, 3, 4, 0] rfl)
        · skip
          refine lv_aload_n hx hb dX2_coloured_29 rfl (lv_at hl 1 rfl) ?_
          refine lv_iload hx hb dX2_coloured_30 (lv_at hl 0 rfl) ?_
          refine fp_pV (As := [.int (iI ((gi * size) + i))]) (rest := []) (wsC := [(h, .inr (2, [.ref ro, .ref rk, .ref rf, .ref rp, .int (iI (size)), .int (iI (laid)), .int (iI (gath))])), (rk, .inr (5, [.ref ak])), (ak, fA cyI 65 kd)]) ⟨hx, hb, hml, hown, hts⟩ (c_X2_kind l D cyI h ro rk rf rp size laid gath ak kd ((gi * size) + i) (by omega)) (cwV 1 hts gX2_coloured_X2_kind rfl rfl rfl (by decide +kernel) ⟨Nat.le_of_ble_eq_true rfl, Nat.le_of_ble_eq_true rfl⟩) hK hP hD [0, 1, 2] (by decide) rfl rfl rfl rfl hl.1 rfl (Nat.le_of_ble_eq_true rfl) dX2_coloured_32 ⟨Nat.zero_le _, Nat.zero_le _⟩ ?_
          refine fp_iconst hx hb dX2_coloured_35 ?_
          refine fp_icmp_ne (tgt := 41) hx hb (by omega) dX2_coloured_36 (by decide) (fun q36 => ?_) (fun q36 => ?_)
          · skip
            have hn9 : ¬ hitI kd (gi * size) sd i = 1 := by unfold hitI; rw [bI_f (fun z => q36 z.2)]; omega
            refine fp_iinc (k := 4) (lv' := [(3, .int (iI (i + 1))), (4, .int (iI ((gi * size) + i))), (0, .ref h), (1, .int (iI (gi))), (2, .int (iI (sd)))]) hx hb dX2_coloured_41 hl rfl (by decide) rfl (fun ls hl => ?_)
            refine lv_goto (tgt := 2) hx hb dX2_coloured_44 (by decide) ?_
            exact ih0 (i + 1) (by omega) (by rw [ix, e9]; show (if _ then _ else _) = _; rw [if_neg hn9]; congr 1; omega) (by omega) ls (lv_sub hl [2, 3, 4, 0] rfl)
          · skip
            have hy9 : hitI kd (gi * size) sd i = 1 := by unfold hitI; exact bI_t ⟨q26, q36⟩
            refine fp_iconst hx hb dX2_coloured_39 ?_
            have hret : (colI kd size gi sd : Int) = 1 := (by rw [ix, e9]; show (if _ then _ else _) = _; rw [if_pos hy9])
            exact fp_ret hx hb hr hlocks dX2_coloured_40 (congrArg (fun z : Int => Value.int (iI z)) hret)
  exact lp0 (((size + 1 : Int) + 1 - (1)).toNat) 1 (by omega) (by unfold colI; congr 1; omega) (by omega) ls hl
theorem fl_X2_colouredSides_36 : Cond.fieldLink RX2 36 "FacingPlates$Layout" "gatherings" "I" ∈ wsX2_colouredSides := by decide +kernel
set_option maxHeartbeats 4000000 in
set_option maxRecDepth 100000 in
theorem c_X2_colouredSides (l : Launch) (D : va_G) (cyI : ClassId) (h : Nat) (ro : Nat) (rk : Nat) (rf : Nat) (rp : Nat) (size : Int) (laid : Int) (gath : Int) (ak : Nat) (kd : Int → Int) (hg : size = 4 ∨ size = 8 ∨ size = 16) (hgl : laid = gath * size ∧ 0 ≤ laid ∧ laid ≤ 64 ∧ 0 ≤ gath ∧ gath ≤ 16) (hR : ∀ p : Int, 1 ≤ p → p ≤ laid → 0 ≤ kd p ∧ kd p ≤ 4) : fp_M l yX2_colouredSides wsX2_colouredSides ({ frames := 3, cells := 0, slots := 0, locals := 66 } : Room) D cyI [(h, .inr (2, [.ref ro, .ref rk, .ref rf, .ref rp, .int (iI (size)), .int (iI (laid)), .int (iI (gath))])), (rk, .inr (5, [.ref ak])), (ak, fA cyI 65 kd)] [.ref h] (some (.int (iI (sumI gath.toNat (fun j => colI kd size j 0 + colI kd size j 1))))) := by
  refine fp_start (cc := cX2_colouredSides) (maxL := 3) (ret := (some .int)) (by decide) rfl (Nat.le_of_ble_eq_true rfl) ?_
  intro pg en sx mi ar bl mt cd ls hx hb hr hts hown hlocks hml hnm hP hK hD hl
  have hown : sx.vm.findClass RX2 = some mi.cls := hown
  have hl : lv_has ls 3 [(0, .ref h)] := hl
  refine fp_iconst hx hb dX2_colouredSides_0 ?_
  refine lv_istore_n (lv' := [(1, .int (iI (0))), (0, .ref h)]) hx hb dX2_colouredSides_1 rfl hl (by decide) rfl (fun ls hl => ?_)
  refine fp_iconst hx hb dX2_colouredSides_2 ?_
  refine lv_istore_n (lv' := [(2, .int (iI (0))), (1, .int (iI (0))), (0, .ref h)]) hx hb dX2_colouredSides_3 rfl hl (by decide) rfl (fun ls hl => ?_)
  have hl := lv_sub hl (l' := [(0, .ref h), (1, .int (iI (0))), (2, .int (iI (0)))]) [2, 1, 0] rfl
  have lp0 : ∀ (nf : Nat) (x : Int) (i : Int), (0 ≤ i ∧ i ≤ gath) → (x = sumI i.toNat (fun j => colI kd size j 0 + colI kd size j 1)) → (gath + 1 ≤ i + (nf : Int)) → ∀ (ls : Array Slot), lv_has ls 3 [(0, .ref h), (1, .int (iI (x))), (2, .int (iI (i)))] → W pg l en ({ frames := 3, cells := 0, slots := 0, locals := 66 } : Room) sx mi ar bl mt cd sx.heap [] 0 0 (MQ bl (fp_Qp (some (.int (iI (sumI gath.toNat (fun j => colI kd size j 0 + colI kd size j 1)))))) ar sx 0 0 (fun _ => False)) (F0 mi 4 ls []) := by
    intro nf
    induction nf with
    | zero =>
      intro x i ii ix hfuel
      exact absurd hfuel (by omega)
    | succ nf ih0 =>
      intro x i ii ix hfuel ls hl
      refine lv_iload_n hx hb dX2_colouredSides_4 rfl (lv_at hl 2 rfl) ?_
      refine lv_aload_n hx hb dX2_colouredSides_5 rfl (lv_at hl 0 rfl) ?_
      refine va_get (D := D) (ci := 2) (ws := [(h, .inr (2, [.ref ro, .ref rk, .ref rf, .ref rp, .int (iI (size)), .int (iI (laid)), .int (iI (gath))])), (rk, .inr (5, [.ref ak])), (ak, fA cyI 65 kd)]) (v := .int (iI (gath))) (C := RX2) (T := TX2) (N := 7) hx hb hts (fun _ h => List.mem_cons_of_mem _ (List.mem_append_left _ (List.mem_append_right _ h))) hown hK.1 hP 0 rfl rfl 6 (by decide) (hts _ fl_X2_colouredSides_36) (fun _ h9 => h9) rfl dX2_colouredSides_6 ?_
      refine fp_icmp_ge (tgt := 34) hx hb (by omega) dX2_colouredSides_9 (by decide) (fun q9 => ?_) (fun q9 => ?_)
      · skip
        refine lv_iload_n hx hb dX2_colouredSides_34 rfl (lv_at hl 1 rfl) ?_
        have hret : (sumI gath.toNat (fun j => colI kd size j 0 + colI kd size j 1) : Int) = x := (by rw [ix]; congr 2; omega)
        exact fp_ret hx hb hr hlocks dX2_colouredSides_35 (congrArg (fun z : Int => Value.int (iI z)) hret)
      · skip
        refine lv_iload_n hx hb dX2_colouredSides_12 rfl (lv_at hl 1 rfl) ?_
        refine lv_aload_n hx hb dX2_colouredSides_13 rfl (lv_at hl 0 rfl) ?_
        refine lv_iload_n hx hb dX2_colouredSides_14 rfl (lv_at hl 2 rfl) ?_
        refine fp_iconst hx hb dX2_colouredSides_15 ?_
        refine fp_pV (As := [.int (iI (i)), .int (iI (0))]) (rest := [.int (iI (x))]) (wsC := [(h, .inr (2, [.ref ro, .ref rk, .ref rf, .ref rp, .int (iI (size)), .int (iI (laid)), .int (iI (gath))])), (rk, .inr (5, [.ref ak])), (ak, fA cyI 65 kd)]) ⟨hx, hb, hml, hown, hts⟩ (c_X2_coloured l D cyI h ro rk rf rp size laid gath ak kd i 0 hg (by omega) hgl hR (by omega)) (cwV 2 hts gX2_colouredSides_X2_coloured rfl rfl rfl (by decide +kernel) ⟨Nat.le_of_ble_eq_true rfl, Nat.le_of_ble_eq_true rfl⟩) hK hP hD [0, 1, 2] (by decide) rfl rfl rfl rfl hl.1 rfl (Nat.le_of_ble_eq_true rfl) dX2_colouredSides_16 ⟨Nat.zero_le _, Nat.zero_le _⟩ ?_
        refine lv_aload_n hx hb dX2_colouredSides_19 rfl (lv_at hl 0 rfl) ?_
        refine lv_iload_n hx hb dX2_colouredSides_20 rfl (lv_at hl 2 rfl) ?_
        refine fp_iconst hx hb dX2_colouredSides_21 ?_
        refine fp_pV (As := [.int (iI (i)), .int (iI (1))]) (rest := [.int (iI (colI kd size i 0)), .int (iI (x))]) (wsC := [(h, .inr (2, [.ref ro, .ref rk, .ref rf, .ref rp, .int (iI (size)), .int (iI (laid)), .int (iI (gath))])), (rk, .inr (5, [.ref ak])), (ak, fA cyI 65 kd)]) ⟨hx, hb, hml, hown, hts⟩ (c_X2_coloured l D cyI h ro rk rf rp size laid gath ak kd i 1 hg (by omega) hgl hR (by omega)) (cwV 2 hts gX2_colouredSides_X2_coloured rfl rfl rfl (by decide +kernel) ⟨Nat.le_of_ble_eq_true rfl, Nat.le_of_ble_eq_true rfl⟩) hK hP hD [0, 1, 2] (by decide) rfl rfl rfl rfl hl.1 rfl (Nat.le_of_ble_eq_true rfl) dX2_colouredSides_22 ⟨Nat.zero_le _, Nat.zero_le _⟩ ?_
        refine fp_iadd hx hb dX2_colouredSides_25 ?_
        refine fp_iadd hx hb dX2_colouredSides_26 ?_
        refine lv_istore_n (lv' := [(1, .int (iI (x + ((colI kd size i 0) + (colI kd size i 1))))), (0, .ref h), (2, .int (iI (i)))]) hx hb dX2_colouredSides_27 rfl hl (by decide) rfl (fun ls hl => ?_)
        refine fp_iinc (k := 2) (lv' := [(2, .int (iI (i + 1))), (1, .int (iI (x + ((colI kd size i 0) + (colI kd size i 1))))), (0, .ref h)]) hx hb dX2_colouredSides_28 hl rfl (by decide) rfl (fun ls hl => ?_)
        refine lv_goto (tgt := 4) hx hb dX2_colouredSides_31 (by decide) ?_
        exact ih0 (x + ((colI kd size i 0) + (colI kd size i 1))) (i + 1) (by omega) (by rw [ix, sumI_s _ ii.1]) (by omega) ls (lv_sub hl [2, 1, 0] rfl)
  exact lp0 (((gath : Int) + 1 - (0)).toNat) 0 0 (by omega) rfl (by omega) ls hl
theorem fl_X2_layPage_33 : Cond.fieldLink RX2 33 "FacingPlates$Layout" "laid" "I" ∈ wsX2_layPage := by decide +kernel
theorem fl_X2_layPage_14 : Cond.fieldLink RX2 14 "FacingPlates$Layout" "owners" "LFacingPlates$Row;" ∈ wsX2_layPage := by decide +kernel
theorem fl_X2_layPage_20 : Cond.fieldLink RX2 20 "FacingPlates$Layout" "kinds" "LFacingPlates$Row;" ∈ wsX2_layPage := by decide +kernel
set_option maxHeartbeats 4000000 in
set_option maxRecDepth 100000 in
theorem c_X2_layPage (l : Launch) (D : va_G) (cyI : ClassId) (h : Nat) (ro : Nat) (rk : Nat) (rf : Nat) (rp : Nat) (size : Int) (laid : Int) (gath : Int) (ao : Nat) (o : Int → Int) (ak : Nat) (kd : Int → Int) (ow : Int) (ki : Int) (hl0 : 0 ≤ laid ∧ laid < 64) : fp_MW l yX2_layPage wsX2_layPage ({ frames := 1, cells := 0, slots := 0, locals := 22 } : Room) D cyI [(h, .inr (2, [.ref ro, .ref rk, .ref rf, .ref rp, .int (iI (size)), .int (iI (laid)), .int (iI (gath))])), (ro, .inr (5, [.ref ao])), (ao, fA cyI 65 o), (rk, .inr (5, [.ref ak])), (ak, fA cyI 65 kd)] [.ref h, .int (iI (ow)), .int (iI (ki))] (fun (u9 : Unit) => True) (fun (u9 : Unit) => none) (fun (u9 : Unit) => [(h, .inr (2, [.ref ro, .ref rk, .ref rf, .ref rp, .int (iI (size)), .int (iI (laid + 1)), .int (iI (gath))])), (ro, .inr (5, [.ref ao])), (ao, fA cyI 65 (upI o (laid + 1) ow)), (rk, .inr (5, [.ref ak])), (ak, fA cyI 65 (upI kd (laid + 1) ki))]) := by
  refine fp_start (cc := cX2_layPage) (maxL := 3) (ret := none) (by decide) rfl (Nat.le_of_ble_eq_true rfl) ?_
  intro pg en sx mi ar bl mt cd ls hx hb hr hts hown hlocks hml hnm hP hK hD hl
  have hown : sx.vm.findClass RX2 = some mi.cls := hown
  have hl : lv_has ls 3 [(0, .ref h), (1, .int (iI (ow))), (2, .int (iI (ki)))] := hl
  have hD := fp_self hD
  have hS : va_S (fp_A [(h, .inr (2, [.ref ro, .ref rk, .ref rf, .ref rp, .int (iI (size)), .int (iI (laid)), .int (iI (gath))])), (ro, .inr (5, [.ref ao])), (ao, fA cyI 65 o), (rk, .inr (5, [.ref ak])), (ak, fA cyI 65 kd)]) sx.heap sx.heap [] := va_S.rf
  refine lv_aload_n hx hb dX2_layPage_0 rfl (lv_at hl 0 rfl) ?_
  refine lv_dup hx hb dX2_layPage_1 rfl ?_
  refine va_get (D := D) (ci := 2) (ws := [(h, .inr (2, [.ref ro, .ref rk, .ref rf, .ref rp, .int (iI (size)), .int (iI (laid)), .int (iI (gath))])), (ro, .inr (5, [.ref ao])), (ao, fA cyI 65 o), (rk, .inr (5, [.ref ak])), (ak, fA cyI 65 kd)]) (v := .int (iI (laid))) (C := RX2) (T := TX2) (N := 7) hx hb hts (fun _ h => List.mem_cons_of_mem _ (List.mem_append_left _ (List.mem_append_right _ h))) hown hK.1 hP 0 rfl rfl 5 (by decide) (hts _ fl_X2_layPage_33) (fun _ h9 => h9) rfl dX2_layPage_2 ?_
  refine fp_iconst hx hb dX2_layPage_5 ?_
  refine fp_iadd hx hb dX2_layPage_6 ?_
  refine va_put (D := D) (ci := 2) (ws := [(h, .inr (2, [.ref ro, .ref rk, .ref rf, .ref rp, .int (iI (size)), .int (iI (laid)), .int (iI (gath))])), (ro, .inr (5, [.ref ao])), (ao, fA cyI 65 o), (rk, .inr (5, [.ref ak])), (ak, fA cyI 65 kd)]) (v := .int (iI (laid + 1))) (ty := .int) (C := RX2) (T := TX2) (N := 7) hx hb hts (fun _ h => List.mem_cons_of_mem _ (List.mem_append_left _ (List.mem_append_right _ h))) tyX2 tyX2_ok nmX2 hown hK.1 hP hD hS 0 rfl rfl 5 (by decide) (hts _ fl_X2_layPage_33) (fun _ h9 => h9) rfl (by decide +kernel) rfl rfl (Nat.le_of_ble_eq_true rfl) dX2_layPage_7 (fun H locs hP hD hS => ?_)
  have hP : va_P D vwCl [(h, .inr (2, [.ref ro, .ref rk, .ref rf, .ref rp, .int (iI (size)), .int (iI (laid + 1)), .int (iI (gath))])), (ro, .inr (5, [.ref ao])), (ao, fA cyI 65 o), (rk, .inr (5, [.ref ak])), (ak, fA cyI 65 kd)] H := hP
  have hD : va_D (fp_A [(h, .inr (2, [.ref ro, .ref rk, .ref rf, .ref rp, .int (iI (size)), .int (iI (laid)), .int (iI (gath))])), (ro, .inr (5, [.ref ao])), (ao, fA cyI 65 o), (rk, .inr (5, [.ref ak])), (ak, fA cyI 65 kd)]) [(h, .inr (2, [.ref ro, .ref rk, .ref rf, .ref rp, .int (iI (size)), .int (iI (laid + 1)), .int (iI (gath))])), (ro, .inr (5, [.ref ao])), (ao, fA cyI 65 o), (rk, .inr (5, [.ref ak])), (ak, fA cyI 65 kd)] := hD
  refine lv_aload_n hx hb dX2_layPage_10 rfl (lv_at hl 0 rfl) ?_
  refine va_get (D := D) (ci := 2) (ws := [(h, .inr (2, [.ref ro, .ref rk, .ref rf, .ref rp, .int (iI (size)), .int (iI (laid + 1)), .int (iI (gath))])), (ro, .inr (5, [.ref ao])), (ao, fA cyI 65 o), (rk, .inr (5, [.ref ak])), (ak, fA cyI 65 kd)]) (v := .ref ro) (C := RX2) (T := TX2) (N := 7) hx hb hts (fun _ h => List.mem_cons_of_mem _ (List.mem_append_left _ (List.mem_append_right _ h))) hown hK.1 hP 0 rfl rfl 0 (by decide) (hts _ fl_X2_layPage_14) (fun _ h9 => h9) rfl dX2_layPage_11 ?_
  refine lv_aload_n hx hb dX2_layPage_14 rfl (lv_at hl 0 rfl) ?_
  refine va_get (D := D) (ci := 2) (ws := [(h, .inr (2, [.ref ro, .ref rk, .ref rf, .ref rp, .int (iI (size)), .int (iI (laid + 1)), .int (iI (gath))])), (ro, .inr (5, [.ref ao])), (ao, fA cyI 65 o), (rk, .inr (5, [.ref ak])), (ak, fA cyI 65 kd)]) (v := .int (iI (laid + 1))) (C := RX2) (T := TX2) (N := 7) hx hb hts (fun _ h => List.mem_cons_of_mem _ (List.mem_append_left _ (List.mem_append_right _ h))) hown hK.1 hP 0 rfl rfl 5 (by decide) (hts _ fl_X2_layPage_33) (fun _ h9 => h9) rfl dX2_layPage_15 ?_
  refine lv_iload_n hx hb dX2_layPage_18 rfl (lv_at hl 1 rfl) ?_
  refine fp_wV (As := [.int (iI (laid + 1)), .int (iI (ow))]) (rest := []) (wsC := [(h, .inr (2, [.ref ro, .ref rk, .ref rf, .ref rp, .int (iI (size)), .int (iI (laid + 1)), .int (iI (gath))])), (ro, .inr (5, [.ref ao])), (ao, fA cyI 65 o), (rk, .inr (5, [.ref ak])), (ak, fA cyI 65 kd)]) ⟨hx, hb, hml, hown, hts⟩ (c_X5_put l D cyI ro ao 65 o (laid + 1) ow (by omega) (by decide)) (cwV 2 hts gX2_layPage_X5_put rfl rfl rfl (by decide +kernel) ⟨Nat.le_of_ble_eq_true rfl, Nat.le_of_ble_eq_true rfl⟩) (fun _ => rfl) hK hP hD hS [1, 2] (by decide) rfl rfl rfl rfl hl.1 rfl (Nat.le_of_ble_eq_true rfl) dX2_layPage_19 ⟨Nat.zero_le _, Nat.zero_le _⟩ (fun u9v H locs hu hP hD hS => ?_)
  refine W.eq (g2 := F0 mi 22 ls []) rfl ?_
  have hP : va_P D vwCl [(h, .inr (2, [.ref ro, .ref rk, .ref rf, .ref rp, .int (iI (size)), .int (iI (laid + 1)), .int (iI (gath))])), (ro, .inr (5, [.ref ao])), (ao, fA cyI 65 (upI o (laid + 1) ow)), (rk, .inr (5, [.ref ak])), (ak, fA cyI 65 kd)] H := hP
  have hD : va_D (fp_A [(h, .inr (2, [.ref ro, .ref rk, .ref rf, .ref rp, .int (iI (size)), .int (iI (laid)), .int (iI (gath))])), (ro, .inr (5, [.ref ao])), (ao, fA cyI 65 o), (rk, .inr (5, [.ref ak])), (ak, fA cyI 65 kd)]) [(h, .inr (2, [.ref ro, .ref rk, .ref rf, .ref rp, .int (iI (size)), .int (iI (laid + 1)), .int (iI (gath))])), (ro, .inr (5, [.ref ao])), (ao, fA cyI 65 (upI o (laid + 1) ow)), (rk, .inr (5, [.ref ak])), (ak, fA cyI 65 kd)] := hD
  refine lv_aload_n hx hb dX2_layPage_22 rfl (lv_at hl 0 rfl) ?_
  refine va_get (D := D) (ci := 2) (ws := [(h, .inr (2, [.ref ro, .ref rk, .ref rf, .ref rp, .int (iI (size)), .int (iI (laid + 1)), .int (iI (gath))])), (ro, .inr (5, [.ref ao])), (ao, fA cyI 65 (upI o (laid + 1) ow)), (rk, .inr (5, [.ref ak])), (ak, fA cyI 65 kd)]) (v := .ref rk) (C := RX2) (T := TX2) (N := 7) hx hb hts (fun _ h => List.mem_cons_of_mem _ (List.mem_append_left _ (List.mem_append_right _ h))) hown hK.1 hP 0 rfl rfl 1 (by decide) (hts _ fl_X2_layPage_20) (fun _ h9 => h9) rfl dX2_layPage_23 ?_
  refine lv_aload_n hx hb dX2_layPage_26 rfl (lv_at hl 0 rfl) ?_
  refine va_get (D := D) (ci := 2) (ws := [(h, .inr (2, [.ref ro, .ref rk, .ref rf, .ref rp, .int (iI (size)), .int (iI (laid + 1)), .int (iI (gath))])), (ro, .inr (5, [.ref ao])), (ao, fA cyI 65 (upI o (laid + 1) ow)), (rk, .inr (5, [.ref ak])), (ak, fA cyI 65 kd)]) (v := .int (iI (laid + 1))) (C := RX2) (T := TX2) (N := 7) hx hb hts (fun _ h => List.mem_cons_of_mem _ (List.mem_append_left _ (List.mem_append_right _ h))) hown hK.1 hP 0 rfl rfl 5 (by decide) (hts _ fl_X2_layPage_33) (fun _ h9 => h9) rfl dX2_layPage_27 ?_
  refine lv_iload_n hx hb dX2_layPage_30 rfl (lv_at hl 2 rfl) ?_
  refine fp_wV (As := [.int (iI (laid + 1)), .int (iI (ki))]) (rest := []) (wsC := [(h, .inr (2, [.ref ro, .ref rk, .ref rf, .ref rp, .int (iI (size)), .int (iI (laid + 1)), .int (iI (gath))])), (ro, .inr (5, [.ref ao])), (ao, fA cyI 65 (upI o (laid + 1) ow)), (rk, .inr (5, [.ref ak])), (ak, fA cyI 65 kd)]) ⟨hx, hb, hml, hown, hts⟩ (c_X5_put l D cyI rk ak 65 kd (laid + 1) ki (by omega) (by decide)) (cwV 2 hts gX2_layPage_X5_put rfl rfl rfl (by decide +kernel) ⟨Nat.le_of_ble_eq_true rfl, Nat.le_of_ble_eq_true rfl⟩) (fun _ => rfl) hK hP hD hS [3, 4] (by decide) rfl rfl rfl rfl hl.1 rfl (Nat.le_of_ble_eq_true rfl) dX2_layPage_31 ⟨Nat.zero_le _, Nat.zero_le _⟩ (fun u9v H locs hu hP hD hS => ?_)
  refine W.eq (g2 := F0 mi 34 ls []) rfl ?_
  have hP : va_P D vwCl [(h, .inr (2, [.ref ro, .ref rk, .ref rf, .ref rp, .int (iI (size)), .int (iI (laid + 1)), .int (iI (gath))])), (ro, .inr (5, [.ref ao])), (ao, fA cyI 65 (upI o (laid + 1) ow)), (rk, .inr (5, [.ref ak])), (ak, fA cyI 65 (upI kd (laid + 1) ki))] H := hP
  have hD : va_D (fp_A [(h, .inr (2, [.ref ro, .ref rk, .ref rf, .ref rp, .int (iI (size)), .int (iI (laid)), .int (iI (gath))])), (ro, .inr (5, [.ref ao])), (ao, fA cyI 65 o), (rk, .inr (5, [.ref ak])), (ak, fA cyI 65 kd)]) [(h, .inr (2, [.ref ro, .ref rk, .ref rf, .ref rp, .int (iI (size)), .int (iI (laid + 1)), .int (iI (gath))])), (ro, .inr (5, [.ref ao])), (ao, fA cyI 65 (upI o (laid + 1) ow)), (rk, .inr (5, [.ref ak])), (ak, fA cyI 65 (upI kd (laid + 1) ki))] := hD
  exact fp_wvret () hx hb hr hlocks hS hP trivial rfl dX2_layPage_34
def plO (c : Int → Int) (k i : Int) : Int := bI (¬ c (k * 4 + 2) = 0 ∧ c (k * 4 + 4) < i)
theorem fl_X2_layLot_23 : Cond.fieldLink RX2 23 "FacingPlates$Layout" "firstPages" "LFacingPlates$Row;" ∈ wsX2_layLot := by decide +kernel
theorem fl_X2_layLot_33 : Cond.fieldLink RX2 33 "FacingPlates$Layout" "laid" "I" ∈ wsX2_layLot := by decide +kernel
theorem fl_X2_layLot_26 : Cond.fieldLink RX2 26 "FacingPlates$Layout" "platePages" "LFacingPlates$Row;" ∈ wsX2_layLot := by decide +kernel
set_option maxHeartbeats 4000000 in
set_option maxRecDepth 100000 in
theorem c_X2_layLot (l : Launch) (D : va_G) (cyI : ClassId) (h : Nat) (ro : Nat) (rk : Nat) (rf : Nat) (rp : Nat) (size : Int) (laid : Int) (gath : Int) (ao : Nat) (o : Int → Int) (ak : Nat) (kd : Int → Int) (af : Nat) (f : Int → Int) (ap : Nat) (g : Int → Int) (ch : Nat) (cr : Nat) (ca : Nat) (c : Int → Int) (k : Int) (hC : CatOK c) (hk : 0 ≤ k ∧ k < c 0) (hlk : laid = pgC c k) (hLP : LayP c laid o kd) (hLF : LayF c k f g) : fp_MW l yX2_layLot wsX2_layLot ({ frames := 2, cells := 0, slots := 0, locals := 44 } : Room) D cyI [(h, .inr (2, [.ref ro, .ref rk, .ref rf, .ref rp, .int (iI (size)), .int (iI (laid)), .int (iI (gath))])), (ro, .inr (5, [.ref ao])), (ao, fA cyI 65 o), (rk, .inr (5, [.ref ak])), (ak, fA cyI 65 kd), (rf, .inr (5, [.ref af])), (af, fA cyI 12 f), (rp, .inr (5, [.ref ap])), (ap, fA cyI 12 g), (ch, .inr (0, [.ref cr])), (cr, .inr (5, [.ref ca])), (ca, fA cyI 54 c)] [.ref h, .ref ch, .int (iI (k))] (fun (u9 : (Int → Int) × (Int → Int) × (Int → Int) × (Int → Int)) => (LayP c (pgC c (k + 1)) u9.1 u9.2.1) ∧ (LayF c (k + 1) u9.2.2.1 u9.2.2.2)) (fun (u9 : (Int → Int) × (Int → Int) × (Int → Int) × (Int → Int)) => none) (fun (u9 : (Int → Int) × (Int → Int) × (Int → Int) × (Int → Int)) => [(h, .inr (2, [.ref ro, .ref rk, .ref rf, .ref rp, .int (iI (size)), .int (iI (pgC c (k + 1))), .int (iI (gath))])), (ro, .inr (5, [.ref ao])), (ao, fA cyI 65 u9.1), (rk, .inr (5, [.ref ak])), (ak, fA cyI 65 u9.2.1), (rf, .inr (5, [.ref af])), (af, fA cyI 12 u9.2.2.1), (rp, .inr (5, [.ref ap])), (ap, fA cyI 12 u9.2.2.2), (ch, .inr (0, [.ref cr])), (cr, .inr (5, [.ref ca])), (ca, fA cyI 54 c)]) := by
  refine fp_start (cc := cX2_layLot) (maxL := 4) (ret := none) (by decide) rfl (Nat.le_of_ble_eq_true rfl) ?_
  intro pg en sx mi ar bl mt cd ls hx hb hr hts hown hlocks hml hnm hP hK hD hl
  have hown : sx.vm.findClass RX2 = some mi.cls := hown
  have hl : lv_has ls 4 [(0, .ref h), (1, .ref ch), (2, .int (iI (k)))] := hl
  have hD := fp_self hD
  have hS : va_S (fp_A [(h, .inr (2, [.ref ro, .ref rk, .ref rf, .ref rp, .int (iI (size)), .int (iI (laid)), .int (iI (gath))])), (ro, .inr (5, [.ref ao])), (ao, fA cyI 65 o), (rk, .inr (5, [.ref ak])), (ak, fA cyI 65 kd), (rf, .inr (5, [.ref af])), (af, fA cyI 12 f), (rp, .inr (5, [.ref ap])), (ap, fA cyI 12 g), (ch, .inr (0, [.ref cr])), (cr, .inr (5, [.ref ca])), (ca, fA cyI 54 c)]) sx.heap sx.heap [] := va_S.rf
  have hL := lot_f hC hk
  unfold LotOK at hL
  have hN := hC.1
  have hpg := pgC_b hC (k := k) (by omega)
  have hlen := len_rg hC hk
  have hits := its_rg hC hk
  have hps := pgC_s (c := c) hk.1
  refine lv_aload_n hx hb dX2_layLot_0 rfl (lv_at hl 1 rfl) ?_
  refine lv_iload_n hx hb dX2_layLot_1 rfl (lv_at hl 2 rfl) ?_
  refine fp_pV (As := [.int (iI (k))]) (rest := []) (wsC := [(h, .inr (2, [.ref ro, .ref rk, .ref rf, .ref rp, .int (iI (size)), .int (iI (laid)), .int (iI (gath))])), (ro, .inr (5, [.ref ao])), (ao, fA cyI 65 o), (rk, .inr (5, [.ref ak])), (ak, fA cyI 65 kd), (rf, .inr (5, [.ref af])), (af, fA cyI 12 f), (rp, .inr (5, [.ref ap])), (ap, fA cyI 12 g), (ch, .inr (0, [.ref cr])), (cr, .inr (5, [.ref ca])), (ca, fA cyI 54 c)]) ⟨hx, hb, hml, hown, hts⟩ (c_X0_blank l D cyI ch cr ca c k (by omega)) (cwV 1 hts gX2_layLot_X0_blank rfl rfl rfl (by decide +kernel) ⟨Nat.le_of_ble_eq_true rfl, Nat.le_of_ble_eq_true rfl⟩) hK hP hD [9, 10, 11] (by decide) rfl rfl rfl rfl hl.1 rfl (Nat.le_of_ble_eq_true rfl) dX2_layLot_2 ⟨Nat.zero_le _, Nat.zero_le _⟩ ?_
  have jn0 : ∀ (o1 : Int → Int) (k1 : Int → Int) (m1 : Int), (m1 = pgC c k + c (k * 4 + 3)) → (LayP c m1 o1 k1) → ∀ (H : Heap) (locs : List Loc), va_P D vwCl [(h, .inr (2, [.ref ro, .ref rk, .ref rf, .ref rp, .int (iI (size)), .int (iI (m1)), .int (iI (gath))])), (ro, .inr (5, [.ref ao])), (ao, fA cyI 65 o1), (rk, .inr (5, [.ref ak])), (ak, fA cyI 65 k1), (rf, .inr (5, [.ref af])), (af, fA cyI 12 f), (rp, .inr (5, [.ref ap])), (ap, fA cyI 12 g), (ch, .inr (0, [.ref cr])), (cr, .inr (5, [.ref ca])), (ca, fA cyI 54 c)] H → va_D (fp_A [(h, .inr (2, [.ref ro, .ref rk, .ref rf, .ref rp, .int (iI (size)), .int (iI (laid)), .int (iI (gath))])), (ro, .inr (5, [.ref ao])), (ao, fA cyI 65 o), (rk, .inr (5, [.ref ak])), (ak, fA cyI 65 kd), (rf, .inr (5, [.ref af])), (af, fA cyI 12 f), (rp, .inr (5, [.ref ap])), (ap, fA cyI 12 g), (ch, .inr (0, [.ref cr])), (cr, .inr (5, [.ref ca])), (ca, fA cyI 54 c)]) [(h, .inr (2, [.ref ro, .ref rk, .ref rf, .ref rp, .int (iI (size)), .int (iI (m1)), .int (iI (gath))])), (ro, .inr (5, [.ref ao])), (ao, fA cyI 65 o1), (rk, .inr (5, [.ref ak])), (ak, fA cyI 65 k1), (rf, .inr (5, [.ref af])), (af, fA cyI 12 f), (rp, .inr (5, [.ref ap])), (ap, fA cyI 12 g), (ch, .inr (0, [.ref cr])), (cr, .inr (5, [.ref ca])), (ca, fA cyI 54 c)] → va_S (fp_A [(h, .inr (2, [.ref ro, .ref rk, .ref rf, .ref rp, .int (iI (size)), .int (iI (laid)), .int (iI (gath))])), (ro, .inr (5, [.ref ao])), (ao, fA cyI 65 o), (rk, .inr (5, [.ref ak])), (ak, fA cyI 65 kd), (rf, .inr (5, [.ref af])), (af, fA cyI 12 f), (rp, .inr (5, [.ref ap])), (ap, fA cyI 12 g), (ch, .inr (0, [.ref cr])), (cr, .inr (5, [.ref ca])), (ca, fA cyI 54 c)]) sx.heap H locs → ∀ (ls : Array Slot), lv_has ls 4 [(0, .ref h), (1, .ref ch), (2, .int (iI (k)))] → W pg l en ({ frames := 2, cells := 0, slots := 0, locals := 44 } : Room) sx mi ar bl mt cd H locs 0 0 (MQ bl (fp_Qw D [(h, .inr (2, [.ref ro, .ref rk, .ref rf, .ref rp, .int (iI (size)), .int (iI (laid)), .int (iI (gath))])), (ro, .inr (5, [.ref ao])), (ao, fA cyI 65 o), (rk, .inr (5, [.ref ak])), (ak, fA cyI 65 kd), (rf, .inr (5, [.ref af])), (af, fA cyI 12 f), (rp, .inr (5, [.ref ap])), (ap, fA cyI 12 g), (ch, .inr (0, [.ref cr])), (cr, .inr (5, [.ref ca])), (ca, fA cyI 54 c)] (fun (u9 : (Int → Int) × (Int → Int) × (Int → Int) × (Int → Int)) => (LayP c (pgC c (k + 1)) u9.1 u9.2.1) ∧ (LayF c (k + 1) u9.2.2.1 u9.2.2.2)) (fun (u9 : (Int → Int) × (Int → Int) × (Int → Int) × (Int → Int)) => none) (fun (u9 : (Int → Int) × (Int → Int) × (Int → Int) × (Int → Int)) => [(h, .inr (2, [.ref ro, .ref rk, .ref rf, .ref rp, .int (iI (size)), .int (iI (pgC c (k + 1))), .int (iI (gath))])), (ro, .inr (5, [.ref ao])), (ao, fA cyI 65 u9.1), (rk, .inr (5, [.ref ak])), (ak, fA cyI 65 u9.2.1), (rf, .inr (5, [.ref af])), (af, fA cyI 12 u9.2.2.1), (rp, .inr (5, [.ref ap])), (ap, fA cyI 12 u9.2.2.2), (ch, .inr (0, [.ref cr])), (cr, .inr (5, [.ref ca])), (ca, fA cyI 54 c)])) ar sx 0 0 (fp_A [(h, .inr (2, [.ref ro, .ref rk, .ref rf, .ref rp, .int (iI (size)), .int (iI (laid)), .int (iI (gath))])), (ro, .inr (5, [.ref ao])), (ao, fA cyI 65 o), (rk, .inr (5, [.ref ak])), (ak, fA cyI 65 kd), (rf, .inr (5, [.ref af])), (af, fA cyI 12 f), (rp, .inr (5, [.ref ap])), (ap, fA cyI 12 g), (ch, .inr (0, [.ref cr])), (cr, .inr (5, [.ref ca])), (ca, fA cyI 54 c)])) (F0 mi 15 ls []) := by
    intro o1 k1 m1 jm jP H locs hP hD hS ls hl
    refine lv_aload_n hx hb dX2_layLot_15 rfl (lv_at hl 0 rfl) ?_
    refine va_get (D := D) (ci := 2) (ws := [(h, .inr (2, [.ref ro, .ref rk, .ref rf, .ref rp, .int (iI (size)), .int (iI (m1)), .int (iI (gath))])), (ro, .inr (5, [.ref ao])), (ao, fA cyI 65 o1), (rk, .inr (5, [.ref ak])), (ak, fA cyI 65 k1), (rf, .inr (5, [.ref af])), (af, fA cyI 12 f), (rp, .inr (5, [.ref ap])), (ap, fA cyI 12 g), (ch, .inr (0, [.ref cr])), (cr, .inr (5, [.ref ca])), (ca, fA cyI 54 c)]) (v := .ref rf) (C := RX2) (T := TX2) (N := 7) hx hb hts (fun _ h => List.mem_cons_of_mem _ (List.mem_append_left _ (List.mem_append_left _ (List.mem_append_right _ h)))) hown hK.1 hP 0 rfl rfl 2 (by decide) (hts _ fl_X2_layLot_23) (fun _ h9 => h9) rfl dX2_layLot_16 ?_
    refine lv_iload_n hx hb dX2_layLot_19 rfl (lv_at hl 2 rfl) ?_
    refine lv_aload_n hx hb dX2_layLot_20 rfl (lv_at hl 0 rfl) ?_
    refine va_get (D := D) (ci := 2) (ws := [(h, .inr (2, [.ref ro, .ref rk, .ref rf, .ref rp, .int (iI (size)), .int (iI (m1)), .int (iI (gath))])), (ro, .inr (5, [.ref ao])), (ao, fA cyI 65 o1), (rk, .inr (5, [.ref ak])), (ak, fA cyI 65 k1), (rf, .inr (5, [.ref af])), (af, fA cyI 12 f), (rp, .inr (5, [.ref ap])), (ap, fA cyI 12 g), (ch, .inr (0, [.ref cr])), (cr, .inr (5, [.ref ca])), (ca, fA cyI 54 c)]) (v := .int (iI (m1))) (C := RX2) (T := TX2) (N := 7) hx hb hts (fun _ h => List.mem_cons_of_mem _ (List.mem_append_left _ (List.mem_append_left _ (List.mem_append_right _ h)))) hown hK.1 hP 0 rfl rfl 5 (by decide) (hts _ fl_X2_layLot_33) (fun _ h9 => h9) rfl dX2_layLot_21 ?_
    refine fp_iconst hx hb dX2_layLot_24 ?_
    refine fp_iadd hx hb dX2_layLot_25 ?_
    refine fp_wV (As := [.int (iI (k)), .int (iI (m1 + 1))]) (rest := []) (wsC := [(h, .inr (2, [.ref ro, .ref rk, .ref rf, .ref rp, .int (iI (size)), .int (iI (m1)), .int (iI (gath))])), (ro, .inr (5, [.ref ao])), (ao, fA cyI 65 o1), (rk, .inr (5, [.ref ak])), (ak, fA cyI 65 k1), (rf, .inr (5, [.ref af])), (af, fA cyI 12 f), (rp, .inr (5, [.ref ap])), (ap, fA cyI 12 g), (ch, .inr (0, [.ref cr])), (cr, .inr (5, [.ref ca])), (ca, fA cyI 54 c)]) ⟨hx, hb, hml, hown, hts⟩ (c_X5_put l D cyI rf af 12 f k (m1 + 1) (by omega) (by decide)) (cwV 2 hts gX2_layLot_X5_put rfl rfl rfl (by decide +kernel) ⟨Nat.le_of_ble_eq_true rfl, Nat.le_of_ble_eq_true rfl⟩) (fun _ => rfl) hK hP hD hS [5, 6] (by decide) rfl rfl rfl rfl hl.1 rfl (Nat.le_of_ble_eq_true rfl) dX2_layLot_26 ⟨Nat.zero_le _, Nat.zero_le _⟩ (fun u9v H locs hu hP hD hS => ?_)
    refine W.eq (g2 := F0 mi 29 ls []) rfl ?_
    have hP : va_P D vwCl [(h, .inr (2, [.ref ro, .ref rk, .ref rf, .ref rp, .int (iI (size)), .int (iI (m1)), .int (iI (gath))])), (ro, .inr (5, [.ref ao])), (ao, fA cyI 65 o1), (rk, .inr (5, [.ref ak])), (ak, fA cyI 65 k1), (rf, .inr (5, [.ref af])), (af, fA cyI 12 (upI f k (m1 + 1))), (rp, .inr (5, [.ref ap])), (ap, fA cyI 12 g), (ch, .inr (0, [.ref cr])), (cr, .inr (5, [.ref ca])), (ca, fA cyI 54 c)] H := hP
    have hD : va_D (fp_A [(h, .inr (2, [.ref ro, .ref rk, .ref rf, .ref rp, .int (iI (size)), .int (iI (laid)), .int (iI (gath))])), (ro, .inr (5, [.ref ao])), (ao, fA cyI 65 o), (rk, .inr (5, [.ref ak])), (ak, fA cyI 65 kd), (rf, .inr (5, [.ref af])), (af, fA cyI 12 f), (rp, .inr (5, [.ref ap])), (ap, fA cyI 12 g), (ch, .inr (0, [.ref cr])), (cr, .inr (5, [.ref ca])), (ca, fA cyI 54 c)]) [(h, .inr (2, [.ref ro, .ref rk, .ref rf, .ref rp, .int (iI (size)), .int (iI (m1)), .int (iI (gath))])), (ro, .inr (5, [.ref ao])), (ao, fA cyI 65 o1), (rk, .inr (5, [.ref ak])), (ak, fA cyI 65 k1), (rf, .inr (5, [.ref af])), (af, fA cyI 12 (upI f k (m1 + 1))), (rp, .inr (5, [.ref ap])), (ap, fA cyI 12 g), (ch, .inr (0, [.ref cr])), (cr, .inr (5, [.ref ca])), (ca, fA cyI 54 c)] := hD
    refine lv_aload_n hx hb dX2_layLot_29 rfl (lv_at hl 0 rfl) ?_
    refine va_get (D := D) (ci := 2) (ws := [(h, .inr (2, [.ref ro, .ref rk, .ref rf, .ref rp, .int (iI (size)), .int (iI (m1)), .int (iI (gath))])), (ro, .inr (5, [.ref ao])), (ao, fA cyI 65 o1), (rk, .inr (5, [.ref ak])), (ak, fA cyI 65 k1), (rf, .inr (5, [.ref af])), (af, fA cyI 12 (upI f k (m1 + 1))), (rp, .inr (5, [.ref ap])), (ap, fA cyI 12 g), (ch, .inr (0, [.ref cr])), (cr, .inr (5, [.ref ca])), (ca, fA cyI 54 c)]) (v := .ref rp) (C := RX2) (T := TX2) (N := 7) hx hb hts (fun _ h => List.mem_cons_of_mem _ (List.mem_append_left _ (List.mem_append_left _ (List.mem_append_right _ h)))) hown hK.1 hP 0 rfl rfl 3 (by decide) (hts _ fl_X2_layLot_26) (fun _ h9 => h9) rfl dX2_layLot_30 ?_
    refine lv_iload_n hx hb dX2_layLot_33 rfl (lv_at hl 2 rfl) ?_
    refine fp_iconst hx hb dX2_layLot_34 ?_
    refine fp_wV (As := [.int (iI (k)), .int (iI (0))]) (rest := []) (wsC := [(h, .inr (2, [.ref ro, .ref rk, .ref rf, .ref rp, .int (iI (size)), .int (iI (m1)), .int (iI (gath))])), (ro, .inr (5, [.ref ao])), (ao, fA cyI 65 o1), (rk, .inr (5, [.ref ak])), (ak, fA cyI 65 k1), (rf, .inr (5, [.ref af])), (af, fA cyI 12 (upI f k (m1 + 1))), (rp, .inr (5, [.ref ap])), (ap, fA cyI 12 g), (ch, .inr (0, [.ref cr])), (cr, .inr (5, [.ref ca])), (ca, fA cyI 54 c)]) ⟨hx, hb, hml, hown, hts⟩ (c_X5_put l D cyI rp ap 12 g k 0 (by omega) (by decide)) (cwV 2 hts gX2_layLot_X5_put rfl rfl rfl (by decide +kernel) ⟨Nat.le_of_ble_eq_true rfl, Nat.le_of_ble_eq_true rfl⟩) (fun _ => rfl) hK hP hD hS [7, 8] (by decide) rfl rfl rfl rfl hl.1 rfl (Nat.le_of_ble_eq_true rfl) dX2_layLot_35 ⟨Nat.zero_le _, Nat.zero_le _⟩ (fun u9v H locs hu hP hD hS => ?_)
    refine W.eq (g2 := F0 mi 38 ls []) rfl ?_
    have hP : va_P D vwCl [(h, .inr (2, [.ref ro, .ref rk, .ref rf, .ref rp, .int (iI (size)), .int (iI (m1)), .int (iI (gath))])), (ro, .inr (5, [.ref ao])), (ao, fA cyI 65 o1), (rk, .inr (5, [.ref ak])), (ak, fA cyI 65 k1), (rf, .inr (5, [.ref af])), (af, fA cyI 12 (upI f k (m1 + 1))), (rp, .inr (5, [.ref ap])), (ap, fA cyI 12 (upI g k 0)), (ch, .inr (0, [.ref cr])), (cr, .inr (5, [.ref ca])), (ca, fA cyI 54 c)] H := hP
    have hD : va_D (fp_A [(h, .inr (2, [.ref ro, .ref rk, .ref rf, .ref rp, .int (iI (size)), .int (iI (laid)), .int (iI (gath))])), (ro, .inr (5, [.ref ao])), (ao, fA cyI 65 o), (rk, .inr (5, [.ref ak])), (ak, fA cyI 65 kd), (rf, .inr (5, [.ref af])), (af, fA cyI 12 f), (rp, .inr (5, [.ref ap])), (ap, fA cyI 12 g), (ch, .inr (0, [.ref cr])), (cr, .inr (5, [.ref ca])), (ca, fA cyI 54 c)]) [(h, .inr (2, [.ref ro, .ref rk, .ref rf, .ref rp, .int (iI (size)), .int (iI (m1)), .int (iI (gath))])), (ro, .inr (5, [.ref ao])), (ao, fA cyI 65 o1), (rk, .inr (5, [.ref ak])), (ak, fA cyI 65 k1), (rf, .inr (5, [.ref af])), (af, fA cyI 12 (upI f k (m1 + 1))), (rp, .inr (5, [.ref ap])), (ap, fA cyI 12 (upI g k 0)), (ch, .inr (0, [.ref cr])), (cr, .inr (5, [.ref ca])), (ca, fA cyI 54 c)] := hD
    refine fp_iconst hx hb dX2_layLot_38 ?_
    refine lv_istore_n (lv' := [(3, .int (iI (0))), (0, .ref h), (1, .ref ch), (2, .int (iI (k)))]) hx hb dX2_layLot_39 rfl hl (by decide) rfl (fun ls hl => ?_)
    have hl := lv_sub hl (l' := [(0, .ref h), (1, .ref ch), (2, .int (iI (k))), (3, .int (iI (0)))]) [1, 2, 3, 0] rfl
    have lp1 : ∀ (nf : Nat) (i : Int) (o2 : Int → Int) (k2 : Int → Int) (p2 : Int → Int) (m2 : Int), (0 ≤ i ∧ i ≤ c (k * 4 + 1) + 1) → (m2 = pgC c k + c (k * 4 + 3) + min i (c (k * 4 + 1)) + plO c k i) → (LayP c m2 o2 k2) → (∀ j : Int, p2 j = if j = k ∧ ¬ c (k * 4 + 2) = 0 ∧ c (k * 4 + 4) < i then ppC c k else upI g k 0 j) → (c (k * 4 + 1) + 1 + 1 ≤ i + (nf : Int)) → ∀ (H : Heap) (locs : List Loc), va_P D vwCl [(h, .inr (2, [.ref ro, .ref rk, .ref rf, .ref rp, .int (iI (size)), .int (iI (m2)), .int (iI (gath))])), (ro, .inr (5, [.ref ao])), (ao, fA cyI 65 o2), (rk, .inr (5, [.ref ak])), (ak, fA cyI 65 k2), (rf, .inr (5, [.ref af])), (af, fA cyI 12 (upI f k (m1 + 1))), (rp, .inr (5, [.ref ap])), (ap, fA cyI 12 p2), (ch, .inr (0, [.ref cr])), (cr, .inr (5, [.ref ca])), (ca, fA cyI 54 c)] H → va_D (fp_A [(h, .inr (2, [.ref ro, .ref rk, .ref rf, .ref rp, .int (iI (size)), .int (iI (laid)), .int (iI (gath))])), (ro, .inr (5, [.ref ao])), (ao, fA cyI 65 o), (rk, .inr (5, [.ref ak])), (ak, fA cyI 65 kd), (rf, .inr (5, [.ref af])), (af, fA cyI 12 f), (rp, .inr (5, [.ref ap])), (ap, fA cyI 12 g), (ch, .inr (0, [.ref cr])), (cr, .inr (5, [.ref ca])), (ca, fA cyI 54 c)]) [(h, .inr (2, [.ref ro, .ref rk, .ref rf, .ref rp, .int (iI (size)), .int (iI (m2)), .int (iI (gath))])), (ro, .inr (5, [.ref ao])), (ao, fA cyI 65 o2), (rk, .inr (5, [.ref ak])), (ak, fA cyI 65 k2), (rf, .inr (5, [.ref af])), (af, fA cyI 12 (upI f k (m1 + 1))), (rp, .inr (5, [.ref ap])), (ap, fA cyI 12 p2), (ch, .inr (0, [.ref cr])), (cr, .inr (5, [.ref ca])), (ca, fA cyI 54 c)] → va_S (fp_A [(h, .inr (2, [.ref ro, .ref rk, .ref rf, .ref rp, .int (iI (size)), .int (iI (laid)), .int (iI (gath))])), (ro, .inr (5, [.ref ao])), (ao, fA cyI 65 o), (rk, .inr (5, [.ref ak])), (ak, fA cyI 65 kd), (rf, .inr (5, [.ref af])), (af, fA cyI 12 f), (rp, .inr (5, [.ref ap])), (ap, fA cyI 12 g), (ch, .inr (0, [.ref cr])), (cr, .inr (5, [.ref ca])), (ca, fA cyI 54 c)]) sx.heap H locs → ∀ (ls : Array Slot), lv_has ls 4 [(0, .ref h), (1, .ref ch), (2, .int (iI (k))), (3, .int (iI (i)))] → W pg l en ({ frames := 2, cells := 0, slots := 0, locals := 44 } : Room) sx mi ar bl mt cd H locs 0 0 (MQ bl (fp_Qw D [(h, .inr (2, [.ref ro, .ref rk, .ref rf, .ref rp, .int (iI (size)), .int (iI (laid)), .int (iI (gath))])), (ro, .inr (5, [.ref ao])), (ao, fA cyI 65 o), (rk, .inr (5, [.ref ak])), (ak, fA cyI 65 kd), (rf, .inr (5, [.ref af])), (af, fA cyI 12 f), (rp, .inr (5, [.ref ap])), (ap, fA cyI 12 g), (ch, .inr (0, [.ref cr])), (cr, .inr (5, [.ref ca])), (ca, fA cyI 54 c)] (fun (u9 : (Int → Int) × (Int → Int) × (Int → Int) × (Int → Int)) => (LayP c (pgC c (k + 1)) u9.1 u9.2.1) ∧ (LayF c (k + 1) u9.2.2.1 u9.2.2.2)) (fun (u9 : (Int → Int) × (Int → Int) × (Int → Int) × (Int → Int)) => none) (fun (u9 : (Int → Int) × (Int → Int) × (Int → Int) × (Int → Int)) => [(h, .inr (2, [.ref ro, .ref rk, .ref rf, .ref rp, .int (iI (size)), .int (iI (pgC c (k + 1))), .int (iI (gath))])), (ro, .inr (5, [.ref ao])), (ao, fA cyI 65 u9.1), (rk, .inr (5, [.ref ak])), (ak, fA cyI 65 u9.2.1), (rf, .inr (5, [.ref af])), (af, fA cyI 12 u9.2.2.1), (rp, .inr (5, [.ref ap])), (ap, fA cyI 12 u9.2.2.2), (ch, .inr (0, [.ref cr])), (cr, .inr (5, [.ref ca])), (ca, fA cyI 54 c)])) ar sx 0 0 (fp_A [(h, .inr (2, [.ref ro, .ref rk, .ref rf, .ref rp, .int (iI (size)), .int (iI (laid)), .int (iI (gath))])), (ro, .inr (5, [.ref ao])), (ao, fA cyI 65 o), (rk, .inr (5, [.ref ak])), (ak, fA cyI 65 kd), (rf, .inr (5, [.ref af])), (af, fA cyI 12 f), (rp, .inr (5, [.ref ap])), (ap, fA cyI 12 g), (ch, .inr (0, [.ref cr])), (cr, .inr (5, [.ref ca])), (ca, fA cyI 54 c)])) (F0 mi 40 ls []) := by
      intro nf
      induction nf with
      | zero =>
        intro i o2 k2 p2 m2 ii im iP iG hfuel
        exact absurd hfuel (by omega)
      | succ nf ih1 =>
        intro i o2 k2 p2 m2 ii im iP iG hfuel H locs hP hD hS ls hl
        refine lv_iload_n hx hb dX2_layLot_40 rfl (lv_at hl 3 rfl) ?_
        refine lv_aload_n hx hb dX2_layLot_41 rfl (lv_at hl 1 rfl) ?_
        refine lv_iload_n hx hb dX2_layLot_42 rfl (lv_at hl 2 rfl) ?_
        refine fp_pV (As := [.int (iI (k))]) (rest := [.int (iI (i))]) (wsC := [(h, .inr (2, [.ref ro, .ref rk, .ref rf, .ref rp, .int (iI (size)), .int (iI (m2)), .int (iI (gath))])), (ro, .inr (5, [.ref ao])), (ao, fA cyI 65 o2), (rk, .inr (5, [.ref ak])), (ak, fA cyI 65 k2), (rf, .inr (5, [.ref af])), (af, fA cyI 12 (upI f k (m1 + 1))), (rp, .inr (5, [.ref ap])), (ap, fA cyI 12 p2), (ch, .inr (0, [.ref cr])), (cr, .inr (5, [.ref ca])), (ca, fA cyI 54 c)]) ⟨hx, hb, hml, hown, hts⟩ (c_X0_text l D cyI ch cr ca c k (by omega)) (cwV 1 hts gX2_layLot_X0_text rfl rfl rfl (by decide +kernel) ⟨Nat.le_of_ble_eq_true rfl, Nat.le_of_ble_eq_true rfl⟩) hK hP hD [9, 10, 11] (by decide) rfl rfl rfl rfl hl.1 rfl (Nat.le_of_ble_eq_true rfl) dX2_layLot_43 ⟨Nat.zero_le _, Nat.zero_le _⟩ ?_
        refine fp_icmp_gt (tgt := 118) hx hb (by omega) dX2_layLot_46 (by decide) (fun q46 => ?_) (fun q46 => ?_)
        · skip
          have e6 : plO c k i = bI (¬ c (k * 4 + 2) = 0) := by unfold plO; exact bI_c (by omega)
          have hfin : m2 = pgC c (k + 1) := by omega
          have pLP : LayP c (pgC c (k + 1)) o2 k2 := by rw [← hfin]; exact iP
          have pLF : LayF c (k + 1) (upI f k (m1 + 1)) p2 := by
            intro j a1 a2
            by_cases a3 : j = k
            · rw [upI_s a3, iG j, a3]
              refine ⟨by unfold fpC; omega, ?_⟩
              by_cases a4 : c (k * 4 + 2) = 0
              · rw [if_neg (by omega), upI_s rfl, if_pos a4]
              · rw [if_pos (by omega), if_neg a4]
            · rw [upI_n a3, iG j, if_neg (by omega), upI_n a3]
              exact hLF j a1 (by omega)
          have hP : va_P D vwCl [(h, .inr (2, [.ref ro, .ref rk, .ref rf, .ref rp, .int (iI (size)), .int (iI (pgC c (k + 1))), .int (iI (gath))])), (ro, .inr (5, [.ref ao])), (ao, fA cyI 65 o2), (rk, .inr (5, [.ref ak])), (ak, fA cyI 65 k2), (rf, .inr (5, [.ref af])), (af, fA cyI 12 (upI f k (m1 + 1))), (rp, .inr (5, [.ref ap])), (ap, fA cyI 12 p2), (ch, .inr (0, [.ref cr])), (cr, .inr (5, [.ref ca])), (ca, fA cyI 54 c)] H := by
            rw [(show (m2 : Int) = pgC c (k + 1) from hfin).symm]
            exact hP
          exact fp_wvret (o2, k2, upI f k (m1 + 1), p2) hx hb hr hlocks hS hP ⟨pLP, pLF⟩ rfl dX2_layLot_118
        · skip
          refine lv_aload_n hx hb dX2_layLot_49 rfl (lv_at hl 1 rfl) ?_
          refine lv_iload_n hx hb dX2_layLot_50 rfl (lv_at hl 2 rfl) ?_
          refine fp_pV (As := [.int (iI (k))]) (rest := []) (wsC := [(h, .inr (2, [.ref ro, .ref rk, .ref rf, .ref rp, .int (iI (size)), .int (iI (m2)), .int (iI (gath))])), (ro, .inr (5, [.ref ao])), (ao, fA cyI 65 o2), (rk, .inr (5, [.ref ak])), (ak, fA cyI 65 k2), (rf, .inr (5, [.ref af])), (af, fA cyI 12 (upI f k (m1 + 1))), (rp, .inr (5, [.ref ap])), (ap, fA cyI 12 p2), (ch, .inr (0, [.ref cr])), (cr, .inr (5, [.ref ca])), (ca, fA cyI 54 c)]) ⟨hx, hb, hml, hown, hts⟩ (c_X0_plate l D cyI ch cr ca c k (by omega)) (cwV 1 hts gX2_layLot_X0_plate rfl rfl rfl (by decide +kernel) ⟨Nat.le_of_ble_eq_true rfl, Nat.le_of_ble_eq_true rfl⟩) hK hP hD [9, 10, 11] (by decide) rfl rfl rfl rfl hl.1 rfl (Nat.le_of_ble_eq_true rfl) dX2_layLot_51 ⟨Nat.zero_le _, Nat.zero_le _⟩ ?_
          have jn3 : ∀ (o3 : Int → Int) (k3 : Int → Int) (p3 : Int → Int) (m3 : Int), (m3 = pgC c k + c (k * 4 + 3) + i + plO c k (i + 1)) → (LayP c m3 o3 k3) → (∀ j : Int, p3 j = if j = k ∧ ¬ c (k * 4 + 2) = 0 ∧ c (k * 4 + 4) < i + 1 then ppC c k else upI g k 0 j) → ∀ (H : Heap) (locs : List Loc), va_P D vwCl [(h, .inr (2, [.ref ro, .ref rk, .ref rf, .ref rp, .int (iI (size)), .int (iI (m3)), .int (iI (gath))])), (ro, .inr (5, [.ref ao])), (ao, fA cyI 65 o3), (rk, .inr (5, [.ref ak])), (ak, fA cyI 65 k3), (rf, .inr (5, [.ref af])), (af, fA cyI 12 (upI f k (m1 + 1))), (rp, .inr (5, [.ref ap])), (ap, fA cyI 12 p3), (ch, .inr (0, [.ref cr])), (cr, .inr (5, [.ref ca])), (ca, fA cyI 54 c)] H → va_D (fp_A [(h, .inr (2, [.ref ro, .ref rk, .ref rf, .ref rp, .int (iI (size)), .int (iI (laid)), .int (iI (gath))])), (ro, .inr (5, [.ref ao])), (ao, fA cyI 65 o), (rk, .inr (5, [.ref ak])), (ak, fA cyI 65 kd), (rf, .inr (5, [.ref af])), (af, fA cyI 12 f), (rp, .inr (5, [.ref ap])), (ap, fA cyI 12 g), (ch, .inr (0, [.ref cr])), (cr, .inr (5, [.ref ca])), (ca, fA cyI 54 c)]) [(h, .inr (2, [.ref ro, .ref rk, .ref rf, .ref rp, .int (iI (size)), .int (iI (m3)), .int (iI (gath))])), (ro, .inr (5, [.ref ao])), (ao, fA cyI 65 o3), (rk, .inr (5, [.ref ak])), (ak, fA cyI 65 k3), (rf, .inr (5, [.ref af])), (af, fA cyI 12 (upI f k (m1 + 1))), (rp, .inr (5, [.ref ap])), (ap, fA cyI 12 p3), (ch, .inr (0, [.ref cr])), (cr, .inr (5, [.ref ca])), (ca, fA cyI 54 c)] → va_S (fp_A [(h, .inr (2, [.ref ro, .ref rk, .ref rf, .ref rp, .int (iI (size)), .int (iI (laid)), .int (iI (gath))])), (ro, .inr (5, [.ref ao])), (ao, fA cyI 65 o), (rk, .inr (5, [.ref ak])), (ak, fA cyI 65 kd), (rf, .inr (5, [.ref af])), (af, fA cyI 12 f), (rp, .inr (5, [.ref ap])), (ap, fA cyI 12 g), (ch, .inr (0, [.ref cr])), (cr, .inr (5, [.ref ca])), (ca, fA cyI 54 c)]) sx.heap H locs → ∀ (ls : Array Slot), lv_has ls 4 [(0, .ref h), (1, .ref ch), (2, .int (iI (k))), (3, .int (iI (i)))] → W pg l en ({ frames := 2, cells := 0, slots := 0, locals := 44 } : Room) sx mi ar bl mt cd H locs 0 0 (MQ bl (fp_Qw D [(h, .inr (2, [.ref ro, .ref rk, .ref rf, .ref rp, .int (iI (size)), .int (iI (laid)), .int (iI (gath))])), (ro, .inr (5, [.ref ao])), (ao, fA cyI 65 o), (rk, .inr (5, [.ref ak])), (ak, fA cyI 65 kd), (rf, .inr (5, [.ref af])), (af, fA cyI 12 f), (rp, .inr (5, [.ref ap])), (ap, fA cyI 12 g), (ch, .inr (0, [.ref cr])), (cr, .inr (5, [.ref ca])), (ca, fA cyI 54 c)] (fun (u9 : (Int → Int) × (Int → Int) × (Int → Int) × (Int → Int)) => (LayP c (pgC c (k + 1)) u9.1 u9.2.1) ∧ (LayF c (k + 1) u9.2.2.1 u9.2.2.2)) (fun (u9 : (Int → Int) × (Int → Int) × (Int → Int) × (Int → Int)) => none) (fun (u9 : (Int → Int) × (Int → Int) × (Int → Int) × (Int → Int)) => [(h, .inr (2, [.ref ro, .ref rk, .ref rf, .ref rp, .int (iI (size)), .int (iI (pgC c (k + 1))), .int (iI (gath))])), (ro, .inr (5, [.ref ao])), (ao, fA cyI 65 u9.1), (rk, .inr (5, [.ref ak])), (ak, fA cyI 65 u9.2.1), (rf, .inr (5, [.ref af])), (af, fA cyI 12 u9.2.2.1), (rp, .inr (5, [.ref ap])), (ap, fA cyI 12 u9.2.2.2), (ch, .inr (0, [.ref cr])), (cr, .inr (5, [.ref ca])), (ca, fA cyI 54 c)])) ar sx 0 0 (fp_A [(h, .inr (2, [.ref ro, .ref rk, .ref rf, .ref rp, .int (iI (size)), .int (iI (laid)), .int (iI (gath))])), (ro, .inr (5, [.ref ao])), (ao, fA cyI 65 o), (rk, .inr (5, [.ref ak])), (ak, fA cyI 65 kd), (rf, .inr (5, [.ref af])), (af, fA cyI 12 f), (rp, .inr (5, [.ref ap])), (ap, fA cyI 12 g), (ch, .inr (0, [.ref cr])), (cr, .inr (5, [.ref ca])), (ca, fA cyI 54 c)])) (F0 mi 97 ls []) := by
            intro o3 k3 p3 m3 jm3 jP3 jG3 H locs hP hD hS ls hl
            refine lv_iload_n hx hb dX2_layLot_97 rfl (lv_at hl 3 rfl) ?_
            refine lv_aload_n hx hb dX2_layLot_98 rfl (lv_at hl 1 rfl) ?_
            refine lv_iload_n hx hb dX2_layLot_99 rfl (lv_at hl 2 rfl) ?_
            refine fp_pV (As := [.int (iI (k))]) (rest := [.int (iI (i))]) (wsC := [(h, .inr (2, [.ref ro, .ref rk, .ref rf, .ref rp, .int (iI (size)), .int (iI (m3)), .int (iI (gath))])), (ro, .inr (5, [.ref ao])), (ao, fA cyI 65 o3), (rk, .inr (5, [.ref ak])), (ak, fA cyI 65 k3), (rf, .inr (5, [.ref af])), (af, fA cyI 12 (upI f k (m1 + 1))), (rp, .inr (5, [.ref ap])), (ap, fA cyI 12 p3), (ch, .inr (0, [.ref cr])), (cr, .inr (5, [.ref ca])), (ca, fA cyI 54 c)]) ⟨hx, hb, hml, hown, hts⟩ (c_X0_text l D cyI ch cr ca c k (by omega)) (cwV 1 hts gX2_layLot_X0_text rfl rfl rfl (by decide +kernel) ⟨Nat.le_of_ble_eq_true rfl, Nat.le_of_ble_eq_true rfl⟩) hK hP hD [9, 10, 11] (by decide) rfl rfl rfl rfl hl.1 rfl (Nat.le_of_ble_eq_true rfl) dX2_layLot_100 ⟨Nat.zero_le _, Nat.zero_le _⟩ ?_
            refine fp_icmp_ge (tgt := 112) hx hb (by omega) dX2_layLot_103 (by decide) (fun q103 => ?_) (fun q103 => ?_)
            · skip
              have e5 : plO c k (i + 1) = plO c k (i + 1) := rfl
              have hm4 : m3 = pgC c k + c (k * 4 + 3) + min (i + 1) (c (k * 4 + 1)) + plO c k (i + 1) := by omega
              have hP4 := jP3
              refine fp_iinc (k := 3) (lv' := [(3, .int (iI (i + 1))), (0, .ref h), (1, .ref ch), (2, .int (iI (k)))]) hx hb dX2_layLot_112 hl rfl (by decide) rfl (fun ls hl => ?_)
              refine lv_goto (tgt := 40) hx hb dX2_layLot_115 (by decide) ?_
              exact ih1 (i + 1) o3 k3 p3 m3 (by omega) hm4 hP4 jG3 (by omega) H locs hP hD hS ls (lv_sub hl [1, 2, 3, 0] rfl)
            · skip
              have h01 := bI_rg (¬ c (k * 4 + 2) = 0 ∧ c (k * 4 + 4) < i + 1)
              have hpl : plO c k (i + 1) = bI (¬ c (k * 4 + 2) = 0 ∧ c (k * 4 + 4) < i + 1) := rfl
              have hle : plO c k (i + 1) ≤ bI (¬ c (k * 4 + 2) = 0) := by
                unfold plO
                by_cases a1 : c (k * 4 + 2) = 0
                · rw [bI_f (by omega), bI_f (by omega)]; omega
                · rw [bI_t a1]; omega
              have hko := kind_o hC hk (p := m3 + 1) (r := i + plO c k (i + 1)) (by omega) (by omega)
              have hne : ¬ (¬ c (k * 4 + 2) = 0 ∧ i + plO c k (i + 1) = c (k * 4 + 4)) := by
                rintro ⟨a1, a2⟩
                by_cases a3 : c (k * 4 + 4) < i + 1
                · rw [hpl, bI_t ⟨a1, a3⟩] at a2; omega
                · rw [hpl, bI_f (by omega)] at a2; omega
              rw [if_neg hne] at hko
              have hm4 : m3 + 1 = pgC c k + c (k * 4 + 3) + min (i + 1) (c (k * 4 + 1)) + plO c k (i + 1) := by omega
              have hP4 : LayP c (m3 + 1) (upI o3 (m3 + 1) k) (upI k3 (m3 + 1) 1) := LayP_s jP3 hko.2.symm hko.1.symm
              refine lv_aload_n hx hb dX2_layLot_106 rfl (lv_at hl 0 rfl) ?_
              refine lv_iload_n hx hb dX2_layLot_107 rfl (lv_at hl 2 rfl) ?_
              refine fp_iconst hx hb dX2_layLot_108 ?_
              refine fp_wV (As := [.int (iI (k)), .int (iI (1))]) (rest := []) (wsC := [(h, .inr (2, [.ref ro, .ref rk, .ref rf, .ref rp, .int (iI (size)), .int (iI (m3)), .int (iI (gath))])), (ro, .inr (5, [.ref ao])), (ao, fA cyI 65 o3), (rk, .inr (5, [.ref ak])), (ak, fA cyI 65 k3), (rf, .inr (5, [.ref af])), (af, fA cyI 12 (upI f k (m1 + 1))), (rp, .inr (5, [.ref ap])), (ap, fA cyI 12 p3), (ch, .inr (0, [.ref cr])), (cr, .inr (5, [.ref ca])), (ca, fA cyI 54 c)]) ⟨hx, hb, hml, hown, hts⟩ (c_X2_layPage l D cyI h ro rk rf rp size m3 gath ao o3 ak k3 k 1 (by omega)) (cwV 2 hts gX2_layLot_X2_layPage rfl rfl rfl (by decide +kernel) ⟨Nat.le_of_ble_eq_true rfl, Nat.le_of_ble_eq_true rfl⟩) (fun _ => rfl) hK hP hD hS [0, 1, 2, 3, 4] (by decide) rfl rfl rfl rfl hl.1 rfl (Nat.le_of_ble_eq_true rfl) dX2_layLot_109 ⟨Nat.zero_le _, Nat.zero_le _⟩ (fun u9v H locs hu hP hD hS => ?_)
              refine W.eq (g2 := F0 mi 112 ls []) rfl ?_
              have hP : va_P D vwCl [(h, .inr (2, [.ref ro, .ref rk, .ref rf, .ref rp, .int (iI (size)), .int (iI (m3 + 1)), .int (iI (gath))])), (ro, .inr (5, [.ref ao])), (ao, fA cyI 65 (upI o3 (m3 + 1) k)), (rk, .inr (5, [.ref ak])), (ak, fA cyI 65 (upI k3 (m3 + 1) 1)), (rf, .inr (5, [.ref af])), (af, fA cyI 12 (upI f k (m1 + 1))), (rp, .inr (5, [.ref ap])), (ap, fA cyI 12 p3), (ch, .inr (0, [.ref cr])), (cr, .inr (5, [.ref ca])), (ca, fA cyI 54 c)] H := hP
              have hD : va_D (fp_A [(h, .inr (2, [.ref ro, .ref rk, .ref rf, .ref rp, .int (iI (size)), .int (iI (laid)), .int (iI (gath))])), (ro, .inr (5, [.ref ao])), (ao, fA cyI 65 o), (rk, .inr (5, [.ref ak])), (ak, fA cyI 65 kd), (rf, .inr (5, [.ref af])), (af, fA cyI 12 f), (rp, .inr (5, [.ref ap])), (ap, fA cyI 12 g), (ch, .inr (0, [.ref cr])), (cr, .inr (5, [.ref ca])), (ca, fA cyI 54 c)]) [(h, .inr (2, [.ref ro, .ref rk, .ref rf, .ref rp, .int (iI (size)), .int (iI (m3 + 1)), .int (iI (gath))])), (ro, .inr (5, [.ref ao])), (ao, fA cyI 65 (upI o3 (m3 + 1) k)), (rk, .inr (5, [.ref ak])), (ak, fA cyI 65 (upI k3 (m3 + 1) 1)), (rf, .inr (5, [.ref af])), (af, fA cyI 12 (upI f k (m1 + 1))), (rp, .inr (5, [.ref ap])), (ap, fA cyI 12 p3), (ch, .inr (0, [.ref cr])), (cr, .inr (5, [.ref ca])), (ca, fA cyI 54 c)] := hD
              refine fp_iinc (k := 3) (lv' := [(3, .int (iI (i + 1))), (0, .ref h), (1, .ref ch), (2, .int (iI (k)))]) hx hb dX2_layLot_112 hl rfl (by decide) rfl (fun ls hl => ?_)
              refine lv_goto (tgt := 40) hx hb dX2_layLot_115 (by decide) ?_
              exact ih1 (i + 1) (upI o3 (m3 + 1) k) (upI k3 (m3 + 1) 1) p3 (m3 + 1) (by omega) hm4 hP4 jG3 (by omega) H locs hP hD hS ls (lv_sub hl [1, 2, 3, 0] rfl)
          refine fp_if_eq (tgt := 97) hx hb (by omega) dX2_layLot_54 (by decide) (fun q54 => ?_) (fun q54 => ?_)
          · skip
            have hm3 : m2 = pgC c k + c (k * 4 + 3) + i + plO c k (i + 1) := by
              have e1 : plO c k (i + 1) = 0 := by unfold plO; exact bI_f (by omega)
              have e2 : plO c k i = 0 := by unfold plO; exact bI_f (by omega)
              omega
            have hP3 := iP
            have hG3 : ∀ j : Int, p2 j = if j = k ∧ ¬ c (k * 4 + 2) = 0 ∧ c (k * 4 + 4) < i + 1 then ppC c k else upI g k 0 j := fun j => by rw [iG j, if_neg (by omega), if_neg (by omega)]
            exact jn3 o2 k2 p2 m2 hm3 hP3 hG3 H locs hP hD hS ls (lv_sub hl [0, 1, 2, 3] rfl)
          · skip
            refine lv_aload_n hx hb dX2_layLot_57 rfl (lv_at hl 1 rfl) ?_
            refine lv_iload_n hx hb dX2_layLot_58 rfl (lv_at hl 2 rfl) ?_
            refine fp_pV (As := [.int (iI (k))]) (rest := []) (wsC := [(h, .inr (2, [.ref ro, .ref rk, .ref rf, .ref rp, .int (iI (size)), .int (iI (m2)), .int (iI (gath))])), (ro, .inr (5, [.ref ao])), (ao, fA cyI 65 o2), (rk, .inr (5, [.ref ak])), (ak, fA cyI 65 k2), (rf, .inr (5, [.ref af])), (af, fA cyI 12 (upI f k (m1 + 1))), (rp, .inr (5, [.ref ap])), (ap, fA cyI 12 p2), (ch, .inr (0, [.ref cr])), (cr, .inr (5, [.ref ca])), (ca, fA cyI 54 c)]) ⟨hx, hb, hml, hown, hts⟩ (c_X0_place l D cyI ch cr ca c k (by omega)) (cwV 1 hts gX2_layLot_X0_place rfl rfl rfl (by decide +kernel) ⟨Nat.le_of_ble_eq_true rfl, Nat.le_of_ble_eq_true rfl⟩) hK hP hD [9, 10, 11] (by decide) rfl rfl rfl rfl hl.1 rfl (Nat.le_of_ble_eq_true rfl) dX2_layLot_59 ⟨Nat.zero_le _, Nat.zero_le _⟩ ?_
            refine lv_iload_n hx hb dX2_layLot_62 rfl (lv_at hl 3 rfl) ?_
            refine fp_icmp_ne (tgt := 97) hx hb (by omega) dX2_layLot_63 (by decide) (fun q63 => ?_) (fun q63 => ?_)
            · skip
              have hm3 : m2 = pgC c k + c (k * 4 + 3) + i + plO c k (i + 1) := by
                have e1 : plO c k (i + 1) = plO c k i := by unfold plO; exact bI_c (by omega)
                omega
              have hP3 := iP
              have hG3 : ∀ j : Int, p2 j = if j = k ∧ ¬ c (k * 4 + 2) = 0 ∧ c (k * 4 + 4) < i + 1 then ppC c k else upI g k 0 j := fun j => by
                rw [iG j]
                by_cases a1 : j = k ∧ ¬ c (k * 4 + 2) = 0 ∧ c (k * 4 + 4) < i
                · rw [if_pos a1, if_pos (by omega)]
                · rw [if_neg a1, if_neg (by omega)]
              exact jn3 o2 k2 p2 m2 hm3 hP3 hG3 H locs hP hD hS ls (lv_sub hl [0, 1, 2, 3] rfl)
            · skip
              have e2 : plO c k i = 0 := by unfold plO; exact bI_f (by omega)
              have e1 : plO c k (i + 1) = 1 := by unfold plO; exact bI_t (by omega)
              have hP1 : bI (¬ c (k * 4 + 2) = 0) = 1 := bI_t q54
              have hko := kind_o hC hk (p := m2 + 1) (r := i) (by omega) (by omega)
              rw [if_pos ⟨q54, by omega⟩] at hko
              have hm3 : m2 + 1 = pgC c k + c (k * 4 + 3) + i + plO c k (i + 1) := by omega
              have hP3 : LayP c (m2 + 1) (upI o2 (m2 + 1) k) (upI k2 (m2 + 1) (1 + c (k * 4 + 2))) := LayP_s iP hko.2.symm hko.1.symm
              have hG3 : ∀ j : Int, upI p2 k (m2 + 1) j = if j = k ∧ ¬ c (k * 4 + 2) = 0 ∧ c (k * 4 + 4) < i + 1 then ppC c k else upI g k 0 j := fun j => by
                by_cases a1 : j = k
                · rw [upI_s a1, if_pos (by omega)]; unfold ppC fpC; omega
                · rw [upI_n a1, iG j, if_neg (by omega), if_neg (by omega)]
              refine lv_aload_n hx hb dX2_layLot_66 rfl (lv_at hl 0 rfl) ?_
              refine lv_iload_n hx hb dX2_layLot_67 rfl (lv_at hl 2 rfl) ?_
              refine lv_aload_n hx hb dX2_layLot_68 rfl (lv_at hl 1 rfl) ?_
              refine lv_iload_n hx hb dX2_layLot_69 rfl (lv_at hl 2 rfl) ?_
              refine fp_pV (As := [.int (iI (k))]) (rest := [.int (iI (k)), .ref h]) (wsC := [(h, .inr (2, [.ref ro, .ref rk, .ref rf, .ref rp, .int (iI (size)), .int (iI (m2)), .int (iI (gath))])), (ro, .inr (5, [.ref ao])), (ao, fA cyI 65 o2), (rk, .inr (5, [.ref ak])), (ak, fA cyI 65 k2), (rf, .inr (5, [.ref af])), (af, fA cyI 12 (upI f k (m1 + 1))), (rp, .inr (5, [.ref ap])), (ap, fA cyI 12 p2), (ch, .inr (0, [.ref cr])), (cr, .inr (5, [.ref ca])), (ca, fA cyI 54 c)]) ⟨hx, hb, hml, hown, hts⟩ (c_X0_plate l D cyI ch cr ca c k (by omega)) (cwV 1 hts gX2_layLot_X0_plate rfl rfl rfl (by decide +kernel) ⟨Nat.le_of_ble_eq_true rfl, Nat.le_of_ble_eq_true rfl⟩) hK hP hD [9, 10, 11] (by decide) rfl rfl rfl rfl hl.1 rfl (Nat.le_of_ble_eq_true rfl) dX2_layLot_70 ⟨Nat.zero_le _, Nat.zero_le _⟩ ?_
              refine fp_iconst hx hb dX2_layLot_73 ?_
              refine fp_icmp_ne (tgt := 81) hx hb (by omega) dX2_layLot_74 (by decide) (fun q74 => ?_) (fun q74 => ?_)
              · skip
                refine fp_iconst hx hb dX2_layLot_81 ?_
                rw [show (2 : Int) = 1 + c (k * 4 + 2) from (by omega)]
                refine fp_wV (As := [.int (iI (k)), .int (iI (1 + c (k * 4 + 2)))]) (rest := []) (wsC := [(h, .inr (2, [.ref ro, .ref rk, .ref rf, .ref rp, .int (iI (size)), .int (iI (m2)), .int (iI (gath))])), (ro, .inr (5, [.ref ao])), (ao, fA cyI 65 o2), (rk, .inr (5, [.ref ak])), (ak, fA cyI 65 k2), (rf, .inr (5, [.ref af])), (af, fA cyI 12 (upI f k (m1 + 1))), (rp, .inr (5, [.ref ap])), (ap, fA cyI 12 p2), (ch, .inr (0, [.ref cr])), (cr, .inr (5, [.ref ca])), (ca, fA cyI 54 c)]) ⟨hx, hb, hml, hown, hts⟩ (c_X2_layPage l D cyI h ro rk rf rp size m2 gath ao o2 ak k2 k (1 + c (k * 4 + 2)) (by omega)) (cwV 2 hts gX2_layLot_X2_layPage rfl rfl rfl (by decide +kernel) ⟨Nat.le_of_ble_eq_true rfl, Nat.le_of_ble_eq_true rfl⟩) (fun _ => rfl) hK hP hD hS [0, 1, 2, 3, 4] (by decide) rfl rfl rfl rfl hl.1 rfl (Nat.le_of_ble_eq_true rfl) dX2_layLot_82 ⟨Nat.zero_le _, Nat.zero_le _⟩ (fun u9v H locs hu hP hD hS => ?_)
                refine W.eq (g2 := F0 mi 85 ls []) rfl ?_
                have hP : va_P D vwCl [(h, .inr (2, [.ref ro, .ref rk, .ref rf, .ref rp, .int (iI (size)), .int (iI (m2 + 1)), .int (iI (gath))])), (ro, .inr (5, [.ref ao])), (ao, fA cyI 65 (upI o2 (m2 + 1) k)), (rk, .inr (5, [.ref ak])), (ak, fA cyI 65 (upI k2 (m2 + 1) (1 + c (k * 4 + 2)))), (rf, .inr (5, [.ref af])), (af, fA cyI 12 (upI f k (m1 + 1))), (rp, .inr (5, [.ref ap])), (ap, fA cyI 12 p2), (ch, .inr (0, [.ref cr])), (cr, .inr (5, [.ref ca])), (ca, fA cyI 54 c)] H := hP
                have hD : va_D (fp_A [(h, .inr (2, [.ref ro, .ref rk, .ref rf, .ref rp, .int (iI (size)), .int (iI (laid)), .int (iI (gath))])), (ro, .inr (5, [.ref ao])), (ao, fA cyI 65 o), (rk, .inr (5, [.ref ak])), (ak, fA cyI 65 kd), (rf, .inr (5, [.ref af])), (af, fA cyI 12 f), (rp, .inr (5, [.ref ap])), (ap, fA cyI 12 g), (ch, .inr (0, [.ref cr])), (cr, .inr (5, [.ref ca])), (ca, fA cyI 54 c)]) [(h, .inr (2, [.ref ro, .ref rk, .ref rf, .ref rp, .int (iI (size)), .int (iI (m2 + 1)), .int (iI (gath))])), (ro, .inr (5, [.ref ao])), (ao, fA cyI 65 (upI o2 (m2 + 1) k)), (rk, .inr (5, [.ref ak])), (ak, fA cyI 65 (upI k2 (m2 + 1) (1 + c (k * 4 + 2)))), (rf, .inr (5, [.ref af])), (af, fA cyI 12 (upI f k (m1 + 1))), (rp, .inr (5, [.ref ap])), (ap, fA cyI 12 p2), (ch, .inr (0, [.ref cr])), (cr, .inr (5, [.ref ca])), (ca, fA cyI 54 c)] := hD
                refine lv_aload_n hx hb dX2_layLot_85 rfl (lv_at hl 0 rfl) ?_
                refine va_get (D := D) (ci := 2) (ws := [(h, .inr (2, [.ref ro, .ref rk, .ref rf, .ref rp, .int (iI (size)), .int (iI (m2 + 1)), .int (iI (gath))])), (ro, .inr (5, [.ref ao])), (ao, fA cyI 65 (upI o2 (m2 + 1) k)), (rk, .inr (5, [.ref ak])), (ak, fA cyI 65 (upI k2 (m2 + 1) (1 + c (k * 4 + 2)))), (rf, .inr (5, [.ref af])), (af, fA cyI 12 (upI f k (m1 + 1))), (rp, .inr (5, [.ref ap])), (ap, fA cyI 12 p2), (ch, .inr (0, [.ref cr])), (cr, .inr (5, [.ref ca])), (ca, fA cyI 54 c)]) (v := .ref rp) (C := RX2) (T := TX2) (N := 7) hx hb hts (fun _ h => List.mem_cons_of_mem _ (List.mem_append_left _ (List.mem_append_left _ (List.mem_append_right _ h)))) hown hK.1 hP 0 rfl rfl 3 (by decide) (hts _ fl_X2_layLot_26) (fun _ h9 => h9) rfl dX2_layLot_86 ?_
                refine lv_iload_n hx hb dX2_layLot_89 rfl (lv_at hl 2 rfl) ?_
                refine lv_aload_n hx hb dX2_layLot_90 rfl (lv_at hl 0 rfl) ?_
                refine va_get (D := D) (ci := 2) (ws := [(h, .inr (2, [.ref ro, .ref rk, .ref rf, .ref rp, .int (iI (size)), .int (iI (m2 + 1)), .int (iI (gath))])), (ro, .inr (5, [.ref ao])), (ao, fA cyI 65 (upI o2 (m2 + 1) k)), (rk, .inr (5, [.ref ak])), (ak, fA cyI 65 (upI k2 (m2 + 1) (1 + c (k * 4 + 2)))), (rf, .inr (5, [.ref af])), (af, fA cyI 12 (upI f k (m1 + 1))), (rp, .inr (5, [.ref ap])), (ap, fA cyI 12 p2), (ch, .inr (0, [.ref cr])), (cr, .inr (5, [.ref ca])), (ca, fA cyI 54 c)]) (v := .int (iI (m2 + 1))) (C := RX2) (T := TX2) (N := 7) hx hb hts (fun _ h => List.mem_cons_of_mem _ (List.mem_append_left _ (List.mem_append_left _ (List.mem_append_right _ h)))) hown hK.1 hP 0 rfl rfl 5 (by decide) (hts _ fl_X2_layLot_33) (fun _ h9 => h9) rfl dX2_layLot_91 ?_
                refine fp_wV (As := [.int (iI (k)), .int (iI (m2 + 1))]) (rest := []) (wsC := [(h, .inr (2, [.ref ro, .ref rk, .ref rf, .ref rp, .int (iI (size)), .int (iI (m2 + 1)), .int (iI (gath))])), (ro, .inr (5, [.ref ao])), (ao, fA cyI 65 (upI o2 (m2 + 1) k)), (rk, .inr (5, [.ref ak])), (ak, fA cyI 65 (upI k2 (m2 + 1) (1 + c (k * 4 + 2)))), (rf, .inr (5, [.ref af])), (af, fA cyI 12 (upI f k (m1 + 1))), (rp, .inr (5, [.ref ap])), (ap, fA cyI 12 p2), (ch, .inr (0, [.ref cr])), (cr, .inr (5, [.ref ca])), (ca, fA cyI 54 c)]) ⟨hx, hb, hml, hown, hts⟩ (c_X5_put l D cyI rp ap 12 p2 k (m2 + 1) (by omega) (by decide)) (cwV 2 hts gX2_layLot_X5_put rfl rfl rfl (by decide +kernel) ⟨Nat.le_of_ble_eq_true rfl, Nat.le_of_ble_eq_true rfl⟩) (fun _ => rfl) hK hP hD hS [7, 8] (by decide) rfl rfl rfl rfl hl.1 rfl (Nat.le_of_ble_eq_true rfl) dX2_layLot_94 ⟨Nat.zero_le _, Nat.zero_le _⟩ (fun u9v H locs hu hP hD hS => ?_)
                refine W.eq (g2 := F0 mi 97 ls []) rfl ?_
                have hP : va_P D vwCl [(h, .inr (2, [.ref ro, .ref rk, .ref rf, .ref rp, .int (iI (size)), .int (iI (m2 + 1)), .int (iI (gath))])), (ro, .inr (5, [.ref ao])), (ao, fA cyI 65 (upI o2 (m2 + 1) k)), (rk, .inr (5, [.ref ak])), (ak, fA cyI 65 (upI k2 (m2 + 1) (1 + c (k * 4 + 2)))), (rf, .inr (5, [.ref af])), (af, fA cyI 12 (upI f k (m1 + 1))), (rp, .inr (5, [.ref ap])), (ap, fA cyI 12 (upI p2 k (m2 + 1))), (ch, .inr (0, [.ref cr])), (cr, .inr (5, [.ref ca])), (ca, fA cyI 54 c)] H := hP
                have hD : va_D (fp_A [(h, .inr (2, [.ref ro, .ref rk, .ref rf, .ref rp, .int (iI (size)), .int (iI (laid)), .int (iI (gath))])), (ro, .inr (5, [.ref ao])), (ao, fA cyI 65 o), (rk, .inr (5, [.ref ak])), (ak, fA cyI 65 kd), (rf, .inr (5, [.ref af])), (af, fA cyI 12 f), (rp, .inr (5, [.ref ap])), (ap, fA cyI 12 g), (ch, .inr (0, [.ref cr])), (cr, .inr (5, [.ref ca])), (ca, fA cyI 54 c)]) [(h, .inr (2, [.ref ro, .ref rk, .ref rf, .ref rp, .int (iI (size)), .int (iI (m2 + 1)), .int (iI (gath))])), (ro, .inr (5, [.ref ao])), (ao, fA cyI 65 (upI o2 (m2 + 1) k)), (rk, .inr (5, [.ref ak])), (ak, fA cyI 65 (upI k2 (m2 + 1) (1 + c (k * 4 + 2)))), (rf, .inr (5, [.ref af])), (af, fA cyI 12 (upI f k (m1 + 1))), (rp, .inr (5, [.ref ap])), (ap, fA cyI 12 (upI p2 k (m2 + 1))), (ch, .inr (0, [.ref cr])), (cr, .inr (5, [.ref ca])), (ca, fA cyI 54 c)] := hD
                exact jn3 (upI o2 (m2 + 1) k) (upI k2 (m2 + 1) (1 + c (k * 4 + 2))) (upI p2 k (m2 + 1)) (m2 + 1) hm3 hP3 hG3 H locs hP hD hS ls (lv_sub hl [0, 1, 2, 3] rfl)
              · skip
                refine fp_iconst hx hb dX2_layLot_77 ?_
                refine lv_goto (tgt := 82) hx hb dX2_layLot_78 (by decide) ?_
                rw [show (3 : Int) = 1 + c (k * 4 + 2) from (by omega)]
                refine fp_wV (As := [.int (iI (k)), .int (iI (1 + c (k * 4 + 2)))]) (rest := []) (wsC := [(h, .inr (2, [.ref ro, .ref rk, .ref rf, .ref rp, .int (iI (size)), .int (iI (m2)), .int (iI (gath))])), (ro, .inr (5, [.ref ao])), (ao, fA cyI 65 o2), (rk, .inr (5, [.ref ak])), (ak, fA cyI 65 k2), (rf, .inr (5, [.ref af])), (af, fA cyI 12 (upI f k (m1 + 1))), (rp, .inr (5, [.ref ap])), (ap, fA cyI 12 p2), (ch, .inr (0, [.ref cr])), (cr, .inr (5, [.ref ca])), (ca, fA cyI 54 c)]) ⟨hx, hb, hml, hown, hts⟩ (c_X2_layPage l D cyI h ro rk rf rp size m2 gath ao o2 ak k2 k (1 + c (k * 4 + 2)) (by omega)) (cwV 2 hts gX2_layLot_X2_layPage rfl rfl rfl (by decide +kernel) ⟨Nat.le_of_ble_eq_true rfl, Nat.le_of_ble_eq_true rfl⟩) (fun _ => rfl) hK hP hD hS [0, 1, 2, 3, 4] (by decide) rfl rfl rfl rfl hl.1 rfl (Nat.le_of_ble_eq_true rfl) dX2_layLot_82 ⟨Nat.zero_le _, Nat.zero_le _⟩ (fun u9v H locs hu hP hD hS => ?_)
                refine W.eq (g2 := F0 mi 85 ls []) rfl ?_
                have hP : va_P D vwCl [(h, .inr (2, [.ref ro, .ref rk, .ref rf, .ref rp, .int (iI (size)), .int (iI (m2 + 1)), .int (iI (gath))])), (ro, .inr (5, [.ref ao])), (ao, fA cyI 65 (upI o2 (m2 + 1) k)), (rk, .inr (5, [.ref ak])), (ak, fA cyI 65 (upI k2 (m2 + 1) (1 + c (k * 4 + 2)))), (rf, .inr (5, [.ref af])), (af, fA cyI 12 (upI f k (m1 + 1))), (rp, .inr (5, [.ref ap])), (ap, fA cyI 12 p2), (ch, .inr (0, [.ref cr])), (cr, .inr (5, [.ref ca])), (ca, fA cyI 54 c)] H := hP
                have hD : va_D (fp_A [(h, .inr (2, [.ref ro, .ref rk, .ref rf, .ref rp, .int (iI (size)), .int (iI (laid)), .int (iI (gath))])), (ro, .inr (5, [.ref ao])), (ao, fA cyI 65 o), (rk, .inr (5, [.ref ak])), (ak, fA cyI 65 kd), (rf, .inr (5, [.ref af])), (af, fA cyI 12 f), (rp, .inr (5, [.ref ap])), (ap, fA cyI 12 g), (ch, .inr (0, [.ref cr])), (cr, .inr (5, [.ref ca])), (ca, fA cyI 54 c)]) [(h, .inr (2, [.ref ro, .ref rk, .ref rf, .ref rp, .int (iI (size)), .int (iI (m2 + 1)), .int (iI (gath))])), (ro, .inr (5, [.ref ao])), (ao, fA cyI 65 (upI o2 (m2 + 1) k)), (rk, .inr (5, [.ref ak])), (ak, fA cyI 65 (upI k2 (m2 + 1) (1 + c (k * 4 + 2)))), (rf, .inr (5, [.ref af])), (af, fA cyI 12 (upI f k (m1 + 1))), (rp, .inr (5, [.ref ap])), (ap, fA cyI 12 p2), (ch, .inr (0, [.ref cr])), (cr, .inr (5, [.ref ca])), (ca, fA cyI 54 c)] := hD
                refine lv_aload_n hx hb dX2_layLot_85 rfl (lv_at hl 0 rfl) ?_
                refine va_get (D := D) (ci := 2) (ws := [(h, .inr (2, [.ref ro, .ref rk, .ref rf, .ref rp, .int (iI (size)), .int (iI (m2 + 1)), .int (iI (gath))])), (ro, .inr (5, [.ref ao])), (ao, fA cyI 65 (upI o2 (m2 + 1) k)), (rk, .inr (5, [.ref ak])), (ak, fA cyI 65 (upI k2 (m2 + 1) (1 + c (k * 4 + 2)))), (rf, .inr (5, [.ref af])), (af, fA cyI 12 (upI f k (m1 + 1))), (rp, .inr (5, [.ref ap])), (ap, fA cyI 12 p2), (ch, .inr (0, [.ref cr])), (cr, .inr (5, [.ref ca])), (ca, fA cyI 54 c)]) (v := .ref rp) (C := RX2) (T := TX2) (N := 7) hx hb hts (fun _ h => List.mem_cons_of_mem _ (List.mem_append_left _ (List.mem_append_left _ (List.mem_append_right _ h)))) hown hK.1 hP 0 rfl rfl 3 (by decide) (hts _ fl_X2_layLot_26) (fun _ h9 => h9) rfl dX2_layLot_86 ?_
                refine lv_iload_n hx hb dX2_layLot_89 rfl (lv_at hl 2 rfl) ?_
                refine lv_aload_n hx hb dX2_layLot_90 rfl (lv_at hl 0 rfl) ?_
                refine va_get (D := D) (ci := 2) (ws := [(h, .inr (2, [.ref ro, .ref rk, .ref rf, .ref rp, .int (iI (size)), .int (iI (m2 + 1)), .int (iI (gath))])), (ro, .inr (5, [.ref ao])), (ao, fA cyI 65 (upI o2 (m2 + 1) k)), (rk, .inr (5, [.ref ak])), (ak, fA cyI 65 (upI k2 (m2 + 1) (1 + c (k * 4 + 2)))), (rf, .inr (5, [.ref af])), (af, fA cyI 12 (upI f k (m1 + 1))), (rp, .inr (5, [.ref ap])), (ap, fA cyI 12 p2), (ch, .inr (0, [.ref cr])), (cr, .inr (5, [.ref ca])), (ca, fA cyI 54 c)]) (v := .int (iI (m2 + 1))) (C := RX2) (T := TX2) (N := 7) hx hb hts (fun _ h => List.mem_cons_of_mem _ (List.mem_append_left _ (List.mem_append_left _ (List.mem_append_right _ h)))) hown hK.1 hP 0 rfl rfl 5 (by decide) (hts _ fl_X2_layLot_33) (fun _ h9 => h9) rfl dX2_layLot_91 ?_
                refine fp_wV (As := [.int (iI (k)), .int (iI (m2 + 1))]) (rest := []) (wsC := [(h, .inr (2, [.ref ro, .ref rk, .ref rf, .ref rp, .int (iI (size)), .int (iI (m2 + 1)), .int (iI (gath))])), (ro, .inr (5, [.ref ao])), (ao, fA cyI 65 (upI o2 (m2 + 1) k)), (rk, .inr (5, [.ref ak])), (ak, fA cyI 65 (upI k2 (m2 + 1) (1 + c (k * 4 + 2)))), (rf, .inr (5, [.ref af])), (af, fA cyI 12 (upI f k (m1 + 1))), (rp, .inr (5, [.ref ap])), (ap, fA cyI 12 p2), (ch, .inr (0, [.ref cr])), (cr, .inr (5, [.ref ca])), (ca, fA cyI 54 c)]) ⟨hx, hb, hml, hown, hts⟩ (c_X5_put l D cyI rp ap 12 p2 k (m2 + 1) (by omega) (by decide)) (cwV 2 hts gX2_layLot_X5_put rfl rfl rfl (by decide +kernel) ⟨Nat.le_of_ble_eq_true rfl, Nat.le_of_ble_eq_true rfl⟩) (fun _ => rfl) hK hP hD hS [7, 8] (by decide) rfl rfl rfl rfl hl.1 rfl (Nat.le_of_ble_eq_true rfl) dX2_layLot_94 ⟨Nat.zero_le _, Nat.zero_le _⟩ (fun u9v H locs hu hP hD hS => ?_)
                refine W.eq (g2 := F0 mi 97 ls []) rfl ?_
                have hP : va_P D vwCl [(h, .inr (2, [.ref ro, .ref rk, .ref rf, .ref rp, .int (iI (size)), .int (iI (m2 + 1)), .int (iI (gath))])), (ro, .inr (5, [.ref ao])), (ao, fA cyI 65 (upI o2 (m2 + 1) k)), (rk, .inr (5, [.ref ak])), (ak, fA cyI 65 (upI k2 (m2 + 1) (1 + c (k * 4 + 2)))), (rf, .inr (5, [.ref af])), (af, fA cyI 12 (upI f k (m1 + 1))), (rp, .inr (5, [.ref ap])), (ap, fA cyI 12 (upI p2 k (m2 + 1))), (ch, .inr (0, [.ref cr])), (cr, .inr (5, [.ref ca])), (ca, fA cyI 54 c)] H := hP
                have hD : va_D (fp_A [(h, .inr (2, [.ref ro, .ref rk, .ref rf, .ref rp, .int (iI (size)), .int (iI (laid)), .int (iI (gath))])), (ro, .inr (5, [.ref ao])), (ao, fA cyI 65 o), (rk, .inr (5, [.ref ak])), (ak, fA cyI 65 kd), (rf, .inr (5, [.ref af])), (af, fA cyI 12 f), (rp, .inr (5, [.ref ap])), (ap, fA cyI 12 g), (ch, .inr (0, [.ref cr])), (cr, .inr (5, [.ref ca])), (ca, fA cyI 54 c)]) [(h, .inr (2, [.ref ro, .ref rk, .ref rf, .ref rp, .int (iI (size)), .int (iI (m2 + 1)), .int (iI (gath))])), (ro, .inr (5, [.ref ao])), (ao, fA cyI 65 (upI o2 (m2 + 1) k)), (rk, .inr (5, [.ref ak])), (ak, fA cyI 65 (upI k2 (m2 + 1) (1 + c (k * 4 + 2)))), (rf, .inr (5, [.ref af])), (af, fA cyI 12 (upI f k (m1 + 1))), (rp, .inr (5, [.ref ap])), (ap, fA cyI 12 (upI p2 k (m2 + 1))), (ch, .inr (0, [.ref cr])), (cr, .inr (5, [.ref ca])), (ca, fA cyI 54 c)] := hD
                exact jn3 (upI o2 (m2 + 1) k) (upI k2 (m2 + 1) (1 + c (k * 4 + 2))) (upI p2 k (m2 + 1)) (m2 + 1) hm3 hP3 hG3 H locs hP hD hS ls (lv_sub hl [0, 1, 2, 3] rfl)
    have hm2 : m1 = pgC c k + c (k * 4 + 3) + min 0 (c (k * 4 + 1)) + plO c k 0 := by
      unfold plO
      rw [bI_f (by omega)]
      omega
    exact lp1 (((c (k * 4 + 1) + 1 : Int) + 1 - (0)).toNat) 0 o1 k1 (upI g k 0) m1 (by omega) hm2 jP (fun j => (if_neg (by omega)).symm) (by omega) H locs hP hD hS ls hl
  refine fp_if_eq (tgt := 15) hx hb (by omega) dX2_layLot_5 (by decide) (fun q5 => ?_) (fun q5 => ?_)
  · skip
    have hm1 : laid = pgC c k + c (k * 4 + 3) := by omega
    have hP1 := hLP
    exact jn0 o kd laid hm1 hP1 sx.heap [] hP hD hS ls (lv_sub hl [0, 1, 2] rfl)
  · skip
    have hkb := kind_b hC hk q5 rfl
    have hm1 : laid + 1 = pgC c k + c (k * 4 + 3) := by omega
    have hP1 : LayP c (laid + 1) (upI o (laid + 1) (-5)) (upI kd (laid + 1) 0) := LayP_s hLP (by rw [hlk]; exact hkb.2.symm) (by rw [hlk]; exact hkb.1.symm)
    refine lv_aload_n hx hb dX2_layLot_8 rfl (lv_at hl 0 rfl) ?_
    refine fp_bipush hx hb dX2_layLot_9 (by decide) ?_
    refine fp_iconst hx hb dX2_layLot_11 ?_
    refine fp_wV (As := [.int (iI ((-5))), .int (iI (0))]) (rest := []) (wsC := [(h, .inr (2, [.ref ro, .ref rk, .ref rf, .ref rp, .int (iI (size)), .int (iI (laid)), .int (iI (gath))])), (ro, .inr (5, [.ref ao])), (ao, fA cyI 65 o), (rk, .inr (5, [.ref ak])), (ak, fA cyI 65 kd), (rf, .inr (5, [.ref af])), (af, fA cyI 12 f), (rp, .inr (5, [.ref ap])), (ap, fA cyI 12 g), (ch, .inr (0, [.ref cr])), (cr, .inr (5, [.ref ca])), (ca, fA cyI 54 c)]) ⟨hx, hb, hml, hown, hts⟩ (c_X2_layPage l D cyI h ro rk rf rp size laid gath ao o ak kd ((-5)) 0 (by omega)) (cwV 2 hts gX2_layLot_X2_layPage rfl rfl rfl (by decide +kernel) ⟨Nat.le_of_ble_eq_true rfl, Nat.le_of_ble_eq_true rfl⟩) (fun _ => rfl) hK hP hD hS [0, 1, 2, 3, 4] (by decide) rfl rfl rfl rfl hl.1 rfl (Nat.le_of_ble_eq_true rfl) dX2_layLot_12 ⟨Nat.zero_le _, Nat.zero_le _⟩ (fun u9v H locs hu hP hD hS => ?_)
    refine W.eq (g2 := F0 mi 15 ls []) rfl ?_
    have hP : va_P D vwCl [(h, .inr (2, [.ref ro, .ref rk, .ref rf, .ref rp, .int (iI (size)), .int (iI (laid + 1)), .int (iI (gath))])), (ro, .inr (5, [.ref ao])), (ao, fA cyI 65 (upI o (laid + 1) ((-5)))), (rk, .inr (5, [.ref ak])), (ak, fA cyI 65 (upI kd (laid + 1) 0)), (rf, .inr (5, [.ref af])), (af, fA cyI 12 f), (rp, .inr (5, [.ref ap])), (ap, fA cyI 12 g), (ch, .inr (0, [.ref cr])), (cr, .inr (5, [.ref ca])), (ca, fA cyI 54 c)] H := hP
    have hD : va_D (fp_A [(h, .inr (2, [.ref ro, .ref rk, .ref rf, .ref rp, .int (iI (size)), .int (iI (laid)), .int (iI (gath))])), (ro, .inr (5, [.ref ao])), (ao, fA cyI 65 o), (rk, .inr (5, [.ref ak])), (ak, fA cyI 65 kd), (rf, .inr (5, [.ref af])), (af, fA cyI 12 f), (rp, .inr (5, [.ref ap])), (ap, fA cyI 12 g), (ch, .inr (0, [.ref cr])), (cr, .inr (5, [.ref ca])), (ca, fA cyI 54 c)]) [(h, .inr (2, [.ref ro, .ref rk, .ref rf, .ref rp, .int (iI (size)), .int (iI (laid + 1)), .int (iI (gath))])), (ro, .inr (5, [.ref ao])), (ao, fA cyI 65 (upI o (laid + 1) ((-5)))), (rk, .inr (5, [.ref ak])), (ak, fA cyI 65 (upI kd (laid + 1) 0)), (rf, .inr (5, [.ref af])), (af, fA cyI 12 f), (rp, .inr (5, [.ref ap])), (ap, fA cyI 12 g), (ch, .inr (0, [.ref cr])), (cr, .inr (5, [.ref ca])), (ca, fA cyI 54 c)] := hD
    exact jn0 (upI o (laid + 1) ((-5))) (upI kd (laid + 1) 0) (laid + 1) hm1 hP1 H locs hP hD hS ls (lv_sub hl [0, 1, 2] rfl)
