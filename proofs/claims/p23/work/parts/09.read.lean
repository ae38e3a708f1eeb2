theorem fl_X4_catalogue_12 : Cond.fieldLink RX4 12 "FacingPlates$Reader" "read" "LFacingPlates$Catalogue;" ∈ wsX4_catalogue := by decide +kernel
set_option maxHeartbeats 4000000 in
set_option maxRecDepth 100000 in
theorem c_X4_catalogue (l : Launch) (D : va_G) (cyI : ClassId) (h : Nat) (hc : Nat) (ai : Int) (lr : Int) : fp_M l yX4_catalogue wsX4_catalogue ({ frames := 0, cells := 0, slots := 0, locals := 0 } : Room) D cyI [(h, .inr (4, [.ref hc, .int (iI (ai)), .int (iI (lr))]))] [.ref h] (some (.ref hc)) := by
  refine fp_start (cc := cX4_catalogue) (maxL := 1) (ret := (some (.object "FacingPlates$Catalogue"))) (by decide) rfl (Nat.le_of_ble_eq_true rfl) ?_
  intro pg en sx mi ar bl mt cd ls hx hb hr hts hown hlocks hml hnm hP hK hD hl
  have hown : sx.vm.findClass RX4 = some mi.cls := hown
  have hl : lv_has ls 1 [(0, .ref h)] := hl
  refine lv_aload_n hx hb dX4_catalogue_0 rfl (lv_at hl 0 rfl) ?_
  refine va_get (D := D) (ci := 4) (ws := [(h, .inr (4, [.ref hc, .int (iI (ai)), .int (iI (lr))]))]) (v := .ref hc) (C := RX4) (T := TX4) (N := 3) hx hb hts (fun _ h => List.mem_cons_of_mem _ (List.mem_append_right _ h)) hown hK.1 hP 0 rfl rfl 0 (by decide) (hts _ fl_X4_catalogue_12) (fun _ h9 => h9) rfl dX4_catalogue_1 ?_
  exact fp_areth hx hb hr hlocks dX4_catalogue_4
theorem fl_X4_lotsRead_22 : Cond.fieldLink RX4 22 "FacingPlates$Reader" "lotsRead" "I" ∈ wsX4_lotsRead := by decide +kernel
set_option maxHeartbeats 4000000 in
set_option maxRecDepth 100000 in
theorem c_X4_lotsRead (l : Launch) (D : va_G) (cyI : ClassId) (h : Nat) (hc : Nat) (ai : Int) (lr : Int) : fp_M l yX4_lotsRead wsX4_lotsRead ({ frames := 0, cells := 0, slots := 0, locals := 0 } : Room) D cyI [(h, .inr (4, [.ref hc, .int (iI (ai)), .int (iI (lr))]))] [.ref h] (some (.int (iI (lr)))) := by
  refine fp_start (cc := cX4_lotsRead) (maxL := 1) (ret := (some .int)) (by decide) rfl (Nat.le_of_ble_eq_true rfl) ?_
  intro pg en sx mi ar bl mt cd ls hx hb hr hts hown hlocks hml hnm hP hK hD hl
  have hown : sx.vm.findClass RX4 = some mi.cls := hown
  have hl : lv_has ls 1 [(0, .ref h)] := hl
  refine lv_aload_n hx hb dX4_lotsRead_0 rfl (lv_at hl 0 rfl) ?_
  refine va_get (D := D) (ci := 4) (ws := [(h, .inr (4, [.ref hc, .int (iI (ai)), .int (iI (lr))]))]) (v := .int (iI (lr))) (C := RX4) (T := TX4) (N := 3) hx hb hts (fun _ h => List.mem_cons_of_mem _ (List.mem_append_right _ h)) hown hK.1 hP 0 rfl rfl 2 (by decide) (hts _ fl_X4_lotsRead_22) (fun _ h9 => h9) rfl dX4_lotsRead_1 ?_
  have hret : (lr : Int) = lr := (by first | rfl | omega | (unfold bI; split <;> first | rfl | omega))
  exact fp_ret hx hb hr hlocks dX4_lotsRead_4 (congrArg (fun z : Int => Value.int (iI z)) hret)
theorem fl_X4_takes_18 : Cond.fieldLink RX4 18 "FacingPlates$Reader" "at" "I" ∈ wsX4_takes := by decide +kernel
set_option maxHeartbeats 4000000 in
set_option maxRecDepth 100000 in
theorem c_X4_takes (l : Launch) (D : va_G) (cyI : ClassId) (h : Nat) (hc : Nat) (ai : Int) (lr : Int) (ht : Nat) (rt : Nat) (xa : Nat) (x : Int → Int) (n : Int) (v : Int) (hx0 : TextOK x) (hn60 : 0 ≤ n ∧ n ≤ 60) (hai : 0 ≤ ai ∧ ai ≤ 10000) (hv : 0 ≤ v ∧ v ≤ 65535) : fp_MW l yX4_takes wsX4_takes ({ frames := 2, cells := 0, slots := 0, locals := 42 } : Room) D cyI [(h, .inr (4, [.ref hc, .int (iI (ai)), .int (iI (lr))])), (ht, .inr (6, [.ref rt, .int (iI (n))])), (rt, .inr (5, [.ref xa])), (xa, fA cyI 60 x)] [.ref h, .ref ht, .int (iI (v))] (fun (u9 : Unit) => True) (fun (u9 : Unit) => some (.int (iI (bI (chI x n ai = v))))) (fun (u9 : Unit) => [(h, .inr (4, [.ref hc, .int (iI (ai + bI (chI x n ai = v))), .int (iI (lr))])), (ht, .inr (6, [.ref rt, .int (iI (n))])), (rt, .inr (5, [.ref xa])), (xa, fA cyI 60 x)]) := by
  refine fp_start (cc := cX4_takes) (maxL := 3) (ret := (some .boolean)) (by decide) rfl (Nat.le_of_ble_eq_true rfl) ?_
  intro pg en sx mi ar bl mt cd ls hx hb hr hts hown hlocks hml hnm hP hK hD hl
  have hown : sx.vm.findClass RX4 = some mi.cls := hown
  have hl : lv_has ls 3 [(0, .ref h), (1, .ref ht), (2, .int (iI (v)))] := hl
  have hD := fp_self hD
  have hS : va_S (fp_A [(h, .inr (4, [.ref hc, .int (iI (ai)), .int (iI (lr))])), (ht, .inr (6, [.ref rt, .int (iI (n))])), (rt, .inr (5, [.ref xa])), (xa, fA cyI 60 x)]) sx.heap sx.heap [] := va_S.rf
  have hch := chI_rg hx0 n ai
  refine lv_aload_n hx hb dX4_takes_0 rfl (lv_at hl 1 rfl) ?_
  refine lv_aload_n hx hb dX4_takes_1 rfl (lv_at hl 0 rfl) ?_
  refine va_get (D := D) (ci := 4) (ws := [(h, .inr (4, [.ref hc, .int (iI (ai)), .int (iI (lr))])), (ht, .inr (6, [.ref rt, .int (iI (n))])), (rt, .inr (5, [.ref xa])), (xa, fA cyI 60 x)]) (v := .int (iI (ai))) (C := RX4) (T := TX4) (N := 3) hx hb hts (fun _ h => List.mem_cons_of_mem _ (List.mem_append_left _ (List.mem_append_left _ (List.mem_append_right _ h)))) hown hK.1 hP 0 rfl rfl 1 (by decide) (hts _ fl_X4_takes_18) (fun _ h9 => h9) rfl dX4_takes_2 ?_
  refine fp_pV (As := [.int (iI (ai))]) (rest := []) (wsC := [(h, .inr (4, [.ref hc, .int (iI (ai)), .int (iI (lr))])), (ht, .inr (6, [.ref rt, .int (iI (n))])), (rt, .inr (5, [.ref xa])), (xa, fA cyI 60 x)]) ⟨hx, hb, hml, hown, hts⟩ (c_X6_at l D cyI ht rt xa x n ai (by omega) (by omega)) (cwV 1 hts gX4_takes_X6_at rfl rfl rfl (by decide +kernel) ⟨Nat.le_of_ble_eq_true rfl, Nat.le_of_ble_eq_true rfl⟩) hK hP hD [1, 2, 3] (by decide) rfl rfl rfl rfl hl.1 rfl (Nat.le_of_ble_eq_true rfl) dX4_takes_5 ⟨Nat.zero_le _, Nat.zero_le _⟩ ?_
  refine lv_iload_n hx hb dX4_takes_8 rfl (lv_at hl 2 rfl) ?_
  refine fp_icmp_eq (tgt := 14) hx hb (by omega) dX4_takes_9 (by decide) (fun q9 => ?_) (fun q9 => ?_)
  · skip
    refine lv_aload_n hx hb dX4_takes_14 rfl (lv_at hl 0 rfl) ?_
    refine lv_dup hx hb dX4_takes_15 rfl ?_
    refine va_get (D := D) (ci := 4) (ws := [(h, .inr (4, [.ref hc, .int (iI (ai)), .int (iI (lr))])), (ht, .inr (6, [.ref rt, .int (iI (n))])), (rt, .inr (5, [.ref xa])), (xa, fA cyI 60 x)]) (v := .int (iI (ai))) (C := RX4) (T := TX4) (N := 3) hx hb hts (fun _ h => List.mem_cons_of_mem _ (List.mem_append_left _ (List.mem_append_left _ (List.mem_append_right _ h)))) hown hK.1 hP 0 rfl rfl 1 (by decide) (hts _ fl_X4_takes_18) (fun _ h9 => h9) rfl dX4_takes_16 ?_
    refine fp_iconst hx hb dX4_takes_19 ?_
    refine fp_iadd hx hb dX4_takes_20 ?_
    refine va_put (D := D) (ci := 4) (ws := [(h, .inr (4, [.ref hc, .int (iI (ai)), .int (iI (lr))])), (ht, .inr (6, [.ref rt, .int (iI (n))])), (rt, .inr (5, [.ref xa])), (xa, fA cyI 60 x)]) (v := .int (iI (ai + 1))) (ty := .int) (C := RX4) (T := TX4) (N := 3) hx hb hts (fun _ h => List.mem_cons_of_mem _ (List.mem_append_left _ (List.mem_append_left _ (List.mem_append_right _ h)))) tyX4 tyX4_ok nmX4 hown hK.1 hP hD hS 0 rfl rfl 1 (by decide) (hts _ fl_X4_takes_18) (fun _ h9 => h9) rfl (by decide +kernel) rfl rfl (Nat.le_of_ble_eq_true rfl) dX4_takes_21 (fun H locs hP hD hS => ?_)
    have hP : va_P D vwCl [(h, .inr (4, [.ref hc, .int (iI (ai + 1)), .int (iI (lr))])), (ht, .inr (6, [.ref rt, .int (iI (n))])), (rt, .inr (5, [.ref xa])), (xa, fA cyI 60 x)] H := hP
    have hD : va_D (fp_A [(h, .inr (4, [.ref hc, .int (iI (ai)), .int (iI (lr))])), (ht, .inr (6, [.ref rt, .int (iI (n))])), (rt, .inr (5, [.ref xa])), (xa, fA cyI 60 x)]) [(h, .inr (4, [.ref hc, .int (iI (ai + 1)), .int (iI (lr))])), (ht, .inr (6, [.ref rt, .int (iI (n))])), (rt, .inr (5, [.ref xa])), (xa, fA cyI 60 x)] := hD
    refine fp_iconst hx hb dX4_takes_24 ?_
    have hP : va_P D vwCl [(h, .inr (4, [.ref hc, .int (iI (ai + bI (chI x n ai = v))), .int (iI (lr))])), (ht, .inr (6, [.ref rt, .int (iI (n))])), (rt, .inr (5, [.ref xa])), (xa, fA cyI 60 x)] H := by
      rw [(show (ai + 1 : Int) = ai + bI (chI x n ai = v) from (by first | rw [bI_t (by omega)] | (rw [bI_f (by omega)]; omega))).symm]
      exact hP
    have hret : (bI (chI x n ai = v) : Int) = 1 := (by first | rw [bI_t (by omega)] | rw [bI_f (by omega)])
    exact fp_wzret () hx hb hr hlocks (by first | exact Or.inl rfl | exact Or.inr rfl | exact bI_01 _ | omega) hS hP trivial (congrArg (fun z : Int => some (Value.int (iI z))) hret) dX4_takes_25
  · skip
    refine fp_iconst hx hb dX4_takes_12 ?_
    have hP : va_P D vwCl [(h, .inr (4, [.ref hc, .int (iI (ai + bI (chI x n ai = v))), .int (iI (lr))])), (ht, .inr (6, [.ref rt, .int (iI (n))])), (rt, .inr (5, [.ref xa])), (xa, fA cyI 60 x)] sx.heap := by
      rw [(show (ai : Int) = ai + bI (chI x n ai = v) from (by first | rw [bI_t (by omega)] | (rw [bI_f (by omega)]; omega))).symm]
      exact hP
    have hret : (bI (chI x n ai = v) : Int) = 0 := (by first | rw [bI_t (by omega)] | rw [bI_f (by omega)])
    exact fp_wzret () hx hb hr hlocks (by first | exact Or.inl rfl | exact Or.inr rfl | exact bI_01 _ | omega) hS hP trivial (congrArg (fun z : Int => some (Value.int (iI z))) hret) dX4_takes_13
theorem fl_X4_readLot_18 : Cond.fieldLink RX4 18 "FacingPlates$Reader" "at" "I" ∈ wsX4_readLot := by decide +kernel
theorem ini_X4_readLot_X7 : Cond.initialized RX7 ∈ wsX4_readLot := by decide +kernel
theorem stt_X4_readLot_X7_isText : Cond.static yX7_isText ∈ wsX4_readLot := by decide +kernel
theorem fl_X4_readLot_12 : Cond.fieldLink RX4 12 "FacingPlates$Reader" "read" "LFacingPlates$Catalogue;" ∈ wsX4_readLot := by decide +kernel
theorem fl_X4_readLot_22 : Cond.fieldLink RX4 22 "FacingPlates$Reader" "lotsRead" "I" ∈ wsX4_readLot := by decide +kernel
set_option maxHeartbeats 4000000 in
set_option maxRecDepth 100000 in
theorem c_X4_readLot (l : Launch) (D : va_G) (cyI : ClassId) (h : Nat) (hc : Nat) (ai : Int) (lr : Int) (r : Nat) (a : Nat) (c : Int → Int) (ht : Nat) (rt : Nat) (xa : Nat) (x : Int → Int) (n : Int) (hx0 : TextOK x) (hn60 : 0 ≤ n ∧ n ≤ 60) (hai : 0 ≤ ai ∧ ai ≤ 1000) (hc0 : 0 ≤ c 0 ∧ c 0 ≤ 12) : fp_MW l yX4_readLot wsX4_readLot ({ frames := 4, cells := 0, slots := 0, locals := 95 } : Room) D cyI [(h, .inr (4, [.ref hc, .int (iI (ai)), .int (iI (lr))])), (hc, .inr (0, [.ref r])), (r, .inr (5, [.ref a])), (a, fA cyI 54 c), (ht, .inr (6, [.ref rt, .int (iI (n))])), (rt, .inr (5, [.ref xa])), (xa, fA cyI 60 x)] [.ref h, .ref ht] (fun (u9 : Unit) => True) (fun (u9 : Unit) => some (.int (iI (rK x n ai)))) (fun (u9 : Unit) => [(h, .inr (4, [.ref hc, .int (iI (if rK x n ai = 0 then rF x n ai else rE x n ai)), .int (iI (lr + rK x n ai))])), (hc, .inr (0, [.ref r])), (r, .inr (5, [.ref a])), (a, fA cyI 54 (rL x n ai c)), (ht, .inr (6, [.ref rt, .int (iI (n))])), (rt, .inr (5, [.ref xa])), (xa, fA cyI 60 x)]) := by
  refine fp_start (cc := cX4_readLot) (maxL := 6) (ret := (some .boolean)) (by decide) rfl (Nat.le_of_ble_eq_true rfl) ?_
  intro pg en sx mi ar bl mt cd ls hx hb hr hts hown hlocks hml hnm hP hK hD hl
  have hown : sx.vm.findClass RX4 = some mi.cls := hown
  have hl : lv_has ls 6 [(0, .ref h), (1, .ref ht)] := hl
  have hD := fp_self hD
  have hS : va_S (fp_A [(h, .inr (4, [.ref hc, .int (iI (ai)), .int (iI (lr))])), (hc, .inr (0, [.ref r])), (r, .inr (5, [.ref a])), (a, fA cyI 54 c), (ht, .inr (6, [.ref rt, .int (iI (n))])), (rt, .inr (5, [.ref xa])), (xa, fA cyI 60 x)]) sx.heap sx.heap [] := va_S.rf
  have hch := chI_rg hx0 n ai
  have hc1 := chI_rg hx0 n (ai + 1)
  have hc2 := chI_rg hx0 n (rA x n ai)
  have hc3 := chI_rg hx0 n (rA x n ai + 1)
  have hc4 := chI_rg hx0 n (rC x n ai)
  have hrA := rA_rg x n ai
  have hrC := rC_rg x n ai
  have eT : chI x n ai - 48 = rT x n ai := rfl
  have hrP := rP_rg x n ai
  refine lv_aload_n hx hb dX4_readLot_0 rfl (lv_at hl 1 rfl) ?_
  refine lv_aload_n hx hb dX4_readLot_1 rfl (lv_at hl 0 rfl) ?_
  refine va_get (D := D) (ci := 4) (ws := [(h, .inr (4, [.ref hc, .int (iI (ai)), .int (iI (lr))])), (hc, .inr (0, [.ref r])), (r, .inr (5, [.ref a])), (a, fA cyI 54 c), (ht, .inr (6, [.ref rt, .int (iI (n))])), (rt, .inr (5, [.ref xa])), (xa, fA cyI 60 x)]) (v := .int (iI (ai))) (C := RX4) (T := TX4) (N := 3) hx hb hts (fun _ h => List.mem_cons_of_mem _ (List.mem_append_left _ (List.mem_append_left _ (List.mem_append_left _ (List.mem_append_right _ h))))) hown hK.1 hP 0 rfl rfl 1 (by decide) (hts _ fl_X4_readLot_18) (fun _ h9 => h9) rfl dX4_readLot_2 ?_
  refine fp_pV (As := [.int (iI (ai))]) (rest := []) (wsC := [(h, .inr (4, [.ref hc, .int (iI (ai)), .int (iI (lr))])), (hc, .inr (0, [.ref r])), (r, .inr (5, [.ref a])), (a, fA cyI 54 c), (ht, .inr (6, [.ref rt, .int (iI (n))])), (rt, .inr (5, [.ref xa])), (xa, fA cyI 60 x)]) ⟨hx, hb, hml, hown, hts⟩ (c_X6_at l D cyI ht rt xa x n ai (by omega) (by omega)) (cwV 1 hts gX4_readLot_X6_at rfl rfl rfl (by decide +kernel) ⟨Nat.le_of_ble_eq_true rfl, Nat.le_of_ble_eq_true rfl⟩) hK hP hD [4, 5, 6] (by decide) rfl rfl rfl rfl hl.1 rfl (Nat.le_of_ble_eq_true rfl) dX4_readLot_5 ⟨Nat.zero_le _, Nat.zero_le _⟩ ?_
  refine fp_bipush hx hb dX4_readLot_8 (by decide) ?_
  refine fp_isub hx hb dX4_readLot_10 ?_
  refine lv_istore_n (lv' := [(2, .int (iI ((chI x n ai) - 48))), (0, .ref h), (1, .ref ht)]) hx hb dX4_readLot_11 rfl hl (by decide) rfl (fun ls hl => ?_)
  refine lv_iload_n hx hb dX4_readLot_12 rfl (lv_at hl 0 rfl) ?_
  refine fp_pSN (As := [.int (iI ((chI x n ai) - 48))]) (rest := []) (wsC := [(h, .inr (4, [.ref hc, .int (iI (ai)), .int (iI (lr))])), (hc, .inr (0, [.ref r])), (r, .inr (5, [.ref a])), (a, fA cyI 54 c), (ht, .inr (6, [.ref rt, .int (iI (n))])), (rt, .inr (5, [.ref xa])), (xa, fA cyI 60 x)]) ⟨hx, hb, hml, hown, hts⟩ (c_X7_isText l D cyI ((chI x n ai) - 48) (by omega)) ⟨va_cnB 1 hts gX4_readLot_X7_isText_n45 rfl rfl rfl hK.2.1 (hts _ ini_X4_readLot_X7) (by decide +kernel) ⟨Nat.le_of_ble_eq_true rfl, Nat.le_of_ble_eq_true rfl⟩, (hts _ stt_X4_readLot_X7_isText), trivial⟩ hK hP hD [] (by decide) rfl rfl hl.1 rfl (Nat.le_of_ble_eq_true rfl) dX4_readLot_13 ⟨Nat.zero_le _, Nat.zero_le _⟩ ?_
  refine fp_if_ne (tgt := 21) hx hb (bI_r32 _) dX4_readLot_16 (by decide) (fun q16 => ?_) (fun q16 => ?_)
  · skip
    have w16 := bI_ne q16
    have hT := bI_ne q16
    refine lv_aload_n hx hb dX4_readLot_21 rfl (lv_at hl 1 rfl) ?_
    refine lv_dup hx hb dX4_readLot_22 rfl ?_
    refine va_get (D := D) (ci := 4) (ws := [(h, .inr (4, [.ref hc, .int (iI (ai)), .int (iI (lr))])), (hc, .inr (0, [.ref r])), (r, .inr (5, [.ref a])), (a, fA cyI 54 c), (ht, .inr (6, [.ref rt, .int (iI (n))])), (rt, .inr (5, [.ref xa])), (xa, fA cyI 60 x)]) (v := .int (iI (ai))) (C := RX4) (T := TX4) (N := 3) hx hb hts (fun _ h => List.mem_cons_of_mem _ (List.mem_append_left _ (List.mem_append_left _ (List.mem_append_left _ (List.mem_append_right _ h))))) hown hK.1 hP 0 rfl rfl 1 (by decide) (hts _ fl_X4_readLot_18) (fun _ h9 => h9) rfl dX4_readLot_23 ?_
    refine fp_iconst hx hb dX4_readLot_26 ?_
    refine fp_iadd hx hb dX4_readLot_27 ?_
    refine va_put (D := D) (ci := 4) (ws := [(h, .inr (4, [.ref hc, .int (iI (ai)), .int (iI (lr))])), (hc, .inr (0, [.ref r])), (r, .inr (5, [.ref a])), (a, fA cyI 54 c), (ht, .inr (6, [.ref rt, .int (iI (n))])), (rt, .inr (5, [.ref xa])), (xa, fA cyI 60 x)]) (v := .int (iI (ai + 1))) (ty := .int) (C := RX4) (T := TX4) (N := 3) hx hb hts (fun _ h => List.mem_cons_of_mem _ (List.mem_append_left _ (List.mem_append_left _ (List.mem_append_left _ (List.mem_append_right _ h))))) tyX4 tyX4_ok nmX4 hown hK.1 hP hD hS 0 rfl rfl 1 (by decide) (hts _ fl_X4_readLot_18) (fun _ h9 => h9) rfl (by decide +kernel) rfl rfl (Nat.le_of_ble_eq_true rfl) dX4_readLot_28 (fun H locs hP hD hS => ?_)
    have hP : va_P D vwCl [(h, .inr (4, [.ref hc, .int (iI (ai + 1)), .int (iI (lr))])), (hc, .inr (0, [.ref r])), (r, .inr (5, [.ref a])), (a, fA cyI 54 c), (ht, .inr (6, [.ref rt, .int (iI (n))])), (rt, .inr (5, [.ref xa])), (xa, fA cyI 60 x)] H := hP
    have hD : va_D (fp_A [(h, .inr (4, [.ref hc, .int (iI (ai)), .int (iI (lr))])), (hc, .inr (0, [.ref r])), (r, .inr (5, [.ref a])), (a, fA cyI 54 c), (ht, .inr (6, [.ref rt, .int (iI (n))])), (rt, .inr (5, [.ref xa])), (xa, fA cyI 60 x)]) [(h, .inr (4, [.ref hc, .int (iI (ai + 1)), .int (iI (lr))])), (hc, .inr (0, [.ref r])), (r, .inr (5, [.ref a])), (a, fA cyI 54 c), (ht, .inr (6, [.ref rt, .int (iI (n))])), (rt, .inr (5, [.ref xa])), (xa, fA cyI 60 x)] := hD
    have jn1 : ∀ (pl : Int) (b2 : Int), (pl = rP x n ai) → (b2 = rA x n ai) → ∀ (H : Heap) (locs : List Loc), va_P D vwCl [(h, .inr (4, [.ref hc, .int (iI (b2)), .int (iI (lr))])), (hc, .inr (0, [.ref r])), (r, .inr (5, [.ref a])), (a, fA cyI 54 c), (ht, .inr (6, [.ref rt, .int (iI (n))])), (rt, .inr (5, [.ref xa])), (xa, fA cyI 60 x)] H → va_D (fp_A [(h, .inr (4, [.ref hc, .int (iI (ai)), .int (iI (lr))])), (hc, .inr (0, [.ref r])), (r, .inr (5, [.ref a])), (a, fA cyI 54 c), (ht, .inr (6, [.ref rt, .int (iI (n))])), (rt, .inr (5, [.ref xa])), (xa, fA cyI 60 x)]) [(h, .inr (4, [.ref hc, .int (iI (b2)), .int (iI (lr))])), (hc, .inr (0, [.ref r])), (r, .inr (5, [.ref a])), (a, fA cyI 54 c), (ht, .inr (6, [.ref rt, .int (iI (n))])), (rt, .inr (5, [.ref xa])), (xa, fA cyI 60 x)] → va_S (fp_A [(h, .inr (4, [.ref hc, .int (iI (ai)), .int (iI (lr))])), (hc, .inr (0, [.ref r])), (r, .inr (5, [.ref a])), (a, fA cyI 54 c), (ht, .inr (6, [.ref rt, .int (iI (n))])), (rt, .inr (5, [.ref xa])), (xa, fA cyI 60 x)]) sx.heap H locs → ∀ (ls : Array Slot), lv_has ls 6 [(0, .ref h), (1, .ref ht), (2, .int (iI ((chI x n ai) - 48)))] → W pg l en ({ frames := 4, cells := 0, slots := 0, locals := 95 } : Room) sx mi ar bl mt cd H locs 0 0 (MQ bl (fp_Qw D [(h, .inr (4, [.ref hc, .int (iI (ai)), .int (iI (lr))])), (hc, .inr (0, [.ref r])), (r, .inr (5, [.ref a])), (a, fA cyI 54 c), (ht, .inr (6, [.ref rt, .int (iI (n))])), (rt, .inr (5, [.ref xa])), (xa, fA cyI 60 x)] (fun (u9 : Unit) => True) (fun (u9 : Unit) => some (.int (iI (rK x n ai)))) (fun (u9 : Unit) => [(h, .inr (4, [.ref hc, .int (iI (if rK x n ai = 0 then rF x n ai else rE x n ai)), .int (iI (lr + rK x n ai))])), (hc, .inr (0, [.ref r])), (r, .inr (5, [.ref a])), (a, fA cyI 54 (rL x n ai c)), (ht, .inr (6, [.ref rt, .int (iI (n))])), (rt, .inr (5, [.ref xa])), (xa, fA cyI 60 x)])) ar sx 0 0 (fp_A [(h, .inr (4, [.ref hc, .int (iI (ai)), .int (iI (lr))])), (hc, .inr (0, [.ref r])), (r, .inr (5, [.ref a])), (a, fA cyI 54 c), (ht, .inr (6, [.ref rt, .int (iI (n))])), (rt, .inr (5, [.ref xa])), (xa, fA cyI 60 x)])) (F0 mi 60 ls [.int (iI (pl))]) := by
      intro pl b2 jp jA H locs hP hD hS ls hl
      rw [show (pl : Int) = rP x n ai from jp]
      rw [show (b2 : Int) = rA x n ai from jA] at hP hD
      refine lv_istore_n (lv' := [(3, .int (iI (rP x n ai))), (0, .ref h), (1, .ref ht), (2, .int (iI ((chI x n ai) - 48)))]) hx hb dX4_readLot_60 rfl hl (by decide) rfl (fun ls hl => ?_)
      refine fp_iconst hx hb dX4_readLot_61 ?_
      refine lv_istore (lv' := [(4, .int (iI (0))), (3, .int (iI (rP x n ai))), (0, .ref h), (1, .ref ht), (2, .int (iI ((chI x n ai) - 48)))]) hx hb dX4_readLot_62 hl (by decide) rfl (fun ls hl => ?_)
      have jn2 : ∀ (pv : Int) (b3 : Int), (pv = rV x n ai) → (b3 = rC x n ai) → (0 ≤ rV x n ai ∧ rV x n ai ≤ rT x n ai) → ∀ (H : Heap) (locs : List Loc), va_P D vwCl [(h, .inr (4, [.ref hc, .int (iI (b3)), .int (iI (lr))])), (hc, .inr (0, [.ref r])), (r, .inr (5, [.ref a])), (a, fA cyI 54 c), (ht, .inr (6, [.ref rt, .int (iI (n))])), (rt, .inr (5, [.ref xa])), (xa, fA cyI 60 x)] H → va_D (fp_A [(h, .inr (4, [.ref hc, .int (iI (ai)), .int (iI (lr))])), (hc, .inr (0, [.ref r])), (r, .inr (5, [.ref a])), (a, fA cyI 54 c), (ht, .inr (6, [.ref rt, .int (iI (n))])), (rt, .inr (5, [.ref xa])), (xa, fA cyI 60 x)]) [(h, .inr (4, [.ref hc, .int (iI (b3)), .int (iI (lr))])), (hc, .inr (0, [.ref r])), (r, .inr (5, [.ref a])), (a, fA cyI 54 c), (ht, .inr (6, [.ref rt, .int (iI (n))])), (rt, .inr (5, [.ref xa])), (xa, fA cyI 60 x)] → va_S (fp_A [(h, .inr (4, [.ref hc, .int (iI (ai)), .int (iI (lr))])), (hc, .inr (0, [.ref r])), (r, .inr (5, [.ref a])), (a, fA cyI 54 c), (ht, .inr (6, [.ref rt, .int (iI (n))])), (rt, .inr (5, [.ref xa])), (xa, fA cyI 60 x)]) sx.heap H locs → ∀ (ls : Array Slot), lv_has ls 6 [(0, .ref h), (1, .ref ht), (2, .int (iI ((chI x n ai) - 48))), (3, .int (iI (rP x n ai))), (4, .int (iI (pv)))] → W pg l en ({ frames := 4, cells := 0, slots := 0, locals := 95 } : Room) sx mi ar bl mt cd H locs 0 0 (MQ bl (fp_Qw D [(h, .inr (4, [.ref hc, .int (iI (ai)), .int (iI (lr))])), (hc, .inr (0, [.ref r])), (r, .inr (5, [.ref a])), (a, fA cyI 54 c), (ht, .inr (6, [.ref rt, .int (iI (n))])), (rt, .inr (5, [.ref xa])), (xa, fA cyI 60 x)] (fun (u9 : Unit) => True) (fun (u9 : Unit) => some (.int (iI (rK x n ai)))) (fun (u9 : Unit) => [(h, .inr (4, [.ref hc, .int (iI (if rK x n ai = 0 then rF x n ai else rE x n ai)), .int (iI (lr + rK x n ai))])), (hc, .inr (0, [.ref r])), (r, .inr (5, [.ref a])), (a, fA cyI 54 (rL x n ai c)), (ht, .inr (6, [.ref rt, .int (iI (n))])), (rt, .inr (5, [.ref xa])), (xa, fA cyI 60 x)])) ar sx 0 0 (fp_A [(h, .inr (4, [.ref hc, .int (iI (ai)), .int (iI (lr))])), (hc, .inr (0, [.ref r])), (r, .inr (5, [.ref a])), (a, fA cyI 54 c), (ht, .inr (6, [.ref rt, .int (iI (n))])), (rt, .inr (5, [.ref xa])), (xa, fA cyI 60 x)])) (F0 mi 114 ls []) := by
        intro pv b3 jv jC jr H locs hP hD hS ls hl
        have hK1 : rK x n ai = 1 := by unfold rK; exact bI_t ⟨hT, jr⟩
        rw [show (pv : Int) = rV x n ai from jv] at hl
        rw [show (b3 : Int) = rC x n ai from jC] at hP hD
        refine lv_aload_n hx hb dX4_readLot_114 rfl (lv_at hl 0 rfl) ?_
        have jn3 : ∀ (bl9 : Int) (b4 : Int), (bl9 = rB x n ai) → (b4 = rE x n ai) → ∀ (H : Heap) (locs : List Loc), va_P D vwCl [(h, .inr (4, [.ref hc, .int (iI (b4)), .int (iI (lr))])), (hc, .inr (0, [.ref r])), (r, .inr (5, [.ref a])), (a, fA cyI 54 c), (ht, .inr (6, [.ref rt, .int (iI (n))])), (rt, .inr (5, [.ref xa])), (xa, fA cyI 60 x)] H → va_D (fp_A [(h, .inr (4, [.ref hc, .int (iI (ai)), .int (iI (lr))])), (hc, .inr (0, [.ref r])), (r, .inr (5, [.ref a])), (a, fA cyI 54 c), (ht, .inr (6, [.ref rt, .int (iI (n))])), (rt, .inr (5, [.ref xa])), (xa, fA cyI 60 x)]) [(h, .inr (4, [.ref hc, .int (iI (b4)), .int (iI (lr))])), (hc, .inr (0, [.ref r])), (r, .inr (5, [.ref a])), (a, fA cyI 54 c), (ht, .inr (6, [.ref rt, .int (iI (n))])), (rt, .inr (5, [.ref xa])), (xa, fA cyI 60 x)] → va_S (fp_A [(h, .inr (4, [.ref hc, .int (iI (ai)), .int (iI (lr))])), (hc, .inr (0, [.ref r])), (r, .inr (5, [.ref a])), (a, fA cyI 54 c), (ht, .inr (6, [.ref rt, .int (iI (n))])), (rt, .inr (5, [.ref xa])), (xa, fA cyI 60 x)]) sx.heap H locs → ∀ (ls : Array Slot), lv_has ls 6 [(0, .ref h), (1, .ref ht), (2, .int (iI ((chI x n ai) - 48))), (3, .int (iI (rP x n ai))), (4, .int (iI (rV x n ai)))] → W pg l en ({ frames := 4, cells := 0, slots := 0, locals := 95 } : Room) sx mi ar bl mt cd H locs 0 0 (MQ bl (fp_Qw D [(h, .inr (4, [.ref hc, .int (iI (ai)), .int (iI (lr))])), (hc, .inr (0, [.ref r])), (r, .inr (5, [.ref a])), (a, fA cyI 54 c), (ht, .inr (6, [.ref rt, .int (iI (n))])), (rt, .inr (5, [.ref xa])), (xa, fA cyI 60 x)] (fun (u9 : Unit) => True) (fun (u9 : Unit) => some (.int (iI (rK x n ai)))) (fun (u9 : Unit) => [(h, .inr (4, [.ref hc, .int (iI (if rK x n ai = 0 then rF x n ai else rE x n ai)), .int (iI (lr + rK x n ai))])), (hc, .inr (0, [.ref r])), (r, .inr (5, [.ref a])), (a, fA cyI 54 (rL x n ai c)), (ht, .inr (6, [.ref rt, .int (iI (n))])), (rt, .inr (5, [.ref xa])), (xa, fA cyI 60 x)])) ar sx 0 0 (fp_A [(h, .inr (4, [.ref hc, .int (iI (ai)), .int (iI (lr))])), (hc, .inr (0, [.ref r])), (r, .inr (5, [.ref a])), (a, fA cyI 54 c), (ht, .inr (6, [.ref rt, .int (iI (n))])), (rt, .inr (5, [.ref xa])), (xa, fA cyI 60 x)])) (F0 mi 129 ls [.int (iI (bl9))]) := by
          intro bl9 b4 jb jE H locs hP hD hS ls hl
          rw [show (bl9 : Int) = rB x n ai from jb]
          rw [show (b4 : Int) = rE x n ai from jE] at hP hD
          refine lv_istore (lv' := [(5, .int (iI (rB x n ai))), (0, .ref h), (1, .ref ht), (2, .int (iI ((chI x n ai) - 48))), (3, .int (iI (rP x n ai))), (4, .int (iI (rV x n ai)))]) hx hb dX4_readLot_129 hl (by decide) rfl (fun ls hl => ?_)
          refine lv_aload_n hx hb dX4_readLot_131 rfl (lv_at hl 1 rfl) ?_
          refine va_get (D := D) (ci := 4) (ws := [(h, .inr (4, [.ref hc, .int (iI (rE x n ai)), .int (iI (lr))])), (hc, .inr (0, [.ref r])), (r, .inr (5, [.ref a])), (a, fA cyI 54 c), (ht, .inr (6, [.ref rt, .int (iI (n))])), (rt, .inr (5, [.ref xa])), (xa, fA cyI 60 x)]) (v := .ref hc) (C := RX4) (T := TX4) (N := 3) hx hb hts (fun _ h => List.mem_cons_of_mem _ (List.mem_append_left _ (List.mem_append_left _ (List.mem_append_left _ (List.mem_append_right _ h))))) hown hK.1 hP 0 rfl rfl 0 (by decide) (hts _ fl_X4_readLot_12) (fun _ h9 => h9) rfl dX4_readLot_132 ?_
          refine lv_iload_n hx hb dX4_readLot_135 rfl (lv_at hl 3 rfl) ?_
          refine lv_iload_n hx hb dX4_readLot_136 rfl (lv_at hl 4 rfl) ?_
          refine lv_iload hx hb dX4_readLot_137 (lv_at hl 0 rfl) ?_
          refine lv_iload hx hb dX4_readLot_139 (lv_at hl 5 rfl) ?_
          refine fp_wV (As := [.int (iI ((chI x n ai) - 48)), .int (iI (rP x n ai)), .int (iI (rB x n ai)), .int (iI (rV x n ai))]) (rest := []) (wsC := [(h, .inr (4, [.ref hc, .int (iI (rE x n ai)), .int (iI (lr))])), (hc, .inr (0, [.ref r])), (r, .inr (5, [.ref a])), (a, fA cyI 54 c), (ht, .inr (6, [.ref rt, .int (iI (n))])), (rt, .inr (5, [.ref xa])), (xa, fA cyI 60 x)]) ⟨hx, hb, hml, hown, hts⟩ (c_X0_append l D cyI hc r a c ((chI x n ai) - 48) (rP x n ai) (rB x n ai) (rV x n ai) (by omega)) (cwV 4 hts gX4_readLot_X0_append rfl rfl rfl (by decide +kernel) ⟨Nat.le_of_ble_eq_true rfl, Nat.le_of_ble_eq_true rfl⟩) (fun _ => rfl) hK hP hD hS [1, 2, 3] (by decide) rfl rfl rfl rfl hl.1 rfl (Nat.le_of_ble_eq_true rfl) dX4_readLot_141 ⟨Nat.zero_le _, Nat.zero_le _⟩ (fun u9v H locs hu hP hD hS => ?_)
          refine W.eq (g2 := F0 mi 144 ls []) rfl ?_
          have hP : va_P D vwCl [(h, .inr (4, [.ref hc, .int (iI (rE x n ai)), .int (iI (lr))])), (hc, .inr (0, [.ref r])), (r, .inr (5, [.ref a])), (a, fA cyI 54 (appL c ((chI x n ai) - 48) (rP x n ai) (rB x n ai) (rV x n ai))), (ht, .inr (6, [.ref rt, .int (iI (n))])), (rt, .inr (5, [.ref xa])), (xa, fA cyI 60 x)] H := hP
          have hD : va_D (fp_A [(h, .inr (4, [.ref hc, .int (iI (ai)), .int (iI (lr))])), (hc, .inr (0, [.ref r])), (r, .inr (5, [.ref a])), (a, fA cyI 54 c), (ht, .inr (6, [.ref rt, .int (iI (n))])), (rt, .inr (5, [.ref xa])), (xa, fA cyI 60 x)]) [(h, .inr (4, [.ref hc, .int (iI (rE x n ai)), .int (iI (lr))])), (hc, .inr (0, [.ref r])), (r, .inr (5, [.ref a])), (a, fA cyI 54 (appL c ((chI x n ai) - 48) (rP x n ai) (rB x n ai) (rV x n ai))), (ht, .inr (6, [.ref rt, .int (iI (n))])), (rt, .inr (5, [.ref xa])), (xa, fA cyI 60 x)] := hD
          refine lv_aload_n hx hb dX4_readLot_144 rfl (lv_at hl 1 rfl) ?_
          refine lv_dup hx hb dX4_readLot_145 rfl ?_
          refine va_get (D := D) (ci := 4) (ws := [(h, .inr (4, [.ref hc, .int (iI (rE x n ai)), .int (iI (lr))])), (hc, .inr (0, [.ref r])), (r, .inr (5, [.ref a])), (a, fA cyI 54 (appL c ((chI x n ai) - 48) (rP x n ai) (rB x n ai) (rV x n ai))), (ht, .inr (6, [.ref rt, .int (iI (n))])), (rt, .inr (5, [.ref xa])), (xa, fA cyI 60 x)]) (v := .int (iI (lr))) (C := RX4) (T := TX4) (N := 3) hx hb hts (fun _ h => List.mem_cons_of_mem _ (List.mem_append_left _ (List.mem_append_left _ (List.mem_append_left _ (List.mem_append_right _ h))))) hown hK.1 hP 0 rfl rfl 2 (by decide) (hts _ fl_X4_readLot_22) (fun _ h9 => h9) rfl dX4_readLot_146 ?_
          refine fp_iconst hx hb dX4_readLot_149 ?_
          refine fp_iadd hx hb dX4_readLot_150 ?_
          refine va_put (D := D) (ci := 4) (ws := [(h, .inr (4, [.ref hc, .int (iI (rE x n ai)), .int (iI (lr))])), (hc, .inr (0, [.ref r])), (r, .inr (5, [.ref a])), (a, fA cyI 54 (appL c ((chI x n ai) - 48) (rP x n ai) (rB x n ai) (rV x n ai))), (ht, .inr (6, [.ref rt, .int (iI (n))])), (rt, .inr (5, [.ref xa])), (xa, fA cyI 60 x)]) (v := .int (iI (lr + 1))) (ty := .int) (C := RX4) (T := TX4) (N := 3) hx hb hts (fun _ h => List.mem_cons_of_mem _ (List.mem_append_left _ (List.mem_append_left _ (List.mem_append_left _ (List.mem_append_right _ h))))) tyX4 tyX4_ok nmX4 hown hK.1 hP hD hS 0 rfl rfl 2 (by decide) (hts _ fl_X4_readLot_22) (fun _ h9 => h9) rfl (by decide +kernel) rfl rfl (Nat.le_of_ble_eq_true rfl) dX4_readLot_151 (fun H locs hP hD hS => ?_)
          have hP : va_P D vwCl [(h, .inr (4, [.ref hc, .int (iI (rE x n ai)), .int (iI (lr + 1))])), (hc, .inr (0, [.ref r])), (r, .inr (5, [.ref a])), (a, fA cyI 54 (appL c ((chI x n ai) - 48) (rP x n ai) (rB x n ai) (rV x n ai))), (ht, .inr (6, [.ref rt, .int (iI (n))])), (rt, .inr (5, [.ref xa])), (xa, fA cyI 60 x)] H := hP
          have hD : va_D (fp_A [(h, .inr (4, [.ref hc, .int (iI (ai)), .int (iI (lr))])), (hc, .inr (0, [.ref r])), (r, .inr (5, [.ref a])), (a, fA cyI 54 c), (ht, .inr (6, [.ref rt, .int (iI (n))])), (rt, .inr (5, [.ref xa])), (xa, fA cyI 60 x)]) [(h, .inr (4, [.ref hc, .int (iI (rE x n ai)), .int (iI (lr + 1))])), (hc, .inr (0, [.ref r])), (r, .inr (5, [.ref a])), (a, fA cyI 54 (appL c ((chI x n ai) - 48) (rP x n ai) (rB x n ai) (rV x n ai))), (ht, .inr (6, [.ref rt, .int (iI (n))])), (rt, .inr (5, [.ref xa])), (xa, fA cyI 60 x)] := hD
          refine fp_iconst hx hb dX4_readLot_154 ?_
          have hP : va_P D vwCl [(h, .inr (4, [.ref hc, .int (iI (if rK x n ai = 0 then rF x n ai else rE x n ai)), .int (iI (lr + rK x n ai))])), (hc, .inr (0, [.ref r])), (r, .inr (5, [.ref a])), (a, fA cyI 54 (rL x n ai c)), (ht, .inr (6, [.ref rt, .int (iI (n))])), (rt, .inr (5, [.ref xa])), (xa, fA cyI 60 x)] H := by
            rw [(show (appL c ((chI x n ai) - 48) (rP x n ai) (rB x n ai) (rV x n ai) : Int → Int) = rL x n ai c from (by unfold rL; first | rw [if_pos hK0] | (rw [if_neg (by omega)]; rfl))).symm]
            rw [(show (rE x n ai : Int) = if rK x n ai = 0 then rF x n ai else rE x n ai from (by first | rw [if_pos hK0, hF0] | rw [if_neg (by omega)])).symm]
            rw [(show (lr + 1 : Int) = lr + rK x n ai from (by first | rw [hK0, Int.add_zero] | rw [hK1])).symm]
            exact hP
          have hret : (rK x n ai : Int) = 1 := (by first | exact hK0 | exact hK1)
          exact fp_wzret () hx hb hr hlocks (by first | exact Or.inl rfl | exact Or.inr rfl | exact bI_01 _ | omega) hS hP trivial (congrArg (fun z : Int => some (Value.int (iI z))) hret) dX4_readLot_155
        refine lv_aload_n hx hb dX4_readLot_115 rfl (lv_at hl 1 rfl) ?_
        refine fp_bipush hx hb dX4_readLot_116 (by decide) ?_
        refine fp_wV (As := [.ref ht, .int (iI (43))]) (rest := []) (wsC := [(h, .inr (4, [.ref hc, .int (iI (rC x n ai)), .int (iI (lr))])), (hc, .inr (0, [.ref r])), (r, .inr (5, [.ref a])), (a, fA cyI 54 c), (ht, .inr (6, [.ref rt, .int (iI (n))])), (rt, .inr (5, [.ref xa])), (xa, fA cyI 60 x)]) ⟨hx, hb, hml, hown, hts⟩ (c_X4_takes l D cyI h hc (rC x n ai) lr ht rt xa x n 43 hx0 (by omega) (by omega) (by omega)) (cwV 2 hts gX4_readLot_X4_takes rfl rfl rfl (by decide +kernel) ⟨Nat.le_of_ble_eq_true rfl, Nat.le_of_ble_eq_true rfl⟩) (fun _ => rfl) hK hP hD hS [0, 4, 5, 6] (by decide) rfl rfl rfl rfl hl.1 rfl (Nat.le_of_ble_eq_true rfl) dX4_readLot_118 ⟨Nat.zero_le _, Nat.zero_le _⟩ (fun u9v H locs hu hP hD hS => ?_)
        refine W.eq (g2 := F0 mi 121 ls [.int (iI (bI (chI x n (rC x n ai) = 43)))]) rfl ?_
        have hP : va_P D vwCl [(h, .inr (4, [.ref hc, .int (iI ((rC x n ai) + bI (chI x n (rC x n ai) = 43))), .int (iI (lr))])), (hc, .inr (0, [.ref r])), (r, .inr (5, [.ref a])), (a, fA cyI 54 c), (ht, .inr (6, [.ref rt, .int (iI (n))])), (rt, .inr (5, [.ref xa])), (xa, fA cyI 60 x)] H := hP
        have hD : va_D (fp_A [(h, .inr (4, [.ref hc, .int (iI (ai)), .int (iI (lr))])), (hc, .inr (0, [.ref r])), (r, .inr (5, [.ref a])), (a, fA cyI 54 c), (ht, .inr (6, [.ref rt, .int (iI (n))])), (rt, .inr (5, [.ref xa])), (xa, fA cyI 60 x)]) [(h, .inr (4, [.ref hc, .int (iI ((rC x n ai) + bI (chI x n (rC x n ai) = 43))), .int (iI (lr))])), (hc, .inr (0, [.ref r])), (r, .inr (5, [.ref a])), (a, fA cyI 54 c), (ht, .inr (6, [.ref rt, .int (iI (n))])), (rt, .inr (5, [.ref xa])), (xa, fA cyI 60 x)] := hD
        refine fp_if_eq (tgt := 128) hx hb (bI_r32 _) dX4_readLot_121 (by decide) (fun q121 => ?_) (fun q121 => ?_)
        · skip
          have w121 := bI_e q121
          have n43 := bI_e q121
          have e5 : (0 : Int) = rB x n ai := by unfold rB; rw [bI_f n43]
          refine fp_iconst hx hb dX4_readLot_128 ?_
          exact jn3 0 ((rC x n ai) + bI (chI x n (rC x n ai) = 43)) e5 rfl H locs hP hD hS ls (lv_sub hl [0, 1, 2, 3, 4] rfl)
        · skip
          have w121 := bI_ne q121
          have c43 := bI_ne q121
          have e5 : (1 : Int) = rB x n ai := by unfold rB; rw [bI_t c43]
          refine fp_iconst hx hb dX4_readLot_124 ?_
          refine lv_goto (tgt := 129) hx hb dX4_readLot_125 (by decide) ?_
          exact jn3 1 ((rC x n ai) + bI (chI x n (rC x n ai) = 43)) e5 rfl H locs hP hD hS ls (lv_sub hl [0, 1, 2, 3, 4] rfl)
      refine lv_iload_n hx hb dX4_readLot_64 rfl (lv_at hl 1 rfl) ?_
      refine fp_if_eq (tgt := 114) hx hb (by omega) dX4_readLot_65 (by decide) (fun q65 => ?_) (fun q65 => ?_)
      · skip
        have hH : rH x n ai = 0 := by unfold rH; rw [if_pos q65]
        have e3 : (0 : Int) = rV x n ai := by unfold rV; rw [if_pos hH]
        have e4 : rC x n ai = rA x n ai := by unfold rC; rw [if_pos hH]
        exact jn2 0 (rA x n ai) e3 (by first | exact e4.symm | exact e6 | exact e7) (by omega) H locs hP hD hS ls (lv_sub hl [2, 3, 4, 1, 0] rfl)
      · skip
        refine lv_aload_n hx hb dX4_readLot_68 rfl (lv_at hl 2 rfl) ?_
        refine lv_aload_n hx hb dX4_readLot_69 rfl (lv_at hl 3 rfl) ?_
        refine fp_bipush hx hb dX4_readLot_70 (by decide) ?_
        refine fp_wV (As := [.ref ht, .int (iI (64))]) (rest := []) (wsC := [(h, .inr (4, [.ref hc, .int (iI (rA x n ai)), .int (iI (lr))])), (hc, .inr (0, [.ref r])), (r, .inr (5, [.ref a])), (a, fA cyI 54 c), (ht, .inr (6, [.ref rt, .int (iI (n))])), (rt, .inr (5, [.ref xa])), (xa, fA cyI 60 x)]) ⟨hx, hb, hml, hown, hts⟩ (c_X4_takes l D cyI h hc (rA x n ai) lr ht rt xa x n 64 hx0 (by omega) (by omega) (by omega)) (cwV 2 hts gX4_readLot_X4_takes rfl rfl rfl (by decide +kernel) ⟨Nat.le_of_ble_eq_true rfl, Nat.le_of_ble_eq_true rfl⟩) (fun _ => rfl) hK hP hD hS [0, 4, 5, 6] (by decide) rfl rfl rfl rfl hl.1 rfl (Nat.le_of_ble_eq_true rfl) dX4_readLot_72 ⟨Nat.zero_le _, Nat.zero_le _⟩ (fun u9v H locs hu hP hD hS => ?_)
        refine W.eq (g2 := F0 mi 75 ls [.int (iI (bI (chI x n (rA x n ai) = 64)))]) rfl ?_
        have hP : va_P D vwCl [(h, .inr (4, [.ref hc, .int (iI ((rA x n ai) + bI (chI x n (rA x n ai) = 64))), .int (iI (lr))])), (hc, .inr (0, [.ref r])), (r, .inr (5, [.ref a])), (a, fA cyI 54 c), (ht, .inr (6, [.ref rt, .int (iI (n))])), (rt, .inr (5, [.ref xa])), (xa, fA cyI 60 x)] H := hP
        have hD : va_D (fp_A [(h, .inr (4, [.ref hc, .int (iI (ai)), .int (iI (lr))])), (hc, .inr (0, [.ref r])), (r, .inr (5, [.ref a])), (a, fA cyI 54 c), (ht, .inr (6, [.ref rt, .int (iI (n))])), (rt, .inr (5, [.ref xa])), (xa, fA cyI 60 x)]) [(h, .inr (4, [.ref hc, .int (iI ((rA x n ai) + bI (chI x n (rA x n ai) = 64))), .int (iI (lr))])), (hc, .inr (0, [.ref r])), (r, .inr (5, [.ref a])), (a, fA cyI 54 c), (ht, .inr (6, [.ref rt, .int (iI (n))])), (rt, .inr (5, [.ref xa])), (xa, fA cyI 60 x)] := hD
        refine fp_if_eq (tgt := 114) hx hb (bI_r32 _) dX4_readLot_75 (by decide) (fun q75 => ?_) (fun q75 => ?_)
        · skip
          have w75 := bI_e q75
          have n64 := bI_e q75
          have hH : rH x n ai = 0 := by unfold rH; rw [if_neg q65, bI_f n64]
          have e3 : (0 : Int) = rV x n ai := by unfold rV; rw [if_pos hH]
          have e4 : rC x n ai = rA x n ai := by unfold rC; rw [if_pos hH]
          have e6 : rA x n ai + bI (chI x n (rA x n ai) = 64) = rC x n ai := by rw [bI_f n64, e4]; omega
          exact jn2 0 ((rA x n ai) + bI (chI x n (rA x n ai) = 64)) e3 (by first | exact e4.symm | exact e6 | exact e7) (by omega) H locs hP hD hS ls (lv_sub hl [2, 3, 4, 1, 0] rfl)
        · skip
          have w75 := bI_ne q75
          have c64 := bI_ne q75
          have hH : rH x n ai = 1 := by unfold rH; rw [if_neg q65, bI_t c64]
          have e3 : chI x n (rA x n ai + 1) - 48 = rV x n ai := by unfold rV; rw [if_neg (by omega)]
          have e4 : rC x n ai = rA x n ai + 1 + 1 := by unfold rC; rw [if_neg (by omega)]
          rw [show ((rA x n ai) + bI (chI x n (rA x n ai) = 64) : Int) = rA x n ai + 1 from (by rw [bI_t c64])] at hP hD
          refine lv_aload_n hx hb dX4_readLot_78 rfl (lv_at hl 3 rfl) ?_
          refine lv_aload_n hx hb dX4_readLot_79 rfl (lv_at hl 2 rfl) ?_
          refine va_get (D := D) (ci := 4) (ws := [(h, .inr (4, [.ref hc, .int (iI (rA x n ai + 1)), .int (iI (lr))])), (hc, .inr (0, [.ref r])), (r, .inr (5, [.ref a])), (a, fA cyI 54 c), (ht, .inr (6, [.ref rt, .int (iI (n))])), (rt, .inr (5, [.ref xa])), (xa, fA cyI 60 x)]) (v := .int (iI (rA x n ai + 1))) (C := RX4) (T := TX4) (N := 3) hx hb hts (fun _ h => List.mem_cons_of_mem _ (List.mem_append_left _ (List.mem_append_left _ (List.mem_append_left _ (List.mem_append_right _ h))))) hown hK.1 hP 0 rfl rfl 1 (by decide) (hts _ fl_X4_readLot_18) (fun _ h9 => h9) rfl dX4_readLot_80 ?_
          refine fp_pV (As := [.int (iI (rA x n ai + 1))]) (rest := []) (wsC := [(h, .inr (4, [.ref hc, .int (iI (rA x n ai + 1)), .int (iI (lr))])), (hc, .inr (0, [.ref r])), (r, .inr (5, [.ref a])), (a, fA cyI 54 c), (ht, .inr (6, [.ref rt, .int (iI (n))])), (rt, .inr (5, [.ref xa])), (xa, fA cyI 60 x)]) ⟨hx, hb, hml, hown, hts⟩ (c_X6_at l D cyI ht rt xa x n (rA x n ai + 1) (by omega) (by omega)) (cwV 1 hts gX4_readLot_X6_at rfl rfl rfl (by decide +kernel) ⟨Nat.le_of_ble_eq_true rfl, Nat.le_of_ble_eq_true rfl⟩) hK hP hD [4, 5, 6] (by decide) rfl rfl rfl rfl hl.1 rfl (Nat.le_of_ble_eq_true rfl) dX4_readLot_83 ⟨Nat.zero_le _, Nat.zero_le _⟩ ?_
          refine fp_bipush hx hb dX4_readLot_86 (by decide) ?_
          refine fp_isub hx hb dX4_readLot_88 ?_
          refine lv_istore (lv' := [(4, .int (iI ((chI x n (rA x n ai + 1)) - 48))), (3, .int (iI (rP x n ai))), (0, .ref h), (1, .ref ht), (2, .int (iI ((chI x n ai) - 48)))]) hx hb dX4_readLot_89 hl (by decide) rfl (fun ls hl => ?_)
          rw [show ((chI x n (rA x n ai + 1)) - 48 : Int) = rV x n ai from e3] at hl
          refine lv_iload hx hb dX4_readLot_91 (lv_at hl 0 rfl) ?_
          refine fp_if_lt (tgt := 102) hx hb (by omega) dX4_readLot_93 (by decide) (fun q93 => ?_) (fun q93 => ?_)
          · skip
            have hK0 : rK x n ai = 0 := by unfold rK; exact bI_f (fun z => by omega)
            have hF0 : rF x n ai = rA x n ai + 1 := by unfold rF; exact if_pos hT
            refine fp_iconst hx hb dX4_readLot_102 ?_
            have hP : va_P D vwCl [(h, .inr (4, [.ref hc, .int (iI (if rK x n ai = 0 then rF x n ai else rE x n ai)), .int (iI (lr + rK x n ai))])), (hc, .inr (0, [.ref r])), (r, .inr (5, [.ref a])), (a, fA cyI 54 (rL x n ai c)), (ht, .inr (6, [.ref rt, .int (iI (n))])), (rt, .inr (5, [.ref xa])), (xa, fA cyI 60 x)] H := by
              rw [(show (rA x n ai + 1 : Int) = if rK x n ai = 0 then rF x n ai else rE x n ai from (by first | rw [if_pos hK0, hF0] | rw [if_neg (by omega)])).symm]
              rw [(show (c : Int → Int) = rL x n ai c from (by unfold rL; first | rw [if_pos hK0] | (rw [if_neg (by omega)]; rfl))).symm]
              rw [(show (lr : Int) = lr + rK x n ai from (by first | rw [hK0, Int.add_zero] | rw [hK1])).symm]
              exact hP
            have hret : (rK x n ai : Int) = 0 := (by first | exact hK0 | exact hK1)
            exact fp_wzret () hx hb hr hlocks (by first | exact Or.inl rfl | exact Or.inr rfl | exact bI_01 _ | omega) hS hP trivial (congrArg (fun z : Int => some (Value.int (iI z))) hret) dX4_readLot_103
          · skip
            refine lv_iload hx hb dX4_readLot_96 (lv_at hl 0 rfl) ?_
            refine lv_iload_n hx hb dX4_readLot_98 rfl (lv_at hl 4 rfl) ?_
            refine fp_icmp_le (tgt := 104) hx hb (by omega) dX4_readLot_99 (by decide) (fun q99 => ?_) (fun q99 => ?_)
            · skip
              have e3 : rV x n ai = rV x n ai := rfl
              have e7 : rA x n ai + 1 + 1 = rC x n ai := e4.symm
              refine lv_aload_n hx hb dX4_readLot_104 rfl (lv_at hl 2 rfl) ?_
              refine lv_dup hx hb dX4_readLot_105 rfl ?_
              refine va_get (D := D) (ci := 4) (ws := [(h, .inr (4, [.ref hc, .int (iI (rA x n ai + 1)), .int (iI (lr))])), (hc, .inr (0, [.ref r])), (r, .inr (5, [.ref a])), (a, fA cyI 54 c), (ht, .inr (6, [.ref rt, .int (iI (n))])), (rt, .inr (5, [.ref xa])), (xa, fA cyI 60 x)]) (v := .int (iI (rA x n ai + 1))) (C := RX4) (T := TX4) (N := 3) hx hb hts (fun _ h => List.mem_cons_of_mem _ (List.mem_append_left _ (List.mem_append_left _ (List.mem_append_left _ (List.mem_append_right _ h))))) hown hK.1 hP 0 rfl rfl 1 (by decide) (hts _ fl_X4_readLot_18) (fun _ h9 => h9) rfl dX4_readLot_106 ?_
              refine fp_iconst hx hb dX4_readLot_109 ?_
              refine fp_iadd hx hb dX4_readLot_110 ?_
              refine va_put (D := D) (ci := 4) (ws := [(h, .inr (4, [.ref hc, .int (iI (rA x n ai + 1)), .int (iI (lr))])), (hc, .inr (0, [.ref r])), (r, .inr (5, [.ref a])), (a, fA cyI 54 c), (ht, .inr (6, [.ref rt, .int (iI (n))])), (rt, .inr (5, [.ref xa])), (xa, fA cyI 60 x)]) (v := .int (iI ((rA x n ai + 1) + 1))) (ty := .int) (C := RX4) (T := TX4) (N := 3) hx hb hts (fun _ h => List.mem_cons_of_mem _ (List.mem_append_left _ (List.mem_append_left _ (List.mem_append_left _ (List.mem_append_right _ h))))) tyX4 tyX4_ok nmX4 hown hK.1 hP hD hS 0 rfl rfl 1 (by decide) (hts _ fl_X4_readLot_18) (fun _ h9 => h9) rfl (by decide +kernel) rfl rfl (Nat.le_of_ble_eq_true rfl) dX4_readLot_111 (fun H locs hP hD hS => ?_)
              have hP : va_P D vwCl [(h, .inr (4, [.ref hc, .int (iI ((rA x n ai + 1) + 1)), .int (iI (lr))])), (hc, .inr (0, [.ref r])), (r, .inr (5, [.ref a])), (a, fA cyI 54 c), (ht, .inr (6, [.ref rt, .int (iI (n))])), (rt, .inr (5, [.ref xa])), (xa, fA cyI 60 x)] H := hP
              have hD : va_D (fp_A [(h, .inr (4, [.ref hc, .int (iI (ai)), .int (iI (lr))])), (hc, .inr (0, [.ref r])), (r, .inr (5, [.ref a])), (a, fA cyI 54 c), (ht, .inr (6, [.ref rt, .int (iI (n))])), (rt, .inr (5, [.ref xa])), (xa, fA cyI 60 x)]) [(h, .inr (4, [.ref hc, .int (iI ((rA x n ai + 1) + 1)), .int (iI (lr))])), (hc, .inr (0, [.ref r])), (r, .inr (5, [.ref a])), (a, fA cyI 54 c), (ht, .inr (6, [.ref rt, .int (iI (n))])), (rt, .inr (5, [.ref xa])), (xa, fA cyI 60 x)] := hD
              exact jn2 (rV x n ai) ((rA x n ai + 1) + 1) e3 (by first | exact e4.symm | exact e6 | exact e7) (by omega) H locs hP hD hS ls (lv_sub hl [2, 3, 4, 1, 0] rfl)
            · skip
              have hK0 : rK x n ai = 0 := by unfold rK; exact bI_f (fun z => by omega)
              have hF0 : rF x n ai = rA x n ai + 1 := by unfold rF; exact if_pos hT
              refine fp_iconst hx hb dX4_readLot_102 ?_
              have hP : va_P D vwCl [(h, .inr (4, [.ref hc, .int (iI (if rK x n ai = 0 then rF x n ai else rE x n ai)), .int (iI (lr + rK x n ai))])), (hc, .inr (0, [.ref r])), (r, .inr (5, [.ref a])), (a, fA cyI 54 (rL x n ai c)), (ht, .inr (6, [.ref rt, .int (iI (n))])), (rt, .inr (5, [.ref xa])), (xa, fA cyI 60 x)] H := by
                rw [(show (rA x n ai + 1 : Int) = if rK x n ai = 0 then rF x n ai else rE x n ai from (by first | rw [if_pos hK0, hF0] | rw [if_neg (by omega)])).symm]
                rw [(show (c : Int → Int) = rL x n ai c from (by unfold rL; first | rw [if_pos hK0] | (rw [if_neg (by omega)]; rfl))).symm]
                rw [(show (lr : Int) = lr + rK x n ai from (by first | rw [hK0, Int.add_zero] | rw [hK1])).symm]
                exact hP
              have hret : (rK x n ai : Int) = 0 := (by first | exact hK0 | exact hK1)
              exact fp_wzret () hx hb hr hlocks (by first | exact Or.inl rfl | exact Or.inr rfl | exact bI_01 _ | omega) hS hP trivial (congrArg (fun z : Int => some (Value.int (iI z))) hret) dX4_readLot_103
    refine lv_aload_n hx hb dX4_readLot_31 rfl (lv_at hl 1 rfl) ?_
    refine lv_aload_n hx hb dX4_readLot_32 rfl (lv_at hl 2 rfl) ?_
    refine fp_bipush hx hb dX4_readLot_33 (by decide) ?_
    refine fp_wV (As := [.ref ht, .int (iI (98))]) (rest := []) (wsC := [(h, .inr (4, [.ref hc, .int (iI (ai + 1)), .int (iI (lr))])), (hc, .inr (0, [.ref r])), (r, .inr (5, [.ref a])), (a, fA cyI 54 c), (ht, .inr (6, [.ref rt, .int (iI (n))])), (rt, .inr (5, [.ref xa])), (xa, fA cyI 60 x)]) ⟨hx, hb, hml, hown, hts⟩ (c_X4_takes l D cyI h hc (ai + 1) lr ht rt xa x n 98 hx0 (by omega) (by omega) (by omega)) (cwV 2 hts gX4_readLot_X4_takes rfl rfl rfl (by decide +kernel) ⟨Nat.le_of_ble_eq_true rfl, Nat.le_of_ble_eq_true rfl⟩) (fun _ => rfl) hK hP hD hS [0, 4, 5, 6] (by decide) rfl rfl rfl rfl hl.1 rfl (Nat.le_of_ble_eq_true rfl) dX4_readLot_35 ⟨Nat.zero_le _, Nat.zero_le _⟩ (fun u9v H locs hu hP hD hS => ?_)
    refine W.eq (g2 := F0 mi 38 ls [.int (iI (bI (chI x n (ai + 1) = 98)))]) rfl ?_
    have hP : va_P D vwCl [(h, .inr (4, [.ref hc, .int (iI ((ai + 1) + bI (chI x n (ai + 1) = 98))), .int (iI (lr))])), (hc, .inr (0, [.ref r])), (r, .inr (5, [.ref a])), (a, fA cyI 54 c), (ht, .inr (6, [.ref rt, .int (iI (n))])), (rt, .inr (5, [.ref xa])), (xa, fA cyI 60 x)] H := hP
    have hD : va_D (fp_A [(h, .inr (4, [.ref hc, .int (iI (ai)), .int (iI (lr))])), (hc, .inr (0, [.ref r])), (r, .inr (5, [.ref a])), (a, fA cyI 54 c), (ht, .inr (6, [.ref rt, .int (iI (n))])), (rt, .inr (5, [.ref xa])), (xa, fA cyI 60 x)]) [(h, .inr (4, [.ref hc, .int (iI ((ai + 1) + bI (chI x n (ai + 1) = 98))), .int (iI (lr))])), (hc, .inr (0, [.ref r])), (r, .inr (5, [.ref a])), (a, fA cyI 54 c), (ht, .inr (6, [.ref rt, .int (iI (n))])), (rt, .inr (5, [.ref xa])), (xa, fA cyI 60 x)] := hD
    refine fp_if_eq (tgt := 45) hx hb (bI_r32 _) dX4_readLot_38 (by decide) (fun q38 => ?_) (fun q38 => ?_)
    · skip
      have w38 := bI_e q38
      have n98 : ¬ chI x n (ai + 1) = 98 := bI_e q38
      rw [show ((ai + 1) + bI (chI x n (ai + 1) = 98) : Int) = ai + 1 from (by rw [bI_f n98, Int.add_zero])] at hP hD
      refine lv_aload_n hx hb dX4_readLot_45 rfl (lv_at hl 1 rfl) ?_
      refine lv_aload_n hx hb dX4_readLot_46 rfl (lv_at hl 2 rfl) ?_
      refine fp_bipush hx hb dX4_readLot_47 (by decide) ?_
      refine fp_wV (As := [.ref ht, .int (iI (99))]) (rest := []) (wsC := [(h, .inr (4, [.ref hc, .int (iI (ai + 1)), .int (iI (lr))])), (hc, .inr (0, [.ref r])), (r, .inr (5, [.ref a])), (a, fA cyI 54 c), (ht, .inr (6, [.ref rt, .int (iI (n))])), (rt, .inr (5, [.ref xa])), (xa, fA cyI 60 x)]) ⟨hx, hb, hml, hown, hts⟩ (c_X4_takes l D cyI h hc (ai + 1) lr ht rt xa x n 99 hx0 (by omega) (by omega) (by omega)) (cwV 2 hts gX4_readLot_X4_takes rfl rfl rfl (by decide +kernel) ⟨Nat.le_of_ble_eq_true rfl, Nat.le_of_ble_eq_true rfl⟩) (fun _ => rfl) hK hP hD hS [0, 4, 5, 6] (by decide) rfl rfl rfl rfl hl.1 rfl (Nat.le_of_ble_eq_true rfl) dX4_readLot_49 ⟨Nat.zero_le _, Nat.zero_le _⟩ (fun u9v H locs hu hP hD hS => ?_)
      refine W.eq (g2 := F0 mi 52 ls [.int (iI (bI (chI x n (ai + 1) = 99)))]) rfl ?_
      have hP : va_P D vwCl [(h, .inr (4, [.ref hc, .int (iI ((ai + 1) + bI (chI x n (ai + 1) = 99))), .int (iI (lr))])), (hc, .inr (0, [.ref r])), (r, .inr (5, [.ref a])), (a, fA cyI 54 c), (ht, .inr (6, [.ref rt, .int (iI (n))])), (rt, .inr (5, [.ref xa])), (xa, fA cyI 60 x)] H := hP
      have hD : va_D (fp_A [(h, .inr (4, [.ref hc, .int (iI (ai)), .int (iI (lr))])), (hc, .inr (0, [.ref r])), (r, .inr (5, [.ref a])), (a, fA cyI 54 c), (ht, .inr (6, [.ref rt, .int (iI (n))])), (rt, .inr (5, [.ref xa])), (xa, fA cyI 60 x)]) [(h, .inr (4, [.ref hc, .int (iI ((ai + 1) + bI (chI x n (ai + 1) = 99))), .int (iI (lr))])), (hc, .inr (0, [.ref r])), (r, .inr (5, [.ref a])), (a, fA cyI 54 c), (ht, .inr (6, [.ref rt, .int (iI (n))])), (rt, .inr (5, [.ref xa])), (xa, fA cyI 60 x)] := hD
      refine fp_if_eq (tgt := 59) hx hb (bI_r32 _) dX4_readLot_52 (by decide) (fun q52 => ?_) (fun q52 => ?_)
      · skip
        have w52 := bI_e q52
        have n99 : ¬ chI x n (ai + 1) = 99 := bI_e q52
        have e1 : (0 : Int) = rP x n ai := by unfold rP; rw [if_neg n98, if_neg n99]
        have e2 : rA x n ai = ai + 1 := by unfold rA; rw [if_pos (by omega)]
        rw [show ((ai + 1) + bI (chI x n (ai + 1) = 99) : Int) = rA x n ai from (by rw [bI_f n99, e2, Int.add_zero])] at hP hD
        refine fp_iconst hx hb dX4_readLot_59 ?_
        exact jn1 0 (rA x n ai) e1 rfl H locs hP hD hS ls (lv_sub hl [1, 2, 0] rfl)
      · skip
        have w52 := bI_ne q52
        have c99 : chI x n (ai + 1) = 99 := bI_ne q52
        have e1 : (2 : Int) = rP x n ai := by unfold rP; rw [if_neg n98, if_pos c99]
        have e2 : rA x n ai = ai + 1 + 1 := by unfold rA; rw [if_neg (by omega)]
        rw [show ((ai + 1) + bI (chI x n (ai + 1) = 99) : Int) = rA x n ai from (by rw [bI_t c99, e2])] at hP hD
        refine fp_iconst hx hb dX4_readLot_55 ?_
        refine lv_goto (tgt := 60) hx hb dX4_readLot_56 (by decide) ?_
        exact jn1 2 (rA x n ai) e1 rfl H locs hP hD hS ls (lv_sub hl [1, 2, 0] rfl)
    · skip
      have w38 := bI_ne q38
      have c98 : chI x n (ai + 1) = 98 := bI_ne q38
      have e1 : (1 : Int) = rP x n ai := by unfold rP; rw [if_pos c98]
      have e2 : rA x n ai = ai + 1 + 1 := by unfold rA; rw [if_neg (by omega)]
      rw [show ((ai + 1) + bI (chI x n (ai + 1) = 98) : Int) = rA x n ai from (by rw [bI_t c98, e2])] at hP hD
      refine fp_iconst hx hb dX4_readLot_41 ?_
      refine lv_goto (tgt := 60) hx hb dX4_readLot_42 (by decide) ?_
      exact jn1 1 (rA x n ai) e1 rfl H locs hP hD hS ls (lv_sub hl [1, 2, 0] rfl)
  · skip
    have w16 := bI_e q16
    have n16 := bI_e q16
    have hK0 : rK x n ai = 0 := by unfold rK; exact bI_f (fun z => n16 z.1)
    have hF0 : rF x n ai = ai := by unfold rF; exact if_neg n16
    refine fp_iconst hx hb dX4_readLot_19 ?_
    have hP : va_P D vwCl [(h, .inr (4, [.ref hc, .int (iI (if rK x n ai = 0 then rF x n ai else rE x n ai)), .int (iI (lr + rK x n ai))])), (hc, .inr (0, [.ref r])), (r, .inr (5, [.ref a])), (a, fA cyI 54 (rL x n ai c)), (ht, .inr (6, [.ref rt, .int (iI (n))])), (rt, .inr (5, [.ref xa])), (xa, fA cyI 60 x)] sx.heap := by
      rw [(show (ai : Int) = if rK x n ai = 0 then rF x n ai else rE x n ai from (by first | rw [if_pos hK0, hF0] | rw [if_neg (by omega)])).symm]
      rw [(show (c : Int → Int) = rL x n ai c from (by unfold rL; first | rw [if_pos hK0] | (rw [if_neg (by omega)]; rfl))).symm]
      rw [(show (lr : Int) = lr + rK x n ai from (by first | rw [hK0, Int.add_zero] | rw [hK1])).symm]
      exact hP
    have hret : (rK x n ai : Int) = 0 := (by first | exact hK0 | exact hK1)
    exact fp_wzret () hx hb hr hlocks (by first | exact Or.inl rfl | exact Or.inr rfl | exact bI_01 _ | omega) hS hP trivial (congrArg (fun z : Int => some (Value.int (iI z))) hret) dX4_readLot_20
theorem fl_X4_faultOf_12 : Cond.fieldLink RX4 12 "FacingPlates$Reader" "read" "LFacingPlates$Catalogue;" ∈ wsX4_faultOf := by decide +kernel
theorem fl_X4_faultOf_22 : Cond.fieldLink RX4 22 "FacingPlates$Reader" "lotsRead" "I" ∈ wsX4_faultOf := by decide +kernel
theorem fl_X4_faultOf_18 : Cond.fieldLink RX4 18 "FacingPlates$Reader" "at" "I" ∈ wsX4_faultOf := by decide +kernel
set_option maxHeartbeats 4000000 in
set_option maxRecDepth 100000 in
theorem c_X4_faultOf (l : Launch) (D : va_G) (cyI : ClassId) (h : Nat) (hc : Nat) (ai : Int) (lr : Int) (r : Nat) (a : Nat) (c : Int → Int) (ht : Nat) (rt : Nat) (xa : Nat) (x : Int → Int) (n : Int) (hx0 : TextOK x) (hn60 : 0 ≤ n ∧ n ≤ 60) : fp_MW l yX4_faultOf wsX4_faultOf ({ frames := 5, cells := 0, slots := 0, locals := 120 } : Room) D cyI [(h, .inr (4, [.ref hc, .int (iI (ai)), .int (iI (lr))])), (hc, .inr (0, [.ref r])), (r, .inr (5, [.ref a])), (a, fA cyI 54 c), (ht, .inr (6, [.ref rt, .int (iI (n))])), (rt, .inr (5, [.ref xa])), (xa, fA cyI 60 x)] [.ref h, .ref ht] (fun (u9 : (Int)) => True) (fun (u9 : (Int)) => some (.int (iI (flF x n 61 0)))) (fun (u9 : (Int)) => [(h, .inr (4, [.ref hc, .int (iI (u9)), .int (iI (flK x n 61 0 0))])), (hc, .inr (0, [.ref r])), (r, .inr (5, [.ref a])), (a, fA cyI 54 (flC x n 61 0 (upI c 0 0))), (ht, .inr (6, [.ref rt, .int (iI (n))])), (rt, .inr (5, [.ref xa])), (xa, fA cyI 60 x)]) := by
  refine fp_start (cc := cX4_faultOf) (maxL := 3) (ret := (some .int)) (by decide) rfl (Nat.le_of_ble_eq_true rfl) ?_
  intro pg en sx mi ar bl mt cd ls hx hb hr hts hown hlocks hml hnm hP hK hD hl
  have hown : sx.vm.findClass RX4 = some mi.cls := hown
  have hl : lv_has ls 3 [(0, .ref h), (1, .ref ht)] := hl
  have hD := fp_self hD
  have hS : va_S (fp_A [(h, .inr (4, [.ref hc, .int (iI (ai)), .int (iI (lr))])), (hc, .inr (0, [.ref r])), (r, .inr (5, [.ref a])), (a, fA cyI 54 c), (ht, .inr (6, [.ref rt, .int (iI (n))])), (rt, .inr (5, [.ref xa])), (xa, fA cyI 60 x)]) sx.heap sx.heap [] := va_S.rf
  refine lv_aload_n hx hb dX4_faultOf_0 rfl (lv_at hl 0 rfl) ?_
  refine va_get (D := D) (ci := 4) (ws := [(h, .inr (4, [.ref hc, .int (iI (ai)), .int (iI (lr))])), (hc, .inr (0, [.ref r])), (r, .inr (5, [.ref a])), (a, fA cyI 54 c), (ht, .inr (6, [.ref rt, .int (iI (n))])), (rt, .inr (5, [.ref xa])), (xa, fA cyI 60 x)]) (v := .ref hc) (C := RX4) (T := TX4) (N := 3) hx hb hts (fun _ h => List.mem_cons_of_mem _ (List.mem_append_left _ (List.mem_append_left _ (List.mem_append_left _ (List.mem_append_right _ h))))) hown hK.1 hP 0 rfl rfl 0 (by decide) (hts _ fl_X4_faultOf_12) (fun _ h9 => h9) rfl dX4_faultOf_1 ?_
  refine fp_wV (As := []) (rest := []) (wsC := [(h, .inr (4, [.ref hc, .int (iI (ai)), .int (iI (lr))])), (hc, .inr (0, [.ref r])), (r, .inr (5, [.ref a])), (a, fA cyI 54 c), (ht, .inr (6, [.ref rt, .int (iI (n))])), (rt, .inr (5, [.ref xa])), (xa, fA cyI 60 x)]) ⟨hx, hb, hml, hown, hts⟩ (c_X0_empty l D cyI hc r a c) (cwV 0 hts gX4_faultOf_X0_empty rfl rfl rfl (by decide +kernel) ⟨Nat.le_of_ble_eq_true rfl, Nat.le_of_ble_eq_true rfl⟩) (fun _ => rfl) hK hP hD hS [1, 2, 3] (by decide) rfl rfl rfl rfl hl.1 rfl (Nat.le_of_ble_eq_true rfl) dX4_faultOf_4 ⟨Nat.zero_le _, Nat.zero_le _⟩ (fun u9v H locs hu hP hD hS => ?_)
  refine W.eq (g2 := F0 mi 7 ls []) rfl ?_
  have hP : va_P D vwCl [(h, .inr (4, [.ref hc, .int (iI (ai)), .int (iI (lr))])), (hc, .inr (0, [.ref r])), (r, .inr (5, [.ref a])), (a, fA cyI 54 (upI c 0 0)), (ht, .inr (6, [.ref rt, .int (iI (n))])), (rt, .inr (5, [.ref xa])), (xa, fA cyI 60 x)] H := hP
  have hD : va_D (fp_A [(h, .inr (4, [.ref hc, .int (iI (ai)), .int (iI (lr))])), (hc, .inr (0, [.ref r])), (r, .inr (5, [.ref a])), (a, fA cyI 54 c), (ht, .inr (6, [.ref rt, .int (iI (n))])), (rt, .inr (5, [.ref xa])), (xa, fA cyI 60 x)]) [(h, .inr (4, [.ref hc, .int (iI (ai)), .int (iI (lr))])), (hc, .inr (0, [.ref r])), (r, .inr (5, [.ref a])), (a, fA cyI 54 (upI c 0 0)), (ht, .inr (6, [.ref rt, .int (iI (n))])), (rt, .inr (5, [.ref xa])), (xa, fA cyI 60 x)] := hD
  refine lv_aload_n hx hb dX4_faultOf_7 rfl (lv_at hl 0 rfl) ?_
  refine fp_iconst hx hb dX4_faultOf_8 ?_
  refine va_put (D := D) (ci := 4) (ws := [(h, .inr (4, [.ref hc, .int (iI (ai)), .int (iI (lr))])), (hc, .inr (0, [.ref r])), (r, .inr (5, [.ref a])), (a, fA cyI 54 (upI c 0 0)), (ht, .inr (6, [.ref rt, .int (iI (n))])), (rt, .inr (5, [.ref xa])), (xa, fA cyI 60 x)]) (v := .int (iI (0))) (ty := .int) (C := RX4) (T := TX4) (N := 3) hx hb hts (fun _ h => List.mem_cons_of_mem _ (List.mem_append_left _ (List.mem_append_left _ (List.mem_append_left _ (List.mem_append_right _ h))))) tyX4 tyX4_ok nmX4 hown hK.1 hP hD hS 0 rfl rfl 2 (by decide) (hts _ fl_X4_faultOf_22) (fun _ h9 => h9) rfl (by decide +kernel) rfl rfl (Nat.le_of_ble_eq_true rfl) dX4_faultOf_9 (fun H locs hP hD hS => ?_)
  have hP : va_P D vwCl [(h, .inr (4, [.ref hc, .int (iI (ai)), .int (iI (0))])), (hc, .inr (0, [.ref r])), (r, .inr (5, [.ref a])), (a, fA cyI 54 (upI c 0 0)), (ht, .inr (6, [.ref rt, .int (iI (n))])), (rt, .inr (5, [.ref xa])), (xa, fA cyI 60 x)] H := hP
  have hD : va_D (fp_A [(h, .inr (4, [.ref hc, .int (iI (ai)), .int (iI (lr))])), (hc, .inr (0, [.ref r])), (r, .inr (5, [.ref a])), (a, fA cyI 54 c), (ht, .inr (6, [.ref rt, .int (iI (n))])), (rt, .inr (5, [.ref xa])), (xa, fA cyI 60 x)]) [(h, .inr (4, [.ref hc, .int (iI (ai)), .int (iI (0))])), (hc, .inr (0, [.ref r])), (r, .inr (5, [.ref a])), (a, fA cyI 54 (upI c 0 0)), (ht, .inr (6, [.ref rt, .int (iI (n))])), (rt, .inr (5, [.ref xa])), (xa, fA cyI 60 x)] := hD
  refine lv_aload_n hx hb dX4_faultOf_12 rfl (lv_at hl 0 rfl) ?_
  refine fp_iconst hx hb dX4_faultOf_13 ?_
  refine va_put (D := D) (ci := 4) (ws := [(h, .inr (4, [.ref hc, .int (iI (ai)), .int (iI (0))])), (hc, .inr (0, [.ref r])), (r, .inr (5, [.ref a])), (a, fA cyI 54 (upI c 0 0)), (ht, .inr (6, [.ref rt, .int (iI (n))])), (rt, .inr (5, [.ref xa])), (xa, fA cyI 60 x)]) (v := .int (iI (0))) (ty := .int) (C := RX4) (T := TX4) (N := 3) hx hb hts (fun _ h => List.mem_cons_of_mem _ (List.mem_append_left _ (List.mem_append_left _ (List.mem_append_left _ (List.mem_append_right _ h))))) tyX4 tyX4_ok nmX4 hown hK.1 hP hD hS 0 rfl rfl 1 (by decide) (hts _ fl_X4_faultOf_18) (fun _ h9 => h9) rfl (by decide +kernel) rfl rfl (Nat.le_of_ble_eq_true rfl) dX4_faultOf_14 (fun H locs hP hD hS => ?_)
  have hP : va_P D vwCl [(h, .inr (4, [.ref hc, .int (iI (0)), .int (iI (0))])), (hc, .inr (0, [.ref r])), (r, .inr (5, [.ref a])), (a, fA cyI 54 (upI c 0 0)), (ht, .inr (6, [.ref rt, .int (iI (n))])), (rt, .inr (5, [.ref xa])), (xa, fA cyI 60 x)] H := hP
  have hD : va_D (fp_A [(h, .inr (4, [.ref hc, .int (iI (ai)), .int (iI (lr))])), (hc, .inr (0, [.ref r])), (r, .inr (5, [.ref a])), (a, fA cyI 54 c), (ht, .inr (6, [.ref rt, .int (iI (n))])), (rt, .inr (5, [.ref xa])), (xa, fA cyI 60 x)]) [(h, .inr (4, [.ref hc, .int (iI (0)), .int (iI (0))])), (hc, .inr (0, [.ref r])), (r, .inr (5, [.ref a])), (a, fA cyI 54 (upI c 0 0)), (ht, .inr (6, [.ref rt, .int (iI (n))])), (rt, .inr (5, [.ref xa])), (xa, fA cyI 60 x)] := hD
  refine fp_iconst hx hb dX4_faultOf_17 ?_
  refine lv_istore_n (lv' := [(2, .int (iI (0))), (0, .ref h), (1, .ref ht)]) hx hb dX4_faultOf_18 rfl hl (by decide) rfl (fun ls hl => ?_)
  have hl := lv_sub hl (l' := [(0, .ref h), (1, .ref ht), (2, .int (iI (0)))]) [1, 2, 0] rfl
  have lp0 : ∀ (nf : Nat) (m : Int) (f : Int → Int) (av : Int) (kv : Int), (0 ≤ m ∧ m ≤ 61) → (0 ≤ av ∧ av ≤ n) → (0 ≤ f 0 ∧ f 0 ≤ 12) → (flF x n 61 0 = flF x n (61 - m).toNat av) → (flK x n 61 0 0 = flK x n (61 - m).toNat av kv) → (flC x n 61 0 (upI c 0 0) = flC x n (61 - m).toNat av f) → (61 + 1 ≤ m + (nf : Int)) → ∀ (H : Heap) (locs : List Loc), va_P D vwCl [(h, .inr (4, [.ref hc, .int (iI (av)), .int (iI (kv))])), (hc, .inr (0, [.ref r])), (r, .inr (5, [.ref a])), (a, fA cyI 54 f), (ht, .inr (6, [.ref rt, .int (iI (n))])), (rt, .inr (5, [.ref xa])), (xa, fA cyI 60 x)] H → va_D (fp_A [(h, .inr (4, [.ref hc, .int (iI (ai)), .int (iI (lr))])), (hc, .inr (0, [.ref r])), (r, .inr (5, [.ref a])), (a, fA cyI 54 c), (ht, .inr (6, [.ref rt, .int (iI (n))])), (rt, .inr (5, [.ref xa])), (xa, fA cyI 60 x)]) [(h, .inr (4, [.ref hc, .int (iI (av)), .int (iI (kv))])), (hc, .inr (0, [.ref r])), (r, .inr (5, [.ref a])), (a, fA cyI 54 f), (ht, .inr (6, [.ref rt, .int (iI (n))])), (rt, .inr (5, [.ref xa])), (xa, fA cyI 60 x)] → va_S (fp_A [(h, .inr (4, [.ref hc, .int (iI (ai)), .int (iI (lr))])), (hc, .inr (0, [.ref r])), (r, .inr (5, [.ref a])), (a, fA cyI 54 c), (ht, .inr (6, [.ref rt, .int (iI (n))])), (rt, .inr (5, [.ref xa])), (xa, fA cyI 60 x)]) sx.heap H locs → ∀ (ls : Array Slot), lv_has ls 3 [(0, .ref h), (1, .ref ht), (2, .int (iI (m)))] → W pg l en ({ frames := 5, cells := 0, slots := 0, locals := 120 } : Room) sx mi ar bl mt cd H locs 0 0 (MQ bl (fp_Qw D [(h, .inr (4, [.ref hc, .int (iI (ai)), .int (iI (lr))])), (hc, .inr (0, [.ref r])), (r, .inr (5, [.ref a])), (a, fA cyI 54 c), (ht, .inr (6, [.ref rt, .int (iI (n))])), (rt, .inr (5, [.ref xa])), (xa, fA cyI 60 x)] (fun (u9 : (Int)) => True) (fun (u9 : (Int)) => some (.int (iI (flF x n 61 0)))) (fun (u9 : (Int)) => [(h, .inr (4, [.ref hc, .int (iI (u9)), .int (iI (flK x n 61 0 0))])), (hc, .inr (0, [.ref r])), (r, .inr (5, [.ref a])), (a, fA cyI 54 (flC x n 61 0 (upI c 0 0))), (ht, .inr (6, [.ref rt, .int (iI (n))])), (rt, .inr (5, [.ref xa])), (xa, fA cyI 60 x)])) ar sx 0 0 (fp_A [(h, .inr (4, [.ref hc, .int (iI (ai)), .int (iI (lr))])), (hc, .inr (0, [.ref r])), (r, .inr (5, [.ref a])), (a, fA cyI 54 c), (ht, .inr (6, [.ref rt, .int (iI (n))])), (rt, .inr (5, [.ref xa])), (xa, fA cyI 60 x)])) (F0 mi 19 ls []) := by
    intro nf
    induction nf with
    | zero =>
      intro m f av kv im ia ic jF jK jC hfuel
      exact absurd hfuel (by omega)
    | succ nf ih0 =>
      intro m f av kv im ia ic jF jK jC hfuel H locs hP hD hS ls hl
      refine lv_iload_n hx hb dX4_faultOf_19 rfl (lv_at hl 2 rfl) ?_
      refine fp_bipush hx hb dX4_faultOf_20 (by decide) ?_
      refine fp_icmp_gt (tgt := 72) hx hb (by omega) dX4_faultOf_22 (by decide) (fun q22 => ?_) (fun q22 => ?_)
      · skip
        refine lv_aload_n hx hb dX4_faultOf_72 rfl (lv_at hl 0 rfl) ?_
        refine va_get (D := D) (ci := 4) (ws := [(h, .inr (4, [.ref hc, .int (iI (av)), .int (iI (kv))])), (hc, .inr (0, [.ref r])), (r, .inr (5, [.ref a])), (a, fA cyI 54 f), (ht, .inr (6, [.ref rt, .int (iI (n))])), (rt, .inr (5, [.ref xa])), (xa, fA cyI 60 x)]) (v := .int (iI (av))) (C := RX4) (T := TX4) (N := 3) hx hb hts (fun _ h => List.mem_cons_of_mem _ (List.mem_append_left _ (List.mem_append_left _ (List.mem_append_left _ (List.mem_append_right _ h))))) hown hK.1 hP 0 rfl rfl 1 (by decide) (hts _ fl_X4_faultOf_18) (fun _ h9 => h9) rfl dX4_faultOf_73 ?_
        have hP : va_P D vwCl [(h, .inr (4, [.ref hc, .int (iI (av)), .int (iI (flK x n 61 0 0))])), (hc, .inr (0, [.ref r])), (r, .inr (5, [.ref a])), (a, fA cyI 54 (flC x n 61 0 (upI c 0 0))), (ht, .inr (6, [.ref rt, .int (iI (n))])), (rt, .inr (5, [.ref xa])), (xa, fA cyI 60 x)] H := by
          rw [(show (f : Int → Int) = flC x n 61 0 (upI c 0 0) from (by rw [jC, show (61 - m).toNat = 0 by omega]; rfl)).symm]
          rw [(show (kv : Int) = flK x n 61 0 0 from (by rw [jK, show (61 - m).toNat = 0 by omega]; rfl)).symm]
          exact hP
        have hret : (flF x n 61 0 : Int) = av := (by rw [jF, show (61 - m).toNat = 0 by omega]; rfl)
        exact fp_wret (av) hx hb hr hlocks hS hP trivial (congrArg (fun z : Int => some (Value.int (iI z))) hret) dX4_faultOf_76
      · skip
        have e1 : (61 - m).toNat = (60 - m).toNat + 1 := by omega
        rw [e1] at jF jK jC
        have jF : flF x n 61 0 = if rK x n av = 0 then rF x n av else if rE x n av = n then -1 else if chI x n (rE x n av) = 44 then flF x n (60 - m).toNat (rE x n av + 1) else rE x n av := jF
        have jK : flK x n 61 0 0 = if rK x n av = 0 then kv else if rE x n av = n then kv + 1 else if chI x n (rE x n av) = 44 then flK x n (60 - m).toNat (rE x n av + 1) (kv + 1) else kv + 1 := jK
        have jC : flC x n 61 0 (upI c 0 0) = if rK x n av = 0 then f else if rE x n av = n then rL x n av f else if chI x n (rE x n av) = 44 then flC x n (60 - m).toNat (rE x n av + 1) (rL x n av f) else rL x n av f := jC
        refine lv_aload_n hx hb dX4_faultOf_25 rfl (lv_at hl 0 rfl) ?_
        refine lv_aload_n hx hb dX4_faultOf_26 rfl (lv_at hl 1 rfl) ?_
        refine fp_wV (As := [.ref ht]) (rest := []) (wsC := [(h, .inr (4, [.ref hc, .int (iI (av)), .int (iI (kv))])), (hc, .inr (0, [.ref r])), (r, .inr (5, [.ref a])), (a, fA cyI 54 f), (ht, .inr (6, [.ref rt, .int (iI (n))])), (rt, .inr (5, [.ref xa])), (xa, fA cyI 60 x)]) ⟨hx, hb, hml, hown, hts⟩ (c_X4_readLot l D cyI h hc av kv r a f ht rt xa x n hx0 (by omega) (by omega) ic) (cwV 1 hts gX4_faultOf_X4_readLot rfl rfl rfl (by decide +kernel) ⟨Nat.le_of_ble_eq_true rfl, Nat.le_of_ble_eq_true rfl⟩) (fun _ => rfl) hK hP hD hS [0, 1, 2, 3, 4, 5, 6] (by decide) rfl rfl rfl rfl hl.1 rfl (Nat.le_of_ble_eq_true rfl) dX4_faultOf_27 ⟨Nat.zero_le _, Nat.zero_le _⟩ (fun u9v H locs hu hP hD hS => ?_)
        refine W.eq (g2 := F0 mi 30 ls [.int (iI (rK x n av))]) rfl ?_
        have hP : va_P D vwCl [(h, .inr (4, [.ref hc, .int (iI (if rK x n av = 0 then rF x n av else rE x n av)), .int (iI (kv + rK x n av))])), (hc, .inr (0, [.ref r])), (r, .inr (5, [.ref a])), (a, fA cyI 54 (rL x n av f)), (ht, .inr (6, [.ref rt, .int (iI (n))])), (rt, .inr (5, [.ref xa])), (xa, fA cyI 60 x)] H := hP
        have hD : va_D (fp_A [(h, .inr (4, [.ref hc, .int (iI (ai)), .int (iI (lr))])), (hc, .inr (0, [.ref r])), (r, .inr (5, [.ref a])), (a, fA cyI 54 c), (ht, .inr (6, [.ref rt, .int (iI (n))])), (rt, .inr (5, [.ref xa])), (xa, fA cyI 60 x)]) [(h, .inr (4, [.ref hc, .int (iI (if rK x n av = 0 then rF x n av else rE x n av)), .int (iI (kv + rK x n av))])), (hc, .inr (0, [.ref r])), (r, .inr (5, [.ref a])), (a, fA cyI 54 (rL x n av f)), (ht, .inr (6, [.ref rt, .int (iI (n))])), (rt, .inr (5, [.ref xa])), (xa, fA cyI 60 x)] := hD
        refine fp_if_ne (tgt := 38) hx hb (bI_r32 _) dX4_faultOf_30 (by decide) (fun q30 => ?_) (fun q30 => ?_)
        · skip
          have h01 : rK x n av = 0 ∨ rK x n av = 1 := bI_01 _
          have hK1 : rK x n av = 1 := by omega
          have hE1 := rE_rg x n av
          have hE2 := rE_le hK1
          rw [show (if rK x n av = 0 then rF x n av else rE x n av : Int) = rE x n av from (if_neg q30)] at hP hD
          rw [show (kv + rK x n av : Int) = kv + 1 from (by rw [hK1])] at hP hD
          refine lv_aload_n hx hb dX4_faultOf_38 rfl (lv_at hl 0 rfl) ?_
          refine va_get (D := D) (ci := 4) (ws := [(h, .inr (4, [.ref hc, .int (iI (rE x n av)), .int (iI (kv + 1))])), (hc, .inr (0, [.ref r])), (r, .inr (5, [.ref a])), (a, fA cyI 54 (rL x n av f)), (ht, .inr (6, [.ref rt, .int (iI (n))])), (rt, .inr (5, [.ref xa])), (xa, fA cyI 60 x)]) (v := .int (iI (rE x n av))) (C := RX4) (T := TX4) (N := 3) hx hb hts (fun _ h => List.mem_cons_of_mem _ (List.mem_append_left _ (List.mem_append_left _ (List.mem_append_left _ (List.mem_append_right _ h))))) hown hK.1 hP 0 rfl rfl 1 (by decide) (hts _ fl_X4_faultOf_18) (fun _ h9 => h9) rfl dX4_faultOf_39 ?_
          refine lv_aload_n hx hb dX4_faultOf_42 rfl (lv_at hl 1 rfl) ?_
          refine fp_pV (As := []) (rest := [.int (iI (rE x n av))]) (wsC := [(h, .inr (4, [.ref hc, .int (iI (rE x n av)), .int (iI (kv + 1))])), (hc, .inr (0, [.ref r])), (r, .inr (5, [.ref a])), (a, fA cyI 54 (rL x n av f)), (ht, .inr (6, [.ref rt, .int (iI (n))])), (rt, .inr (5, [.ref xa])), (xa, fA cyI 60 x)]) ⟨hx, hb, hml, hown, hts⟩ (c_X6_length l D cyI ht rt n) (cwV 0 hts gX4_faultOf_X6_length rfl rfl rfl (by decide +kernel) ⟨Nat.le_of_ble_eq_true rfl, Nat.le_of_ble_eq_true rfl⟩) hK hP hD [4] (by decide) rfl rfl rfl rfl hl.1 rfl (Nat.le_of_ble_eq_true rfl) dX4_faultOf_43 ⟨Nat.zero_le _, Nat.zero_le _⟩ ?_
          refine fp_icmp_ne (tgt := 51) hx hb (by omega) dX4_faultOf_46 (by decide) (fun q46 => ?_) (fun q46 => ?_)
          · skip
            refine lv_aload_n hx hb dX4_faultOf_51 rfl (lv_at hl 0 rfl) ?_
            refine lv_aload_n hx hb dX4_faultOf_52 rfl (lv_at hl 1 rfl) ?_
            refine fp_bipush hx hb dX4_faultOf_53 (by decide) ?_
            refine fp_wV (As := [.ref ht, .int (iI (44))]) (rest := []) (wsC := [(h, .inr (4, [.ref hc, .int (iI (rE x n av)), .int (iI (kv + 1))])), (hc, .inr (0, [.ref r])), (r, .inr (5, [.ref a])), (a, fA cyI 54 (rL x n av f)), (ht, .inr (6, [.ref rt, .int (iI (n))])), (rt, .inr (5, [.ref xa])), (xa, fA cyI 60 x)]) ⟨hx, hb, hml, hown, hts⟩ (c_X4_takes l D cyI h hc (rE x n av) (kv + 1) ht rt xa x n 44 hx0 (by omega) (by omega) (by omega)) (cwV 2 hts gX4_faultOf_X4_takes rfl rfl rfl (by decide +kernel) ⟨Nat.le_of_ble_eq_true rfl, Nat.le_of_ble_eq_true rfl⟩) (fun _ => rfl) hK hP hD hS [0, 4, 5, 6] (by decide) rfl rfl rfl rfl hl.1 rfl (Nat.le_of_ble_eq_true rfl) dX4_faultOf_55 ⟨Nat.zero_le _, Nat.zero_le _⟩ (fun u9v H locs hu hP hD hS => ?_)
            refine W.eq (g2 := F0 mi 58 ls [.int (iI (bI (chI x n (rE x n av) = 44)))]) rfl ?_
            have hP : va_P D vwCl [(h, .inr (4, [.ref hc, .int (iI ((rE x n av) + bI (chI x n (rE x n av) = 44))), .int (iI ((kv + 1)))])), (hc, .inr (0, [.ref r])), (r, .inr (5, [.ref a])), (a, fA cyI 54 (rL x n av f)), (ht, .inr (6, [.ref rt, .int (iI (n))])), (rt, .inr (5, [.ref xa])), (xa, fA cyI 60 x)] H := hP
            have hD : va_D (fp_A [(h, .inr (4, [.ref hc, .int (iI (ai)), .int (iI (lr))])), (hc, .inr (0, [.ref r])), (r, .inr (5, [.ref a])), (a, fA cyI 54 c), (ht, .inr (6, [.ref rt, .int (iI (n))])), (rt, .inr (5, [.ref xa])), (xa, fA cyI 60 x)]) [(h, .inr (4, [.ref hc, .int (iI ((rE x n av) + bI (chI x n (rE x n av) = 44))), .int (iI ((kv + 1)))])), (hc, .inr (0, [.ref r])), (r, .inr (5, [.ref a])), (a, fA cyI 54 (rL x n av f)), (ht, .inr (6, [.ref rt, .int (iI (n))])), (rt, .inr (5, [.ref xa])), (xa, fA cyI 60 x)] := hD
            refine fp_if_ne (tgt := 66) hx hb (bI_r32 _) dX4_faultOf_58 (by decide) (fun q58 => ?_) (fun q58 => ?_)
            · skip
              have w58 := bI_ne q58
              have c44 := bI_ne q58
              have hlt := chI_lt c44 (by omega)
              rw [show ((rE x n av) + bI (chI x n (rE x n av) = 44) : Int) = rE x n av + 1 from (by rw [bI_t c44])] at hP hD
              refine fp_iinc (k := 2) (lv' := [(2, .int (iI (m + 1))), (0, .ref h), (1, .ref ht)]) hx hb dX4_faultOf_66 hl rfl (by decide) rfl (fun ls hl => ?_)
              refine lv_goto (tgt := 19) hx hb dX4_faultOf_69 (by decide) ?_
              exact ih0 (m + 1) (rL x n av f) (rE x n av + 1) ((kv + 1)) (by omega) (by omega) (rL_lots ic) (by rw [show (61 - (m + 1)) = 60 - m by omega, jF, if_neg q30, if_neg q46, if_pos c44]) (by rw [show (61 - (m + 1)) = 60 - m by omega, jK, if_neg q30, if_neg q46, if_pos c44]) (by rw [show (61 - (m + 1)) = 60 - m by omega, jC, if_neg q30, if_neg q46, if_pos c44]) (by omega) H locs hP hD hS ls (lv_sub hl [1, 2, 0] rfl)
            · skip
              have w58 := bI_e q58
              have n44 := bI_e q58
              rw [show ((rE x n av) + bI (chI x n (rE x n av) = 44) : Int) = rE x n av from (by rw [bI_f n44, Int.add_zero])] at hP hD
              refine lv_aload_n hx hb dX4_faultOf_61 rfl (lv_at hl 0 rfl) ?_
              refine va_get (D := D) (ci := 4) (ws := [(h, .inr (4, [.ref hc, .int (iI (rE x n av)), .int (iI ((kv + 1)))])), (hc, .inr (0, [.ref r])), (r, .inr (5, [.ref a])), (a, fA cyI 54 (rL x n av f)), (ht, .inr (6, [.ref rt, .int (iI (n))])), (rt, .inr (5, [.ref xa])), (xa, fA cyI 60 x)]) (v := .int (iI (rE x n av))) (C := RX4) (T := TX4) (N := 3) hx hb hts (fun _ h => List.mem_cons_of_mem _ (List.mem_append_left _ (List.mem_append_left _ (List.mem_append_left _ (List.mem_append_right _ h))))) hown hK.1 hP 0 rfl rfl 1 (by decide) (hts _ fl_X4_faultOf_18) (fun _ h9 => h9) rfl dX4_faultOf_62 ?_
              have hP : va_P D vwCl [(h, .inr (4, [.ref hc, .int (iI (rE x n av)), .int (iI (flK x n 61 0 0))])), (hc, .inr (0, [.ref r])), (r, .inr (5, [.ref a])), (a, fA cyI 54 (flC x n 61 0 (upI c 0 0))), (ht, .inr (6, [.ref rt, .int (iI (n))])), (rt, .inr (5, [.ref xa])), (xa, fA cyI 60 x)] H := by
                rw [(show (rL x n av f : Int → Int) = flC x n 61 0 (upI c 0 0) from (by rw [jC, if_neg q30, if_neg q46, if_neg n44])).symm]
                rw [(show ((kv + 1) : Int) = flK x n 61 0 0 from (by rw [jK, if_neg q30, if_neg q46, if_neg n44])).symm]
                exact hP
              have hret : (flF x n 61 0 : Int) = rE x n av := (by rw [jF, if_neg q30, if_neg q46, if_neg n44])
              exact fp_wret (rE x n av) hx hb hr hlocks hS hP trivial (congrArg (fun z : Int => some (Value.int (iI z))) hret) dX4_faultOf_65
          · skip
            refine fp_iconst hx hb dX4_faultOf_49 ?_
            have hP : va_P D vwCl [(h, .inr (4, [.ref hc, .int (iI (rE x n av)), .int (iI (flK x n 61 0 0))])), (hc, .inr (0, [.ref r])), (r, .inr (5, [.ref a])), (a, fA cyI 54 (flC x n 61 0 (upI c 0 0))), (ht, .inr (6, [.ref rt, .int (iI (n))])), (rt, .inr (5, [.ref xa])), (xa, fA cyI 60 x)] H := by
              rw [(show (rL x n av f : Int → Int) = flC x n 61 0 (upI c 0 0) from (by rw [jC, if_neg q30, if_pos q46])).symm]
              rw [(show (kv + 1 : Int) = flK x n 61 0 0 from (by rw [jK, if_neg q30, if_pos q46])).symm]
              exact hP
            have hret : (flF x n 61 0 : Int) = (-1) := (by rw [jF, if_neg q30, if_pos q46])
            exact fp_wret (rE x n av) hx hb hr hlocks hS hP trivial (congrArg (fun z : Int => some (Value.int (iI z))) hret) dX4_faultOf_50
        · skip
          rw [show (if rK x n av = 0 then rF x n av else rE x n av : Int) = rF x n av from (if_pos q30)] at hP hD
          refine lv_aload_n hx hb dX4_faultOf_33 rfl (lv_at hl 0 rfl) ?_
          refine va_get (D := D) (ci := 4) (ws := [(h, .inr (4, [.ref hc, .int (iI (rF x n av)), .int (iI (kv + rK x n av))])), (hc, .inr (0, [.ref r])), (r, .inr (5, [.ref a])), (a, fA cyI 54 (rL x n av f)), (ht, .inr (6, [.ref rt, .int (iI (n))])), (rt, .inr (5, [.ref xa])), (xa, fA cyI 60 x)]) (v := .int (iI (rF x n av))) (C := RX4) (T := TX4) (N := 3) hx hb hts (fun _ h => List.mem_cons_of_mem _ (List.mem_append_left _ (List.mem_append_left _ (List.mem_append_left _ (List.mem_append_right _ h))))) hown hK.1 hP 0 rfl rfl 1 (by decide) (hts _ fl_X4_faultOf_18) (fun _ h9 => h9) rfl dX4_faultOf_34 ?_
          have hP : va_P D vwCl [(h, .inr (4, [.ref hc, .int (iI (rF x n av)), .int (iI (flK x n 61 0 0))])), (hc, .inr (0, [.ref r])), (r, .inr (5, [.ref a])), (a, fA cyI 54 (flC x n 61 0 (upI c 0 0))), (ht, .inr (6, [.ref rt, .int (iI (n))])), (rt, .inr (5, [.ref xa])), (xa, fA cyI 60 x)] H := by
            rw [(show (rL x n av f : Int → Int) = flC x n 61 0 (upI c 0 0) from (by rw [jC, if_pos q30]; unfold rL; exact if_pos q30)).symm]
            rw [(show (kv + rK x n av : Int) = flK x n 61 0 0 from (by rw [jK, if_pos q30, q30, Int.add_zero])).symm]
            exact hP
          have hret : (flF x n 61 0 : Int) = rF x n av := (by rw [jF, if_pos q30])
          exact fp_wret (rF x n av) hx hb hr hlocks hS hP trivial (congrArg (fun z : Int => some (Value.int (iI z))) hret) dX4_faultOf_37
  exact lp0 (((61 : Int) + 1 - (0)).toNat) 0 (upI c 0 0) 0 0 (by omega) (by omega) (by rw [upI_s rfl]; omega) rfl rfl rfl (by omega) H locs hP hD hS ls hl
