theorem catR {c : Int → Int} (hC : CatOK c) {j : Int} (h : 1 ≤ j ∧ j ≤ c 0 * 4) : 0 ≤ c j ∧ c j ≤ 3 := by
  have h1 := hC.2.1 ((j - 1) / 4) (by omega) (by omega)
  unfold LotOK at h1
  have h2 : j = (j - 1) / 4 * 4 + 1 ∨ j = (j - 1) / 4 * 4 + 2 ∨ j = (j - 1) / 4 * 4 + 3 ∨ j = (j - 1) / 4 * 4 + 4 := by omega
  rcases h2 with h2 | h2 | h2 | h2 <;> rw [h2] <;> omega
set_option maxHeartbeats 4000000 in
set_option maxRecDepth 100000 in
theorem c_X0_shift (l : Launch) (D : va_G) (cyI : ClassId) (h : Nat) (r : Nat) (a : Nat) (c : Int → Int) (lot : Int) (to : Int) (hk : 0 ≤ lot ∧ lot < 12 ∧ 0 ≤ to ∧ to < 12) : fp_MW l yX0_shift wsX0_shift ({ frames := 4, cells := 0, slots := 0, locals := 92 } : Room) D cyI [(h, .inr (0, [.ref r])), (r, .inr (5, [.ref a])), (a, fA cyI 54 c)] [.ref h, .int (iI (lot)), .int (iI (to))] (fun (u9 : Unit) => True) (fun (u9 : Unit) => none) (fun (u9 : Unit) => [(h, .inr (0, [.ref r])), (r, .inr (5, [.ref a])), (a, fA cyI 54 (shL c lot to))]) := by
  refine fp_start (cc := cX0_shift) (maxL := 8) (ret := none) (by decide) rfl (Nat.le_of_ble_eq_true rfl) ?_
  intro pg en sx mi ar bl mt cd ls hx hb hr hts hown hlocks hml hnm hP hK hD hl
  have hown : sx.vm.findClass RX0 = some mi.cls := hown
  have hl : lv_has ls 8 [(0, .ref h), (1, .int (iI (lot))), (2, .int (iI (to)))] := hl
  have hD := fp_self hD
  have hS : va_S (fp_A [(h, .inr (0, [.ref r])), (r, .inr (5, [.ref a])), (a, fA cyI 54 c)]) sx.heap sx.heap [] := va_S.rf
  refine lv_aload_n hx hb dX0_shift_0 rfl (lv_at hl 0 rfl) ?_
  refine lv_iload_n hx hb dX0_shift_1 rfl (lv_at hl 1 rfl) ?_
  refine fp_pV (As := [.int (iI (lot))]) (rest := []) (wsC := [(h, .inr (0, [.ref r])), (r, .inr (5, [.ref a])), (a, fA cyI 54 c)]) ⟨hx, hb, hml, hown, hts⟩ (c_X0_text l D cyI h r a c lot (by omega)) (cwV 1 hts gX0_shift_X0_text rfl rfl rfl (by decide +kernel) ⟨Nat.le_of_ble_eq_true rfl, Nat.le_of_ble_eq_true rfl⟩) hK hP hD [0, 1, 2] (by decide) rfl rfl rfl rfl hl.1 rfl (Nat.le_of_ble_eq_true rfl) dX0_shift_2 ⟨Nat.zero_le _, Nat.zero_le _⟩ ?_
  refine lv_istore_n (lv' := [(3, .int (iI (c (lot * 4 + 1)))), (0, .ref h), (1, .int (iI (lot))), (2, .int (iI (to)))]) hx hb dX0_shift_5 rfl hl (by decide) rfl (fun ls hl => ?_)
  refine lv_aload_n hx hb dX0_shift_6 rfl (lv_at hl 1 rfl) ?_
  refine lv_iload_n hx hb dX0_shift_7 rfl (lv_at hl 2 rfl) ?_
  refine fp_pV (As := [.int (iI (lot))]) (rest := []) (wsC := [(h, .inr (0, [.ref r])), (r, .inr (5, [.ref a])), (a, fA cyI 54 c)]) ⟨hx, hb, hml, hown, hts⟩ (c_X0_plate l D cyI h r a c lot (by omega)) (cwV 1 hts gX0_shift_X0_plate rfl rfl rfl (by decide +kernel) ⟨Nat.le_of_ble_eq_true rfl, Nat.le_of_ble_eq_true rfl⟩) hK hP hD [0, 1, 2] (by decide) rfl rfl rfl rfl hl.1 rfl (Nat.le_of_ble_eq_true rfl) dX0_shift_8 ⟨Nat.zero_le _, Nat.zero_le _⟩ ?_
  refine lv_istore (lv' := [(4, .int (iI (c (lot * 4 + 2)))), (3, .int (iI (c (lot * 4 + 1)))), (0, .ref h), (1, .int (iI (lot))), (2, .int (iI (to)))]) hx hb dX0_shift_11 hl (by decide) rfl (fun ls hl => ?_)
  refine lv_aload_n hx hb dX0_shift_13 rfl (lv_at hl 2 rfl) ?_
  refine lv_iload_n hx hb dX0_shift_14 rfl (lv_at hl 3 rfl) ?_
  refine fp_pV (As := [.int (iI (lot))]) (rest := []) (wsC := [(h, .inr (0, [.ref r])), (r, .inr (5, [.ref a])), (a, fA cyI 54 c)]) ⟨hx, hb, hml, hown, hts⟩ (c_X0_blank l D cyI h r a c lot (by omega)) (cwV 1 hts gX0_shift_X0_blank rfl rfl rfl (by decide +kernel) ⟨Nat.le_of_ble_eq_true rfl, Nat.le_of_ble_eq_true rfl⟩) hK hP hD [0, 1, 2] (by decide) rfl rfl rfl rfl hl.1 rfl (Nat.le_of_ble_eq_true rfl) dX0_shift_15 ⟨Nat.zero_le _, Nat.zero_le _⟩ ?_
  refine lv_istore (lv' := [(5, .int (iI (c (lot * 4 + 3)))), (4, .int (iI (c (lot * 4 + 2)))), (3, .int (iI (c (lot * 4 + 1)))), (0, .ref h), (1, .int (iI (lot))), (2, .int (iI (to)))]) hx hb dX0_shift_18 hl (by decide) rfl (fun ls hl => ?_)
  refine lv_aload_n hx hb dX0_shift_20 rfl (lv_at hl 3 rfl) ?_
  refine lv_iload_n hx hb dX0_shift_21 rfl (lv_at hl 4 rfl) ?_
  refine fp_pV (As := [.int (iI (lot))]) (rest := []) (wsC := [(h, .inr (0, [.ref r])), (r, .inr (5, [.ref a])), (a, fA cyI 54 c)]) ⟨hx, hb, hml, hown, hts⟩ (c_X0_place l D cyI h r a c lot (by omega)) (cwV 1 hts gX0_shift_X0_place rfl rfl rfl (by decide +kernel) ⟨Nat.le_of_ble_eq_true rfl, Nat.le_of_ble_eq_true rfl⟩) hK hP hD [0, 1, 2] (by decide) rfl rfl rfl rfl hl.1 rfl (Nat.le_of_ble_eq_true rfl) dX0_shift_22 ⟨Nat.zero_le _, Nat.zero_le _⟩ ?_
  refine lv_istore (lv' := [(6, .int (iI (c (lot * 4 + 4)))), (5, .int (iI (c (lot * 4 + 3)))), (4, .int (iI (c (lot * 4 + 2)))), (3, .int (iI (c (lot * 4 + 1)))), (0, .ref h), (1, .int (iI (lot))), (2, .int (iI (to)))]) hx hb dX0_shift_25 hl (by decide) rfl (fun ls hl => ?_)
  refine lv_iload_n hx hb dX0_shift_27 rfl (lv_at hl 5 rfl) ?_
  refine lv_istore (lv' := [(7, .int (iI (lot))), (6, .int (iI (c (lot * 4 + 4)))), (5, .int (iI (c (lot * 4 + 3)))), (4, .int (iI (c (lot * 4 + 2)))), (3, .int (iI (c (lot * 4 + 1)))), (0, .ref h), (1, .int (iI (lot))), (2, .int (iI (to)))]) hx hb dX0_shift_28 hl (by decide) rfl (fun ls hl => ?_)
  have hl := lv_sub hl (l' := [(0, .ref h), (1, .int (iI (lot))), (2, .int (iI (to))), (3, .int (iI (c (lot * 4 + 1)))), (4, .int (iI (c (lot * 4 + 2)))), (5, .int (iI (c (lot * 4 + 3)))), (6, .int (iI (c (lot * 4 + 4)))), (7, .int (iI (lot)))]) [5, 6, 7, 4, 3, 2, 1, 0] rfl
  have lp0 : ∀ (nf : Nat) (i : Int) (f : Int → Int), (lot ≤ i ∧ (i ≤ to ∨ i = lot)) → (∀ j : Int, f j = if lot * 4 + 1 ≤ j ∧ j ≤ i * 4 then c (j + 4) else c j) → (12 + 1 ≤ i + (nf : Int)) → ∀ (H : Heap) (locs : List Loc), va_P D vwCl [(h, .inr (0, [.ref r])), (r, .inr (5, [.ref a])), (a, fA cyI 54 f)] H → va_D (fp_A [(h, .inr (0, [.ref r])), (r, .inr (5, [.ref a])), (a, fA cyI 54 c)]) [(h, .inr (0, [.ref r])), (r, .inr (5, [.ref a])), (a, fA cyI 54 f)] → va_S (fp_A [(h, .inr (0, [.ref r])), (r, .inr (5, [.ref a])), (a, fA cyI 54 c)]) sx.heap H locs → ∀ (ls : Array Slot), lv_has ls 8 [(0, .ref h), (1, .int (iI (lot))), (2, .int (iI (to))), (3, .int (iI (c (lot * 4 + 1)))), (4, .int (iI (c (lot * 4 + 2)))), (5, .int (iI (c (lot * 4 + 3)))), (6, .int (iI (c (lot * 4 + 4)))), (7, .int (iI (i)))] → W pg l en ({ frames := 4, cells := 0, slots := 0, locals := 92 } : Room) sx mi ar bl mt cd H locs 0 0 (MQ bl (fp_Qw D [(h, .inr (0, [.ref r])), (r, .inr (5, [.ref a])), (a, fA cyI 54 c)] (fun (u9 : Unit) => True) (fun (u9 : Unit) => none) (fun (u9 : Unit) => [(h, .inr (0, [.ref r])), (r, .inr (5, [.ref a])), (a, fA cyI 54 (shL c lot to))])) ar sx 0 0 (fp_A [(h, .inr (0, [.ref r])), (r, .inr (5, [.ref a])), (a, fA cyI 54 c)])) (F0 mi 30 ls []) := by
    intro nf
    induction nf with
    | zero =>
      intro i f ik jf hfuel
      exact absurd hfuel (by omega)
    | succ nf ih0 =>
      intro i f ik jf hfuel H locs hP hD hS ls hl
      refine lv_iload hx hb dX0_shift_30 (lv_at hl 7 rfl) ?_
      refine lv_iload_n hx hb dX0_shift_32 rfl (lv_at hl 2 rfl) ?_
      refine fp_icmp_ge (tgt := 52) hx hb (by omega) dX0_shift_33 (by decide) (fun q33 => ?_) (fun q33 => ?_)
      · skip
        refine lv_iload_n hx hb dX0_shift_52 rfl (lv_at hl 1 rfl) ?_
        refine lv_istore (lv' := [(7, .int (iI (lot))), (0, .ref h), (1, .int (iI (lot))), (2, .int (iI (to))), (3, .int (iI (c (lot * 4 + 1)))), (4, .int (iI (c (lot * 4 + 2)))), (5, .int (iI (c (lot * 4 + 3)))), (6, .int (iI (c (lot * 4 + 4))))]) hx hb dX0_shift_53 hl (by decide) rfl (fun ls hl => ?_)
        have hl := lv_sub hl (l' := [(0, .ref h), (1, .int (iI (lot))), (2, .int (iI (to))), (3, .int (iI (c (lot * 4 + 1)))), (4, .int (iI (c (lot * 4 + 2)))), (5, .int (iI (c (lot * 4 + 3)))), (6, .int (iI (c (lot * 4 + 4)))), (7, .int (iI (lot)))]) [1, 2, 3, 4, 5, 6, 7, 0] rfl
        have lp2 : ∀ (nf : Nat) (i2 : Int) (g : Int → Int), (i2 ≤ lot ∧ (to ≤ i2 ∨ i2 = lot)) → (∀ j : Int, g j = if lot * 4 + 1 ≤ j ∧ j ≤ to * 4 then c (j + 4) else if i2 * 4 + 5 ≤ j ∧ j ≤ lot * 4 + 4 then c (j - 4) else c j) → (i2 + 1 ≤ (nf : Int)) → ∀ (H : Heap) (locs : List Loc), va_P D vwCl [(h, .inr (0, [.ref r])), (r, .inr (5, [.ref a])), (a, fA cyI 54 g)] H → va_D (fp_A [(h, .inr (0, [.ref r])), (r, .inr (5, [.ref a])), (a, fA cyI 54 c)]) [(h, .inr (0, [.ref r])), (r, .inr (5, [.ref a])), (a, fA cyI 54 g)] → va_S (fp_A [(h, .inr (0, [.ref r])), (r, .inr (5, [.ref a])), (a, fA cyI 54 c)]) sx.heap H locs → ∀ (ls : Array Slot), lv_has ls 8 [(0, .ref h), (1, .int (iI (lot))), (2, .int (iI (to))), (3, .int (iI (c (lot * 4 + 1)))), (4, .int (iI (c (lot * 4 + 2)))), (5, .int (iI (c (lot * 4 + 3)))), (6, .int (iI (c (lot * 4 + 4)))), (7, .int (iI (i2)))] → W pg l en ({ frames := 4, cells := 0, slots := 0, locals := 92 } : Room) sx mi ar bl mt cd H locs 0 0 (MQ bl (fp_Qw D [(h, .inr (0, [.ref r])), (r, .inr (5, [.ref a])), (a, fA cyI 54 c)] (fun (u9 : Unit) => True) (fun (u9 : Unit) => none) (fun (u9 : Unit) => [(h, .inr (0, [.ref r])), (r, .inr (5, [.ref a])), (a, fA cyI 54 (shL c lot to))])) ar sx 0 0 (fp_A [(h, .inr (0, [.ref r])), (r, .inr (5, [.ref a])), (a, fA cyI 54 c)])) (F0 mi 55 ls []) := by
          intro nf
          induction nf with
          | zero =>
            intro i2 g ik2 jg hfuel
            exact absurd hfuel (by omega)
          | succ nf ih2 =>
            intro i2 g ik2 jg hfuel H locs hP hD hS ls hl
            refine lv_iload hx hb dX0_shift_55 (lv_at hl 7 rfl) ?_
            refine lv_iload_n hx hb dX0_shift_57 rfl (lv_at hl 2 rfl) ?_
            refine fp_icmp_le (tgt := 77) hx hb (by omega) dX0_shift_58 (by decide) (fun q58 => ?_) (fun q58 => ?_)
            · skip
              refine lv_aload_n hx hb dX0_shift_77 rfl (lv_at hl 0 rfl) ?_
              refine lv_iload_n hx hb dX0_shift_78 rfl (lv_at hl 2 rfl) ?_
              refine lv_iload_n hx hb dX0_shift_79 rfl (lv_at hl 3 rfl) ?_
              refine lv_iload hx hb dX0_shift_80 (lv_at hl 4 rfl) ?_
              refine lv_iload hx hb dX0_shift_82 (lv_at hl 5 rfl) ?_
              refine lv_iload hx hb dX0_shift_84 (lv_at hl 6 rfl) ?_
              refine fp_wV (As := [.int (iI (to)), .int (iI (c (lot * 4 + 1))), .int (iI (c (lot * 4 + 2))), .int (iI (c (lot * 4 + 3))), .int (iI (c (lot * 4 + 4)))]) (rest := []) (wsC := [(h, .inr (0, [.ref r])), (r, .inr (5, [.ref a])), (a, fA cyI 54 g)]) ⟨hx, hb, hml, hown, hts⟩ (c_X0_putLot l D cyI h r a g to (c (lot * 4 + 1)) (c (lot * 4 + 2)) (c (lot * 4 + 3)) (c (lot * 4 + 4)) (by omega)) (cwV 5 hts gX0_shift_X0_putLot rfl rfl rfl (by decide +kernel) ⟨Nat.le_of_ble_eq_true rfl, Nat.le_of_ble_eq_true rfl⟩) (fun _ => rfl) hK hP hD hS [0, 1, 2] (by decide) rfl rfl rfl rfl hl.1 rfl (Nat.le_of_ble_eq_true rfl) dX0_shift_86 ⟨Nat.zero_le _, Nat.zero_le _⟩ (fun u9v H locs hu hP hD hS => ?_)
              refine W.eq (g2 := F0 mi 89 ls []) rfl ?_
              have hP : va_P D vwCl [(h, .inr (0, [.ref r])), (r, .inr (5, [.ref a])), (a, fA cyI 54 (putL g to (c (lot * 4 + 1)) (c (lot * 4 + 2)) (c (lot * 4 + 3)) (c (lot * 4 + 4))))] H := hP
              have hD : va_D (fp_A [(h, .inr (0, [.ref r])), (r, .inr (5, [.ref a])), (a, fA cyI 54 c)]) [(h, .inr (0, [.ref r])), (r, .inr (5, [.ref a])), (a, fA cyI 54 (putL g to (c (lot * 4 + 1)) (c (lot * 4 + 2)) (c (lot * 4 + 3)) (c (lot * 4 + 4))))] := hD
              have hE := shL_eq (c := c) (f := g) (lot := lot) (to := to) (by omega) (by omega) (fun j => by
                rw [jg j]
                by_cases a1 : lot * 4 + 1 ≤ j ∧ j ≤ to * 4
                · rw [if_pos a1, if_pos a1]
                · rw [if_neg a1, if_neg a1]
                  by_cases b1 : i2 * 4 + 5 ≤ j ∧ j ≤ lot * 4 + 4
                  · rw [if_pos b1, if_pos (by omega)]
                  · rw [if_neg b1, if_neg (by omega)])
              have hP : va_P D vwCl [(h, .inr (0, [.ref r])), (r, .inr (5, [.ref a])), (a, fA cyI 54 (shL c lot to))] H := by
                rw [(show (putL g to (c (lot * 4 + 1)) (c (lot * 4 + 2)) (c (lot * 4 + 3)) (c (lot * 4 + 4)) : Int → Int) = shL c lot to from hE).symm]
                exact hP
              exact fp_wvret () hx hb hr hlocks hS hP trivial rfl dX0_shift_89
            · skip
              refine lv_aload_n hx hb dX0_shift_61 rfl (lv_at hl 0 rfl) ?_
              refine lv_iload hx hb dX0_shift_62 (lv_at hl 7 rfl) ?_
              refine lv_iload hx hb dX0_shift_64 (lv_at hl 7 rfl) ?_
              refine fp_iconst hx hb dX0_shift_66 ?_
              refine fp_isub hx hb dX0_shift_67 ?_
              refine fp_wV (As := [.int (iI (i2)), .int (iI (i2 - 1))]) (rest := []) (wsC := [(h, .inr (0, [.ref r])), (r, .inr (5, [.ref a])), (a, fA cyI 54 g)]) ⟨hx, hb, hml, hown, hts⟩ (c_X0_copyLot l D cyI h r a g i2 (i2 - 1) (by omega)) (cwV 2 hts gX0_shift_X0_copyLot rfl rfl rfl (by decide +kernel) ⟨Nat.le_of_ble_eq_true rfl, Nat.le_of_ble_eq_true rfl⟩) (fun _ => rfl) hK hP hD hS [0, 1, 2] (by decide) rfl rfl rfl rfl hl.1 rfl (Nat.le_of_ble_eq_true rfl) dX0_shift_68 ⟨Nat.zero_le _, Nat.zero_le _⟩ (fun u9v H locs hu hP hD hS => ?_)
              refine W.eq (g2 := F0 mi 71 ls []) rfl ?_
              have hP : va_P D vwCl [(h, .inr (0, [.ref r])), (r, .inr (5, [.ref a])), (a, fA cyI 54 (putL g i2 (g ((i2 - 1) * 4 + 1)) (g ((i2 - 1) * 4 + 2)) (g ((i2 - 1) * 4 + 3)) (g ((i2 - 1) * 4 + 4))))] H := hP
              have hD : va_D (fp_A [(h, .inr (0, [.ref r])), (r, .inr (5, [.ref a])), (a, fA cyI 54 c)]) [(h, .inr (0, [.ref r])), (r, .inr (5, [.ref a])), (a, fA cyI 54 (putL g i2 (g ((i2 - 1) * 4 + 1)) (g ((i2 - 1) * 4 + 2)) (g ((i2 - 1) * 4 + 3)) (g ((i2 - 1) * 4 + 4))))] := hD
              refine fp_iinc (k := 7) (lv' := [(7, .int (iI (i2 + (-1)))), (0, .ref h), (1, .int (iI (lot))), (2, .int (iI (to))), (3, .int (iI (c (lot * 4 + 1)))), (4, .int (iI (c (lot * 4 + 2)))), (5, .int (iI (c (lot * 4 + 3)))), (6, .int (iI (c (lot * 4 + 4))))]) hx hb dX0_shift_71 hl rfl (by decide) rfl (fun ls hl => ?_)
              refine lv_goto (tgt := 55) hx hb dX0_shift_74 (by decide) ?_
              have hS2 : ∀ j : Int, putL g i2 (g ((i2 - 1) * 4 + 1)) (g ((i2 - 1) * 4 + 2)) (g ((i2 - 1) * 4 + 3)) (g ((i2 - 1) * 4 + 4)) j = if lot * 4 + 1 ≤ j ∧ j ≤ to * 4 then c (j + 4) else if (i2 + (-1)) * 4 + 5 ≤ j ∧ j ≤ lot * 4 + 4 then c (j - 4) else c j := by
                intro j
                rw [shL_dn (lot := lot) (c := c) (fun j => by rw [jg j, if_neg (by omega)]) (by omega) j, if_neg (show ¬ (lot * 4 + 1 ≤ j ∧ j ≤ to * 4) by omega), show i2 + (-1) = i2 - 1 by omega]
              exact ih2 (i2 + (-1)) (putL g i2 (g ((i2 - 1) * 4 + 1)) (g ((i2 - 1) * 4 + 2)) (g ((i2 - 1) * 4 + 3)) (g ((i2 - 1) * 4 + 4))) (by omega) hS2 (by omega) H locs hP hD hS ls (lv_sub hl [1, 2, 3, 4, 5, 6, 7, 0] rfl)
        have hI2 : ∀ j : Int, f j = if lot * 4 + 1 ≤ j ∧ j ≤ to * 4 then c (j + 4) else if lot * 4 + 5 ≤ j ∧ j ≤ lot * 4 + 4 then c (j - 4) else c j := by
          intro j
          rw [jf j]
          by_cases a1 : lot * 4 + 1 ≤ j ∧ j ≤ i * 4
          · rw [if_pos a1, if_pos (by omega)]
          · rw [if_neg a1, if_neg (by omega), if_neg (by omega)]
        exact lp2 ((lot + 1).toNat) lot f (by omega) hI2 (by omega) H locs hP hD hS ls hl
      · skip
        refine lv_aload_n hx hb dX0_shift_36 rfl (lv_at hl 0 rfl) ?_
        refine lv_iload hx hb dX0_shift_37 (lv_at hl 7 rfl) ?_
        refine lv_iload hx hb dX0_shift_39 (lv_at hl 7 rfl) ?_
        refine fp_iconst hx hb dX0_shift_41 ?_
        refine fp_iadd hx hb dX0_shift_42 ?_
        refine fp_wV (As := [.int (iI (i)), .int (iI (i + 1))]) (rest := []) (wsC := [(h, .inr (0, [.ref r])), (r, .inr (5, [.ref a])), (a, fA cyI 54 f)]) ⟨hx, hb, hml, hown, hts⟩ (c_X0_copyLot l D cyI h r a f i (i + 1) (by omega)) (cwV 2 hts gX0_shift_X0_copyLot rfl rfl rfl (by decide +kernel) ⟨Nat.le_of_ble_eq_true rfl, Nat.le_of_ble_eq_true rfl⟩) (fun _ => rfl) hK hP hD hS [0, 1, 2] (by decide) rfl rfl rfl rfl hl.1 rfl (Nat.le_of_ble_eq_true rfl) dX0_shift_43 ⟨Nat.zero_le _, Nat.zero_le _⟩ (fun u9v H locs hu hP hD hS => ?_)
        refine W.eq (g2 := F0 mi 46 ls []) rfl ?_
        have hP : va_P D vwCl [(h, .inr (0, [.ref r])), (r, .inr (5, [.ref a])), (a, fA cyI 54 (putL f i (f ((i + 1) * 4 + 1)) (f ((i + 1) * 4 + 2)) (f ((i + 1) * 4 + 3)) (f ((i + 1) * 4 + 4))))] H := hP
        have hD : va_D (fp_A [(h, .inr (0, [.ref r])), (r, .inr (5, [.ref a])), (a, fA cyI 54 c)]) [(h, .inr (0, [.ref r])), (r, .inr (5, [.ref a])), (a, fA cyI 54 (putL f i (f ((i + 1) * 4 + 1)) (f ((i + 1) * 4 + 2)) (f ((i + 1) * 4 + 3)) (f ((i + 1) * 4 + 4))))] := hD
        refine fp_iinc (k := 7) (lv' := [(7, .int (iI (i + 1))), (0, .ref h), (1, .int (iI (lot))), (2, .int (iI (to))), (3, .int (iI (c (lot * 4 + 1)))), (4, .int (iI (c (lot * 4 + 2)))), (5, .int (iI (c (lot * 4 + 3)))), (6, .int (iI (c (lot * 4 + 4))))]) hx hb dX0_shift_46 hl rfl (by decide) rfl (fun ls hl => ?_)
        refine lv_goto (tgt := 30) hx hb dX0_shift_49 (by decide) ?_
        exact ih0 (i + 1) (putL f i (f ((i + 1) * 4 + 1)) (f ((i + 1) * 4 + 2)) (f ((i + 1) * 4 + 3)) (f ((i + 1) * 4 + 4))) (by omega) (shL_up jf ik.1) (by omega) H locs hP hD hS ls (lv_sub hl [1, 2, 3, 4, 5, 6, 7, 0] rfl)
  exact lp0 (((12 : Int) + 1 - (lot)).toNat) lot c (by omega) (fun j => (if_neg (by omega)).symm) (by omega) sx.heap [] hP hD hS ls hl
theorem fl_X0_drop_16 : Cond.fieldLink RX0 16 "FacingPlates$Catalogue" "cells" "LFacingPlates$Row;" ∈ wsX0_drop := by decide +kernel
set_option maxHeartbeats 4000000 in
set_option maxRecDepth 100000 in
theorem c_X0_drop (l : Launch) (D : va_G) (cyI : ClassId) (h : Nat) (r : Nat) (a : Nat) (c : Int → Int) (k : Int) (hk : (0 ≤ k ∧ k < c 0) ∧ c 0 ≤ 12) : fp_MW l yX0_drop wsX0_drop ({ frames := 5, cells := 0, slots := 0, locals := 119 } : Room) D cyI [(h, .inr (0, [.ref r])), (r, .inr (5, [.ref a])), (a, fA cyI 54 c)] [.ref h, .int (iI (k))] (fun (u9 : Unit) => True) (fun (u9 : Unit) => none) (fun (u9 : Unit) => [(h, .inr (0, [.ref r])), (r, .inr (5, [.ref a])), (a, fA cyI 54 (upI (shL c k (c 0 - 1)) 0 (c 0 - 1)))]) := by
  refine fp_start (cc := cX0_drop) (maxL := 3) (ret := none) (by decide) rfl (Nat.le_of_ble_eq_true rfl) ?_
  intro pg en sx mi ar bl mt cd ls hx hb hr hts hown hlocks hml hnm hP hK hD hl
  have hown : sx.vm.findClass RX0 = some mi.cls := hown
  have hl : lv_has ls 3 [(0, .ref h), (1, .int (iI (k)))] := hl
  have hD := fp_self hD
  have hS : va_S (fp_A [(h, .inr (0, [.ref r])), (r, .inr (5, [.ref a])), (a, fA cyI 54 c)]) sx.heap sx.heap [] := va_S.rf
  refine lv_aload_n hx hb dX0_drop_0 rfl (lv_at hl 0 rfl) ?_
  refine fp_pV (As := []) (rest := []) (wsC := [(h, .inr (0, [.ref r])), (r, .inr (5, [.ref a])), (a, fA cyI 54 c)]) ⟨hx, hb, hml, hown, hts⟩ (c_X0_lots l D cyI h r a c) (cwV 0 hts gX0_drop_X0_lots rfl rfl rfl (by decide +kernel) ⟨Nat.le_of_ble_eq_true rfl, Nat.le_of_ble_eq_true rfl⟩) hK hP hD [0, 1, 2] (by decide) rfl rfl rfl rfl hl.1 rfl (Nat.le_of_ble_eq_true rfl) dX0_drop_1 ⟨Nat.zero_le _, Nat.zero_le _⟩ ?_
  refine fp_iconst hx hb dX0_drop_4 ?_
  refine fp_isub hx hb dX0_drop_5 ?_
  refine lv_istore_n (lv' := [(2, .int (iI ((c 0) - 1))), (0, .ref h), (1, .int (iI (k)))]) hx hb dX0_drop_6 rfl hl (by decide) rfl (fun ls hl => ?_)
  refine lv_aload_n hx hb dX0_drop_7 rfl (lv_at hl 1 rfl) ?_
  refine lv_iload_n hx hb dX0_drop_8 rfl (lv_at hl 2 rfl) ?_
  refine lv_iload_n hx hb dX0_drop_9 rfl (lv_at hl 0 rfl) ?_
  refine fp_wV (As := [.int (iI (k)), .int (iI ((c 0) - 1))]) (rest := []) (wsC := [(h, .inr (0, [.ref r])), (r, .inr (5, [.ref a])), (a, fA cyI 54 c)]) ⟨hx, hb, hml, hown, hts⟩ (c_X0_shift l D cyI h r a c k ((c 0) - 1) (by omega)) (cwV 2 hts gX0_drop_X0_shift rfl rfl rfl (by decide +kernel) ⟨Nat.le_of_ble_eq_true rfl, Nat.le_of_ble_eq_true rfl⟩) (fun _ => rfl) hK hP hD hS [0, 1, 2] (by decide) rfl rfl rfl rfl hl.1 rfl (Nat.le_of_ble_eq_true rfl) dX0_drop_10 ⟨Nat.zero_le _, Nat.zero_le _⟩ (fun u9v H locs hu hP hD hS => ?_)
  refine W.eq (g2 := F0 mi 13 ls []) rfl ?_
  have hP : va_P D vwCl [(h, .inr (0, [.ref r])), (r, .inr (5, [.ref a])), (a, fA cyI 54 (shL c k ((c 0) - 1)))] H := hP
  have hD : va_D (fp_A [(h, .inr (0, [.ref r])), (r, .inr (5, [.ref a])), (a, fA cyI 54 c)]) [(h, .inr (0, [.ref r])), (r, .inr (5, [.ref a])), (a, fA cyI 54 (shL c k ((c 0) - 1)))] := hD
  refine lv_aload_n hx hb dX0_drop_13 rfl (lv_at hl 1 rfl) ?_
  refine va_get (D := D) (ci := 0) (ws := [(h, .inr (0, [.ref r])), (r, .inr (5, [.ref a])), (a, fA cyI 54 (shL c k ((c 0) - 1)))]) (v := .ref r) (C := RX0) (T := TX0) (N := 1) hx hb hts (fun _ h => List.mem_cons_of_mem _ (List.mem_append_left _ (List.mem_append_right _ h))) hown hK.1 hP 0 rfl rfl 0 (by decide) (hts _ fl_X0_drop_16) (fun _ h9 => h9) rfl dX0_drop_14 ?_
  refine fp_iconst hx hb dX0_drop_17 ?_
  refine lv_iload_n hx hb dX0_drop_18 rfl (lv_at hl 0 rfl) ?_
  refine fp_wV (As := [.int (iI (0)), .int (iI ((c 0) - 1))]) (rest := []) (wsC := [(h, .inr (0, [.ref r])), (r, .inr (5, [.ref a])), (a, fA cyI 54 (shL c k ((c 0) - 1)))]) ⟨hx, hb, hml, hown, hts⟩ (c_X5_put l D cyI r a 54 (shL c k ((c 0) - 1)) 0 ((c 0) - 1) (by omega) (by decide)) (cwV 2 hts gX0_drop_X5_put rfl rfl rfl (by decide +kernel) ⟨Nat.le_of_ble_eq_true rfl, Nat.le_of_ble_eq_true rfl⟩) (fun _ => rfl) hK hP hD hS [1, 2] (by decide) rfl rfl rfl rfl hl.1 rfl (Nat.le_of_ble_eq_true rfl) dX0_drop_19 ⟨Nat.zero_le _, Nat.zero_le _⟩ (fun u9v H locs hu hP hD hS => ?_)
  refine W.eq (g2 := F0 mi 22 ls []) rfl ?_
  have hP : va_P D vwCl [(h, .inr (0, [.ref r])), (r, .inr (5, [.ref a])), (a, fA cyI 54 (upI (shL c k ((c 0) - 1)) 0 ((c 0) - 1)))] H := hP
  have hD : va_D (fp_A [(h, .inr (0, [.ref r])), (r, .inr (5, [.ref a])), (a, fA cyI 54 c)]) [(h, .inr (0, [.ref r])), (r, .inr (5, [.ref a])), (a, fA cyI 54 (upI (shL c k ((c 0) - 1)) 0 ((c 0) - 1)))] := hD
  have hP : va_P D vwCl [(h, .inr (0, [.ref r])), (r, .inr (5, [.ref a])), (a, fA cyI 54 (upI (shL c k (c 0 - 1)) 0 (c 0 - 1)))] H := by
    rw [(show (upI (shL c k ((c 0) - 1)) 0 ((c 0) - 1) : Int → Int) = upI (shL c k (c 0 - 1)) 0 (c 0 - 1) from (by first | rfl | (exfalso; omega))).symm]
    exact hP
  exact fp_wvret () hx hb hr hlocks hS hP trivial rfl dX0_drop_22
theorem fl_X0_sameLots_16 : Cond.fieldLink RX0 16 "FacingPlates$Catalogue" "cells" "LFacingPlates$Row;" ∈ wsX0_sameLots := by decide +kernel
set_option maxHeartbeats 4000000 in
set_option maxRecDepth 100000 in
theorem c_X0_sameLots (l : Launch) (D : va_G) (cyI : ClassId) (h : Nat) (r : Nat) (a : Nat) (c : Int → Int) (h2 : Nat) (r2 : Nat) (a2 : Nat) (d : Int → Int) (hC : CatOK c) (hC2 : CatOK d) : fp_M l yX0_sameLots wsX0_sameLots ({ frames := 2, cells := 0, slots := 0, locals := 41 } : Room) D cyI [(h, .inr (0, [.ref r])), (r, .inr (5, [.ref a])), (a, fA cyI 54 c), (h2, .inr (0, [.ref r2])), (r2, .inr (5, [.ref a2])), (a2, fA cyI 54 d)] [.ref h, .ref h2] (some (.int (iI (sameI c d (c 0 * 4).toNat)))) := by
  refine fp_start (cc := cX0_sameLots) (maxL := 4) (ret := (some .boolean)) (by decide) rfl (Nat.le_of_ble_eq_true rfl) ?_
  intro pg en sx mi ar bl mt cd ls hx hb hr hts hown hlocks hml hnm hP hK hD hl
  have hown : sx.vm.findClass RX0 = some mi.cls := hown
  have hl : lv_has ls 4 [(0, .ref h), (1, .ref h2)] := hl
  have hN := hC.1
  have hN2 := hC2.1
  refine lv_aload_n hx hb dX0_sameLots_0 rfl (lv_at hl 0 rfl) ?_
  refine fp_pV (As := []) (rest := []) (wsC := [(h, .inr (0, [.ref r])), (r, .inr (5, [.ref a])), (a, fA cyI 54 c), (h2, .inr (0, [.ref r2])), (r2, .inr (5, [.ref a2])), (a2, fA cyI 54 d)]) ⟨hx, hb, hml, hown, hts⟩ (c_X0_lots l D cyI h r a c) (cwV 0 hts gX0_sameLots_X0_lots rfl rfl rfl (by decide +kernel) ⟨Nat.le_of_ble_eq_true rfl, Nat.le_of_ble_eq_true rfl⟩) hK hP hD [0, 1, 2] (by decide) rfl rfl rfl rfl hl.1 rfl (Nat.le_of_ble_eq_true rfl) dX0_sameLots_1 ⟨Nat.zero_le _, Nat.zero_le _⟩ ?_
  refine lv_aload_n hx hb dX0_sameLots_4 rfl (lv_at hl 1 rfl) ?_
  refine fp_pV (As := []) (rest := [.int (iI (c 0))]) (wsC := [(h, .inr (0, [.ref r])), (r, .inr (5, [.ref a])), (a, fA cyI 54 c), (h2, .inr (0, [.ref r2])), (r2, .inr (5, [.ref a2])), (a2, fA cyI 54 d)]) ⟨hx, hb, hml, hown, hts⟩ (c_X0_lots l D cyI h2 r2 a2 d) (cwV 0 hts gX0_sameLots_X0_lots rfl rfl rfl (by decide +kernel) ⟨Nat.le_of_ble_eq_true rfl, Nat.le_of_ble_eq_true rfl⟩) hK hP hD [3, 4, 5] (by decide) rfl rfl rfl rfl hl.1 rfl (Nat.le_of_ble_eq_true rfl) dX0_sameLots_5 ⟨Nat.zero_le _, Nat.zero_le _⟩ ?_
  have jn0 : ∀ (x0 : Int), (x0 = bI (c 0 = d 0)) → ∀ (ls : Array Slot), lv_has ls 4 [(0, .ref h), (1, .ref h2)] → W pg l en ({ frames := 2, cells := 0, slots := 0, locals := 41 } : Room) sx mi ar bl mt cd sx.heap [] 0 0 (MQ bl (fp_Qp (some (.int (iI (sameI c d (c 0 * 4).toNat))))) ar sx 0 0 (fun _ => False)) (F0 mi 16 ls [.int (iI (x0))]) := by
    intro x0 jx ls hl
    refine lv_istore_n (lv' := [(2, .int (iI (x0))), (0, .ref h), (1, .ref h2)]) hx hb dX0_sameLots_16 rfl hl (by decide) rfl (fun ls hl => ?_)
    refine fp_iconst hx hb dX0_sameLots_17 ?_
    refine lv_istore_n (lv' := [(3, .int (iI (1))), (2, .int (iI (x0))), (0, .ref h), (1, .ref h2)]) hx hb dX0_sameLots_18 rfl hl (by decide) rfl (fun ls hl => ?_)
    have hl := lv_sub hl (l' := [(0, .ref h), (1, .ref h2), (2, .int (iI (x0))), (3, .int (iI (1)))]) [2, 3, 1, 0] rfl
    have lp1 : ∀ (nf : Nat) (x : Int) (i : Int), (1 ≤ i ∧ i ≤ c 0 * 4 + 1) → (x = sameI c d (i - 1).toNat) → (c 0 * 4 + 1 + 1 ≤ i + (nf : Int)) → ∀ (ls : Array Slot), lv_has ls 4 [(0, .ref h), (1, .ref h2), (2, .int (iI (x))), (3, .int (iI (i)))] → W pg l en ({ frames := 2, cells := 0, slots := 0, locals := 41 } : Room) sx mi ar bl mt cd sx.heap [] 0 0 (MQ bl (fp_Qp (some (.int (iI (sameI c d (c 0 * 4).toNat))))) ar sx 0 0 (fun _ => False)) (F0 mi 19 ls []) := by
      intro nf
      induction nf with
      | zero =>
        intro x i ik ix hfuel
        exact absurd hfuel (by omega)
      | succ nf ih1 =>
        intro x i ik ix hfuel ls hl
        have hx01 := sameI_01 c d (i - 1).toNat
        refine lv_iload_n hx hb dX0_sameLots_19 rfl (lv_at hl 3 rfl) ?_
        refine lv_aload_n hx hb dX0_sameLots_20 rfl (lv_at hl 0 rfl) ?_
        refine fp_pV (As := []) (rest := [.int (iI (i))]) (wsC := [(h, .inr (0, [.ref r])), (r, .inr (5, [.ref a])), (a, fA cyI 54 c), (h2, .inr (0, [.ref r2])), (r2, .inr (5, [.ref a2])), (a2, fA cyI 54 d)]) ⟨hx, hb, hml, hown, hts⟩ (c_X0_lots l D cyI h r a c) (cwV 0 hts gX0_sameLots_X0_lots rfl rfl rfl (by decide +kernel) ⟨Nat.le_of_ble_eq_true rfl, Nat.le_of_ble_eq_true rfl⟩) hK hP hD [0, 1, 2] (by decide) rfl rfl rfl rfl hl.1 rfl (Nat.le_of_ble_eq_true rfl) dX0_sameLots_21 ⟨Nat.zero_le _, Nat.zero_le _⟩ ?_
        refine fp_iconst hx hb dX0_sameLots_24 ?_
        refine fp_imul hx hb dX0_sameLots_25 ?_
        refine fp_icmp_gt (tgt := 64) hx hb (by omega) dX0_sameLots_26 (by decide) (fun q26 => ?_) (fun q26 => ?_)
        · skip
          refine lv_iload_n hx hb dX0_sameLots_64 rfl (lv_at hl 2 rfl) ?_
          have hret : (sameI c d (c 0 * 4).toNat : Int) = x := (by rw [ix]; congr 2; omega)
          exact fp_zret hx hb hr hlocks (by first | exact Or.inl rfl | exact Or.inr rfl | exact bI_01 _ | omega) dX0_sameLots_65 (congrArg (fun z : Int => Value.int (iI z)) hret)
        · skip
          refine lv_iload_n hx hb dX0_sameLots_29 rfl (lv_at hl 2 rfl) ?_
          refine fp_if_eq (tgt := 56) hx hb (by omega) dX0_sameLots_30 (by decide) (fun q30 => ?_) (fun q30 => ?_)
          · skip
            refine fp_iconst hx hb dX0_sameLots_56 ?_
            refine lv_istore_n (lv' := [(2, .int (iI (0))), (0, .ref h), (1, .ref h2), (3, .int (iI (i)))]) hx hb dX0_sameLots_57 rfl hl (by decide) rfl (fun ls hl => ?_)
            refine fp_iinc (k := 3) (lv' := [(3, .int (iI (i + 1))), (2, .int (iI (0))), (0, .ref h), (1, .ref h2)]) hx hb dX0_sameLots_58 hl rfl (by decide) rfl (fun ls hl => ?_)
            refine lv_goto (tgt := 19) hx hb dX0_sameLots_61 (by decide) ?_
            exact ih1 0 (i + 1) (by omega) (by rw [show i + 1 - 1 = i by omega, sameI_s ik.1]; first | rw [if_pos ⟨by omega, by omega⟩] | rw [if_neg (by omega)]) (by omega) ls (lv_sub hl [2, 3, 1, 0] rfl)
          · skip
            have hx1 := (sameI_iff (f := c) (g := d) (i - 1).toNat).mp (by omega) 0 (by omega) (by omega)
            have hr1 := catR hC (j := i) (by omega)
            have hr2 := catR hC2 (j := i) (by omega)
            refine lv_aload_n hx hb dX0_sameLots_33 rfl (lv_at hl 0 rfl) ?_
            refine va_get (D := D) (ci := 0) (ws := [(h, .inr (0, [.ref r])), (r, .inr (5, [.ref a])), (a, fA cyI 54 c), (h2, .inr (0, [.ref r2])), (r2, .inr (5, [.ref a2])), (a2, fA cyI 54 d)]) (v := .ref r) (C := RX0) (T := TX0) (N := 1) hx hb hts (fun _ h => List.mem_cons_of_mem _ (List.mem_append_left _ (List.mem_append_right _ h))) hown hK.1 hP 0 rfl rfl 0 (by decide) (hts _ fl_X0_sameLots_16) (fun _ h9 => h9) rfl dX0_sameLots_34 ?_
            refine lv_iload_n hx hb dX0_sameLots_37 rfl (lv_at hl 3 rfl) ?_
            refine fp_pV (As := [.int (iI (i))]) (rest := []) (wsC := [(h, .inr (0, [.ref r])), (r, .inr (5, [.ref a])), (a, fA cyI 54 c), (h2, .inr (0, [.ref r2])), (r2, .inr (5, [.ref a2])), (a2, fA cyI 54 d)]) ⟨hx, hb, hml, hown, hts⟩ (c_X5_at l D cyI r a 54 c i (by omega) (by omega)) (cwV 1 hts gX0_sameLots_X5_at rfl rfl rfl (by decide +kernel) ⟨Nat.le_of_ble_eq_true rfl, Nat.le_of_ble_eq_true rfl⟩) hK hP hD [1, 2] (by decide) rfl rfl rfl rfl hl.1 rfl (Nat.le_of_ble_eq_true rfl) dX0_sameLots_38 ⟨Nat.zero_le _, Nat.zero_le _⟩ ?_
            refine lv_aload_n hx hb dX0_sameLots_41 rfl (lv_at hl 1 rfl) ?_
            refine va_get (D := D) (ci := 0) (ws := [(h, .inr (0, [.ref r])), (r, .inr (5, [.ref a])), (a, fA cyI 54 c), (h2, .inr (0, [.ref r2])), (r2, .inr (5, [.ref a2])), (a2, fA cyI 54 d)]) (v := .ref r2) (C := RX0) (T := TX0) (N := 1) hx hb hts (fun _ h => List.mem_cons_of_mem _ (List.mem_append_left _ (List.mem_append_right _ h))) hown hK.1 hP 3 rfl rfl 0 (by decide) (hts _ fl_X0_sameLots_16) (fun _ h9 => h9) rfl dX0_sameLots_42 ?_
            refine lv_iload_n hx hb dX0_sameLots_45 rfl (lv_at hl 3 rfl) ?_
            refine fp_pV (As := [.int (iI (i))]) (rest := [.int (iI (c i))]) (wsC := [(h, .inr (0, [.ref r])), (r, .inr (5, [.ref a])), (a, fA cyI 54 c), (h2, .inr (0, [.ref r2])), (r2, .inr (5, [.ref a2])), (a2, fA cyI 54 d)]) ⟨hx, hb, hml, hown, hts⟩ (c_X5_at l D cyI r2 a2 54 d i (by omega) (by omega)) (cwV 1 hts gX0_sameLots_X5_at rfl rfl rfl (by decide +kernel) ⟨Nat.le_of_ble_eq_true rfl, Nat.le_of_ble_eq_true rfl⟩) hK hP hD [4, 5] (by decide) rfl rfl rfl rfl hl.1 rfl (Nat.le_of_ble_eq_true rfl) dX0_sameLots_46 ⟨Nat.zero_le _, Nat.zero_le _⟩ ?_
            refine fp_icmp_ne (tgt := 56) hx hb (by omega) dX0_sameLots_49 (by decide) (fun q49 => ?_) (fun q49 => ?_)
            · skip
              refine fp_iconst hx hb dX0_sameLots_56 ?_
              refine lv_istore_n (lv' := [(2, .int (iI (0))), (0, .ref h), (1, .ref h2), (3, .int (iI (i)))]) hx hb dX0_sameLots_57 rfl hl (by decide) rfl (fun ls hl => ?_)
              refine fp_iinc (k := 3) (lv' := [(3, .int (iI (i + 1))), (2, .int (iI (0))), (0, .ref h), (1, .ref h2)]) hx hb dX0_sameLots_58 hl rfl (by decide) rfl (fun ls hl => ?_)
              refine lv_goto (tgt := 19) hx hb dX0_sameLots_61 (by decide) ?_
              exact ih1 0 (i + 1) (by omega) (by rw [show i + 1 - 1 = i by omega, sameI_s ik.1]; first | rw [if_pos ⟨by omega, by omega⟩] | rw [if_neg (by omega)]) (by omega) ls (lv_sub hl [2, 3, 1, 0] rfl)
            · skip
              refine fp_iconst hx hb dX0_sameLots_52 ?_
              refine lv_goto (tgt := 57) hx hb dX0_sameLots_53 (by decide) ?_
              refine lv_istore_n (lv' := [(2, .int (iI (1))), (0, .ref h), (1, .ref h2), (3, .int (iI (i)))]) hx hb dX0_sameLots_57 rfl hl (by decide) rfl (fun ls hl => ?_)
              refine fp_iinc (k := 3) (lv' := [(3, .int (iI (i + 1))), (2, .int (iI (1))), (0, .ref h), (1, .ref h2)]) hx hb dX0_sameLots_58 hl rfl (by decide) rfl (fun ls hl => ?_)
              refine lv_goto (tgt := 19) hx hb dX0_sameLots_61 (by decide) ?_
              exact ih1 1 (i + 1) (by omega) (by rw [show i + 1 - 1 = i by omega, sameI_s ik.1]; first | rw [if_pos ⟨by omega, by omega⟩] | rw [if_neg (by omega)]) (by omega) ls (lv_sub hl [2, 3, 1, 0] rfl)
    exact lp1 (((c 0 * 4 + 1 : Int) + 1 - (1)).toNat) x0 1 (by omega) jx (by omega) ls hl
  refine fp_icmp_ne (tgt := 15) hx hb (by omega) dX0_sameLots_8 (by decide) (fun q8 => ?_) (fun q8 => ?_)
  · skip
    refine fp_iconst hx hb dX0_sameLots_15 ?_
    exact jn0 0 (by first | rw [bI_t (by omega)] | rw [bI_f (by omega)]) ls (lv_sub hl [0, 1] rfl)
  · skip
    refine fp_iconst hx hb dX0_sameLots_11 ?_
    refine lv_goto (tgt := 16) hx hb dX0_sameLots_12 (by decide) ?_
    exact jn0 1 (by first | rw [bI_t (by omega)] | rw [bI_f (by omega)]) ls (lv_sub hl [0, 1] rfl)
