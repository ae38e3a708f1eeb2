/-! the reference's acts: what becomes of the lots -/
theorem Rows_rm {m g : Int → Int} {k i : Int} (h : RowsM m g (fun j => if k ≤ j ∧ j < i then j + 1 else j)) (hk : 0 ≤ k ∧ k ≤ i) (hi : i + 1 < 12) : RowsM m (puM g i (g (6 + (i + 1))) (g (18 + (i + 1))) (g (30 + (i + 1))) (g (42 + (i + 1)))) (fun j => if k ≤ j ∧ j < i + 1 then j + 1 else j) := by
  intro j o a1 a2 a3
  show _ = cM m ((if k ≤ j ∧ j < i + 1 then j + 1 else j) * 4 + o)
  rw [ca_row (x := i + 1) (y := i) (by omega) (by omega) ⟨a1, a2⟩ a3]
  by_cases e : j = i
  · rw [if_pos e, if_pos (by omega), h (i + 1) o (by omega) (by omega) a3]
    show cM m ((if k ≤ i + 1 ∧ i + 1 < i then i + 1 + 1 else i + 1) * 4 + o) = _
    rw [if_neg (by omega), e]
  · rw [if_neg e, h j o a1 a2 a3]
    show cM m ((if k ≤ j ∧ j < i then j + 1 else j) * 4 + o) = _
    by_cases r : k ≤ j ∧ j < i
    · rw [if_pos r, if_pos (by omega)]
    · rw [if_neg r, if_neg (by omega)]
theorem Same_rmM {m g : Int → Int} {k : Int} (hn : m 5 ≤ 12) (hk : 0 ≤ k ∧ k < m 5) (h : RowsM m g (fun j => if k ≤ j ∧ j < m 5 - 1 then j + 1 else j)) (hs : SetsM m g) (h5 : g 5 = m 5 - 1) : Same (rmC (cM m) k) (cM (puM g (m 5 - 1) 0 0 0 0)) := by
  have e0 : rmC (cM m) k 0 = m 5 - 1 := by
    unfold rmC
    rw [upI_s rfl, cM_0]
  refine Same_of (by rw [e0, pu_n (by omega) (by omega), h5]) (by rw [e0]; omega) (fun j o a1 a2 a3 => ?_) (fun j a1 a2 => ?_)
  · rw [e0] at a2
    rw [pu_row (by omega) (by omega) a3, if_neg (by omega), h j o a1 (by omega) a3]
    unfold rmC
    rw [upI_n (by omega), cM_0, sh_at (by omega) (by omega)]
    show _ = cM m ((if k ≤ j ∧ j < m 5 - 1 then j + 1 else j) * 4 + o)
    unfold movI
    rw [if_neg (by omega)]
    by_cases r : k ≤ j ∧ j < m 5 - 1
    · rw [if_pos r, if_pos r]
    · rw [if_neg r, if_neg r, if_neg (by omega)]
  · unfold rmC
    rw [upI_n (by omega), sh_n (by omega), cM_s ⟨a1, a2⟩, pu_n (by omega) (by omega), hs j a1 a2]
def mvI (a i d j : Int) : Int := if d = 1 ∧ a ≤ j ∧ j < i then j + 1 else if d = -1 ∧ i < j ∧ j ≤ a then j - 1 else j
theorem Rows_mv {m g : Int → Int} {a i d : Int} (h : RowsM m g (mvI a i d)) (hd : d = 1 ∨ d = -1) (ha : (d = 1 ∧ a ≤ i) ∨ (d = -1 ∧ i ≤ a)) (hi : 0 ≤ i ∧ i < 12) (hx : 0 ≤ i + d ∧ i + d < 12) (h0 : 0 ≤ a) : RowsM m (puM g i (g (6 + (i + d))) (g (18 + (i + d))) (g (30 + (i + d))) (g (42 + (i + d)))) (mvI a (i + d) d) := by
  intro j o a1 a2 a3
  rw [ca_row (x := i + d) (y := i) hx hi ⟨a1, a2⟩ a3]
  by_cases e : j = i
  · rw [if_pos e, h (i + d) o (by omega) (by omega) a3]
    congr 2
    unfold mvI
    rcases hd with rfl | rfl
    · rw [if_neg (by omega), if_neg (by omega), if_pos (by omega), e]
    · rw [if_neg (by omega), if_neg (by omega), if_neg (by omega), if_pos (by omega), e]
      rfl
  · rw [if_neg e, h j o a1 a2 a3]
    congr 2
    unfold mvI
    rcases hd with rfl | rfl
    · by_cases r : a ≤ j ∧ j < i
      · rw [if_pos ⟨rfl, r⟩, if_pos (by omega)]
      · rw [if_neg (by omega), if_neg (by omega), if_neg (by omega), if_neg (by omega)]
    · by_cases r : i < j ∧ j ≤ a
      · rw [if_neg (by omega), if_pos ⟨rfl, r⟩, if_neg (by omega), if_pos (by omega)]
      · rw [if_neg (by omega), if_neg (by omega), if_neg (by omega), if_neg (by omega)]
theorem Same_mvM {m g : Int → Int} {a b d : Int} (hn : m 5 ≤ 12) (ha : 0 ≤ a ∧ a < m 5) (hb : 0 ≤ b ∧ b < m 5) (hd : d = if a < b then 1 else -1) (h : RowsM m g (mvI a b d)) (hs : SetsM m g) (h5 : g 5 = m 5) : Same (shL (cM m) a b) (cM (puM g b (m (6 + a)) (m (18 + a)) (m (30 + a)) (m (42 + a)))) := by
  have e0 : shL (cM m) a b 0 = m 5 := by rw [sh_n (by omega), cM_0]
  refine Same_of (by rw [e0, pu_n (by omega) (by omega), h5]) (by rw [e0]; omega) (fun j o a1 a2 a3 => ?_) (fun j a1 a2 => ?_)
  · rw [e0] at a2
    rw [sh_at (by omega) (by omega), pu_row (by omega) (by omega) a3]
    unfold movI
    by_cases e : j = b
    · rw [if_pos e, if_pos e]
      rcases a3 with rfl | rfl | rfl | rfl
      · rw [if_pos rfl, cM_t (by omega)]
      · rw [if_neg (by omega), if_pos rfl, cM_p (by omega)]
      · rw [if_neg (by omega), if_neg (by omega), if_pos rfl, cM_b (by omega)]
      · rw [if_neg (by omega), if_neg (by omega), if_neg (by omega), cM_q (by omega)]
    · rw [if_neg e, if_neg e, h j o a1 (by omega) a3]
      congr 2
      unfold mvI
      by_cases r : a < b
      · rw [if_pos r] at hd
        by_cases s : a ≤ j ∧ j < b
        · rw [if_pos s, if_pos ⟨hd, s⟩]
        · rw [if_neg s, if_neg (by omega), if_neg (by omega), if_neg (by omega)]
      · rw [if_neg r] at hd
        rw [if_neg (c := a ≤ j ∧ j < b) (by omega), if_neg (c := d = 1 ∧ a ≤ j ∧ j < b) (by omega)]
        by_cases s : b < j ∧ j ≤ a
        · rw [if_pos s, if_pos ⟨hd, s⟩]
        · rw [if_neg s, if_neg (by omega)]
  · rw [sh_n (by omega), cM_s ⟨a1, a2⟩, pu_n (by omega) (by omega), hs j a1 a2]
theorem Same_chM {m : Int → Int} {k t p : Int} (hn : m 5 ≤ 12) (hk : 0 ≤ k ∧ k < 12) : Same (chC (cM m) k t p) (cM (puM m k t p (m (30 + k)) (if p = 0 then 0 else min (m (42 + k)) t))) := by
  unfold chC
  rw [cM_b hk, cM_q hk]
  exact Same_pu hk hn
theorem Same_se {m : Int → Int} {w v : Int} (hn : m 5 ≤ 12) (hw : 0 ≤ w ∧ w ≤ 4) : Same (upI (cM m) (49 + w) v) (cM (upI m w v)) := by
  refine Same_of (by rw [upI_n (by omega), cM_0, upI_n (by omega)]) (by rw [upI_n (by omega), cM_0]; exact hn) (fun j o a1 a2 a3 => ?_) (fun j a1 a2 => ?_)
  · rw [upI_n (by omega), cM_0] at a2
    rw [upI_n (by omega), up_row (by omega) a3 (by omega)]
  · by_cases e : j = w
    · rw [upI_s (by omega), upI_s e]
    · rw [upI_n (by omega), upI_n e, cM_s ⟨a1, a2⟩]
theorem ck_X8_add_143 : Cond.constantLong RX8 143 (2) ∈ wsX8_add := by decide +kernel
theorem fl_X8_add_7 : Cond.fieldLink RX8 7 "FacingPlatesModel" "all" "[I" ∈ wsX8_add := by decide +kernel
set_option maxHeartbeats 4000000 in
set_option maxRecDepth 100000 in
theorem c_X8_add (l : Launch) (D : va_G) (cyI : ClassId) (v : Nat) (a0 : Nat) (a1 : Nat) (a2 : Nat) (a3 : Nat) (e4 : Int) (a5 : Nat) (e6 : Int) (a7 : Nat) (e8 : Int) (e9 : Int) (e10 : Int) (a11 : Nat) (e12 : Int) (e13 : Int) (e14 : Int) (a15 : Nat) (m : Int → Int) (kc : Int → Int) (d : Int → Int) (t : Int) (p : Int) (hC : CatOK (cM m)) (he4 : 0 ≤ e4 ∧ e4 ≤ 4) (ht9 : -2147483648 ≤ t ∧ t ≤ 2147483647) (hp9 : -2147483648 ≤ p ∧ p ≤ 2147483647) : fp_MW l yX8_add wsX8_add ({ frames := 2, cells := 0, slots := 0, locals := 45 } : Room) D cyI [(v, .inr (8, [.ref a0, .ref a1, .ref a2, .ref a3, .int (iI (e4)), .ref a5, .int (iI (e6)), .ref a7, .int (iI (e8)), .int (iI (e9)), .int (iI (e10)), .ref a11, .int (iI (e12)), .int (iI (e13)), .int (iI (e14)), .ref a15])), (a0, fA cyI 54 m), (a1, fA cyI 54 kc), (a3, fA cyI 216 d)] [.ref v, .int (iI (t)), .int (iI (p))] (fun (u9 : (Int → Int) × (Int → Int)) => (Same (if 0 ≤ adR (cM m) t p then appL (cM m) t p 0 0 else cM m) (cM u9.1))) (fun (u9 : (Int → Int) × (Int → Int)) => some (.int (iI (adR (cM m) t p)))) (fun (u9 : (Int → Int) × (Int → Int)) => [(v, .inr (8, [.ref a0, .ref a1, .ref a2, .ref a3, .int (iI (if 0 ≤ adR (cM m) t p then recN e4 else e4)), .ref a5, .int (iI (e6)), .ref a7, .int (iI (e8)), .int (iI (e9)), .int (iI (e10)), .ref a11, .int (iI (e12)), .int (iI (e13)), .int (iI (e14)), .ref a15])), (a0, fA cyI 54 u9.1), (a1, fA cyI 54 u9.2), (a3, fA cyI 216 (if 0 ≤ adR (cM m) t p then recH d m e4 else d))]) := by
  refine fp_start (cc := cX8_add) (maxL := 3) (ret := (some .int)) (by decide) rfl (Nat.le_of_ble_eq_true rfl) ?_
  intro pg en sx mi ar bl mt cd ls hx hb hr hts hown hlocks hml hnm hP hK hD hl
  have hown : sx.vm.findClass RX8 = some mi.cls := hown
  have hl : lv_has ls 3 [(0, .ref v), (1, .int (iI (t))), (2, .int (iI (p)))] := hl
  have hD := fp_self hD
  have hS : va_S (fp_A [(v, .inr (8, [.ref a0, .ref a1, .ref a2, .ref a3, .int (iI (e4)), .ref a5, .int (iI (e6)), .ref a7, .int (iI (e8)), .int (iI (e9)), .int (iI (e10)), .ref a11, .int (iI (e12)), .int (iI (e13)), .int (iI (e14)), .ref a15])), (a0, fA cyI 54 m), (a1, fA cyI 54 kc), (a3, fA cyI 216 d)]) sx.heap sx.heap [] := va_S.rf
  have hN := hC.1
  rw [cM_0] at hN
  have e0 : cM m 0 = m 5 := cM_0 m
  refine lv_iload_n hx hb dX8_add_0 rfl (lv_at hl 1 rfl) ?_
  refine fp_pS (As := [.int (iI (t))]) (rest := []) (wsC := [(v, .inr (8, [.ref a0, .ref a1, .ref a2, .ref a3, .int (iI (e4)), .ref a5, .int (iI (e6)), .ref a7, .int (iI (e8)), .int (iI (e9)), .int (iI (e10)), .ref a11, .int (iI (e12)), .int (iI (e13)), .int (iI (e14)), .ref a15])), (a0, fA cyI 54 m), (a1, fA cyI 54 kc), (a3, fA cyI 216 d)]) ⟨hx, hb, hml, hown, hts⟩ (c_X8_isText l D cyI t ht9) (va_cwS 1 hts gX8_add_X8_isText rfl rfl rfl (by decide +kernel) ⟨Nat.le_of_ble_eq_true rfl, Nat.le_of_ble_eq_true rfl⟩) hK hP hD [] (by decide) rfl rfl hl.1 rfl (Nat.le_of_ble_eq_true rfl) dX8_add_1 ⟨Nat.zero_le _, Nat.zero_le _⟩ ?_
  refine fp_if_eq (tgt := 19) hx hb (bI_r32 _) dX8_add_4 (by decide) (fun q4 => ?_) (fun q4 => ?_)
  · skip
    have w4 := bI_e q4
    refine fp_bipush hx hb dX8_add_19 (by decide) ?_
    have hR : adR (cM m) t p = (-2) := by unfold adR; repeat (first | rw [if_pos (by omega)] | rw [if_neg (by omega)]); try (first | rfl | omega)
    have hP : va_P D vwCl [(v, .inr (8, [.ref a0, .ref a1, .ref a2, .ref a3, .int (iI (if 0 ≤ adR (cM m) t p then recN e4 else e4)), .ref a5, .int (iI (e6)), .ref a7, .int (iI (e8)), .int (iI (e9)), .int (iI (e10)), .ref a11, .int (iI (e12)), .int (iI (e13)), .int (iI (e14)), .ref a15])), (a0, fA cyI 54 m), (a1, fA cyI 54 kc), (a3, fA cyI 216 (if 0 ≤ adR (cM m) t p then recH d m e4 else d))] sx.heap := by
      rw [(show (d : Int → Int) = if 0 ≤ adR (cM m) t p then recH d m e4 else d from (by first | rw [if_pos (by omega)] | rw [if_neg (by omega)])).symm]
      rw [(show (e4 : Int) = if 0 ≤ adR (cM m) t p then recN e4 else e4 from (by first | rw [if_pos (by omega)] | rw [if_neg (by omega)])).symm]
      exact hP
    have hret : (adR (cM m) t p : Int) = (-2) := (by exact hR)
    exact fp_wret (m, kc) hx hb hr hlocks hS (by dsimp only; exact hP) (by rw [if_neg (by omega)]; exact Same_rf _) (congrArg (fun z : Int => some (Value.int (iI z))) hret) dX8_add_21
  · skip
    have w4 := bI_ne q4
    refine lv_iload_n hx hb dX8_add_7 rfl (lv_at hl 2 rfl) ?_
    refine fp_i2l hx hb (by omega) dX8_add_8 ?_
    refine fp_lconst hx hb 0 dX8_add_9 rfl ?_
    refine fp_ldc2 hx hb (2) rfl hown (hts _ ck_X8_add_143) dX8_add_10 ?_
    refine fp_pS (As := [.long (lI (p)), .long (lI (0)), .long (lI (2))]) (rest := []) (wsC := [(v, .inr (8, [.ref a0, .ref a1, .ref a2, .ref a3, .int (iI (e4)), .ref a5, .int (iI (e6)), .ref a7, .int (iI (e8)), .int (iI (e9)), .int (iI (e10)), .ref a11, .int (iI (e12)), .int (iI (e13)), .int (iI (e14)), .ref a15])), (a0, fA cyI 54 m), (a1, fA cyI 54 kc), (a3, fA cyI 216 d)]) ⟨hx, hb, hml, hown, hts⟩ (c_X8_in l D cyI p 0 2 (by omega)) (va_cwS 3 hts gX8_add_X8_in rfl rfl rfl (by decide +kernel) ⟨Nat.le_of_ble_eq_true rfl, Nat.le_of_ble_eq_true rfl⟩) hK hP hD [] (by decide) rfl rfl hl.1 rfl (Nat.le_of_ble_eq_true rfl) dX8_add_13 ⟨Nat.zero_le _, Nat.zero_le _⟩ ?_
    refine fp_if_ne (tgt := 22) hx hb (bI_r32 _) dX8_add_16 (by decide) (fun q16 => ?_) (fun q16 => ?_)
    · skip
      have w16 := bI_ne q16
      refine lv_aload_n hx hb dX8_add_22 rfl (lv_at hl 0 rfl) ?_
      refine va_get (D := D) (ci := 8) (ws := [(v, .inr (8, [.ref a0, .ref a1, .ref a2, .ref a3, .int (iI (e4)), .ref a5, .int (iI (e6)), .ref a7, .int (iI (e8)), .int (iI (e9)), .int (iI (e10)), .ref a11, .int (iI (e12)), .int (iI (e13)), .int (iI (e14)), .ref a15])), (a0, fA cyI 54 m), (a1, fA cyI 54 kc), (a3, fA cyI 216 d)]) (v := .ref a0) (C := RX8) (T := TX8) (N := 16) hx hb hts (fun _ h => List.mem_cons_of_mem _ (List.mem_append_right _ h)) hown hK.1 hP 0 rfl rfl 0 (by decide) (hts _ fl_X8_add_7) (fun _ h9 => h9) rfl dX8_add_23 ?_
      refine fp_iconst hx hb dX8_add_26 ?_
      refine fp_iald (wsC := [(v, .inr (8, [.ref a0, .ref a1, .ref a2, .ref a3, .int (iI (e4)), .ref a5, .int (iI (e6)), .ref a7, .int (iI (e8)), .int (iI (e9)), .int (iI (e10)), .ref a11, .int (iI (e12)), .int (iI (e13)), .int (iI (e14)), .ref a15])), (a0, fA cyI 54 m), (a1, fA cyI 54 kc), (a3, fA cyI 216 d)]) hx hb hK hP 1 rfl (by omega) (by decide) dX8_add_27 ?_
      refine fp_bipush hx hb dX8_add_28 (by decide) ?_
      refine fp_icmp_ne (tgt := 36) hx hb (by omega) dX8_add_30 (by decide) (fun q30 => ?_) (fun q30 => ?_)
      · skip
        refine lv_aload_n hx hb dX8_add_36 rfl (lv_at hl 0 rfl) ?_
        refine fp_wV (As := []) (rest := []) (wsC := [(v, .inr (8, [.ref a0, .ref a1, .ref a2, .ref a3, .int (iI (e4)), .ref a5, .int (iI (e6)), .ref a7, .int (iI (e8)), .int (iI (e9)), .int (iI (e10)), .ref a11, .int (iI (e12)), .int (iI (e13)), .int (iI (e14)), .ref a15])), (a0, fA cyI 54 m), (a1, fA cyI 54 kc), (a3, fA cyI 216 d)]) ⟨hx, hb, hml, hown, hts⟩ (c_X8_remember l D cyI v a0 a1 a2 a3 e4 a5 e6 a7 e8 e9 e10 a11 e12 e13 e14 a15 m kc) (cwV 0 hts gX8_add_X8_remember rfl rfl rfl (by decide +kernel) ⟨Nat.le_of_ble_eq_true rfl, Nat.le_of_ble_eq_true rfl⟩) (fun _ => rfl) hK hP hD hS [0, 1, 2] (by decide) rfl rfl rfl rfl hl.1 rfl (Nat.le_of_ble_eq_true rfl) dX8_add_37 ⟨Nat.zero_le _, Nat.zero_le _⟩ (fun u9v H locs hu hP hD hS => ?_)
        refine W.eq (g2 := F0 mi 40 ls []) rfl ?_
        have hP : va_P D vwCl [(v, .inr (8, [.ref a0, .ref a1, .ref a2, .ref a3, .int (iI (e4)), .ref a5, .int (iI (e6)), .ref a7, .int (iI (e8)), .int (iI (e9)), .int (iI (e10)), .ref a11, .int (iI (e12)), .int (iI (e13)), .int (iI (e14)), .ref a15])), (a0, fA cyI 54 m), (a1, fA cyI 54 m), (a3, fA cyI 216 d)] H := hP
        have hD : va_D (fp_A [(v, .inr (8, [.ref a0, .ref a1, .ref a2, .ref a3, .int (iI (e4)), .ref a5, .int (iI (e6)), .ref a7, .int (iI (e8)), .int (iI (e9)), .int (iI (e10)), .ref a11, .int (iI (e12)), .int (iI (e13)), .int (iI (e14)), .ref a15])), (a0, fA cyI 54 m), (a1, fA cyI 54 kc), (a3, fA cyI 216 d)]) [(v, .inr (8, [.ref a0, .ref a1, .ref a2, .ref a3, .int (iI (e4)), .ref a5, .int (iI (e6)), .ref a7, .int (iI (e8)), .int (iI (e9)), .int (iI (e10)), .ref a11, .int (iI (e12)), .int (iI (e13)), .int (iI (e14)), .ref a15])), (a0, fA cyI 54 m), (a1, fA cyI 54 m), (a3, fA cyI 216 d)] := hD
        refine lv_aload_n hx hb dX8_add_40 rfl (lv_at hl 0 rfl) ?_
        refine lv_aload_n hx hb dX8_add_41 rfl (lv_at hl 0 rfl) ?_
        refine va_get (D := D) (ci := 8) (ws := [(v, .inr (8, [.ref a0, .ref a1, .ref a2, .ref a3, .int (iI (e4)), .ref a5, .int (iI (e6)), .ref a7, .int (iI (e8)), .int (iI (e9)), .int (iI (e10)), .ref a11, .int (iI (e12)), .int (iI (e13)), .int (iI (e14)), .ref a15])), (a0, fA cyI 54 m), (a1, fA cyI 54 m), (a3, fA cyI 216 d)]) (v := .ref a0) (C := RX8) (T := TX8) (N := 16) hx hb hts (fun _ h => List.mem_cons_of_mem _ (List.mem_append_right _ h)) hown hK.1 hP 0 rfl rfl 0 (by decide) (hts _ fl_X8_add_7) (fun _ h9 => h9) rfl dX8_add_42 ?_
        refine fp_iconst hx hb dX8_add_45 ?_
        refine fp_iald (wsC := [(v, .inr (8, [.ref a0, .ref a1, .ref a2, .ref a3, .int (iI (e4)), .ref a5, .int (iI (e6)), .ref a7, .int (iI (e8)), .int (iI (e9)), .int (iI (e10)), .ref a11, .int (iI (e12)), .int (iI (e13)), .int (iI (e14)), .ref a15])), (a0, fA cyI 54 m), (a1, fA cyI 54 m), (a3, fA cyI 216 d)]) hx hb hK hP 1 rfl (by omega) (by decide) dX8_add_46 ?_
        refine lv_iload_n hx hb dX8_add_47 rfl (lv_at hl 1 rfl) ?_
        refine lv_iload_n hx hb dX8_add_48 rfl (lv_at hl 2 rfl) ?_
        refine fp_iconst hx hb dX8_add_49 ?_
        refine fp_iconst hx hb dX8_add_50 ?_
        refine fp_wV (As := [.int (iI (m 5)), .int (iI (t)), .int (iI (p)), .int (iI (0)), .int (iI (0))]) (rest := []) (wsC := [(v, .inr (8, [.ref a0, .ref a1, .ref a2, .ref a3, .int (iI (e4)), .ref a5, .int (iI (e6)), .ref a7, .int (iI (e8)), .int (iI (e9)), .int (iI (e10)), .ref a11, .int (iI (e12)), .int (iI (e13)), .int (iI (e14)), .ref a15])), (a0, fA cyI 54 m), (a1, fA cyI 54 m), (a3, fA cyI 216 d)]) ⟨hx, hb, hml, hown, hts⟩ (c_X8_puts l D cyI v a0 a1 a2 a3 e4 a5 e6 a7 e8 e9 e10 a11 e12 e13 e14 a15 m (m 5) t p 0 0 (by omega)) (cwV 5 hts gX8_add_X8_puts rfl rfl rfl (by decide +kernel) ⟨Nat.le_of_ble_eq_true rfl, Nat.le_of_ble_eq_true rfl⟩) (fun _ => rfl) hK hP hD hS [0, 1] (by decide) rfl rfl rfl rfl hl.1 rfl (Nat.le_of_ble_eq_true rfl) dX8_add_51 ⟨Nat.zero_le _, Nat.zero_le _⟩ (fun u9v H locs hu hP hD hS => ?_)
        refine W.eq (g2 := F0 mi 54 ls []) rfl ?_
        have hP : va_P D vwCl [(v, .inr (8, [.ref a0, .ref a1, .ref a2, .ref a3, .int (iI (e4)), .ref a5, .int (iI (e6)), .ref a7, .int (iI (e8)), .int (iI (e9)), .int (iI (e10)), .ref a11, .int (iI (e12)), .int (iI (e13)), .int (iI (e14)), .ref a15])), (a0, fA cyI 54 (puM m (m 5) t p 0 0)), (a1, fA cyI 54 m), (a3, fA cyI 216 d)] H := hP
        have hD : va_D (fp_A [(v, .inr (8, [.ref a0, .ref a1, .ref a2, .ref a3, .int (iI (e4)), .ref a5, .int (iI (e6)), .ref a7, .int (iI (e8)), .int (iI (e9)), .int (iI (e10)), .ref a11, .int (iI (e12)), .int (iI (e13)), .int (iI (e14)), .ref a15])), (a0, fA cyI 54 m), (a1, fA cyI 54 kc), (a3, fA cyI 216 d)]) [(v, .inr (8, [.ref a0, .ref a1, .ref a2, .ref a3, .int (iI (e4)), .ref a5, .int (iI (e6)), .ref a7, .int (iI (e8)), .int (iI (e9)), .int (iI (e10)), .ref a11, .int (iI (e12)), .int (iI (e13)), .int (iI (e14)), .ref a15])), (a0, fA cyI 54 (puM m (m 5) t p 0 0)), (a1, fA cyI 54 m), (a3, fA cyI 216 d)] := hD
        refine lv_aload_n hx hb dX8_add_54 rfl (lv_at hl 0 rfl) ?_
        refine va_get (D := D) (ci := 8) (ws := [(v, .inr (8, [.ref a0, .ref a1, .ref a2, .ref a3, .int (iI (e4)), .ref a5, .int (iI (e6)), .ref a7, .int (iI (e8)), .int (iI (e9)), .int (iI (e10)), .ref a11, .int (iI (e12)), .int (iI (e13)), .int (iI (e14)), .ref a15])), (a0, fA cyI 54 (puM m (m 5) t p 0 0)), (a1, fA cyI 54 m), (a3, fA cyI 216 d)]) (v := .ref a0) (C := RX8) (T := TX8) (N := 16) hx hb hts (fun _ h => List.mem_cons_of_mem _ (List.mem_append_right _ h)) hown hK.1 hP 0 rfl rfl 0 (by decide) (hts _ fl_X8_add_7) (fun _ h9 => h9) rfl dX8_add_55 ?_
        refine fp_iconst hx hb dX8_add_58 ?_
        refine lv_dup2_11 hx hb dX8_add_59 rfl rfl ?_
        refine fp_iald (wsC := [(v, .inr (8, [.ref a0, .ref a1, .ref a2, .ref a3, .int (iI (e4)), .ref a5, .int (iI (e6)), .ref a7, .int (iI (e8)), .int (iI (e9)), .int (iI (e10)), .ref a11, .int (iI (e12)), .int (iI (e13)), .int (iI (e14)), .ref a15])), (a0, fA cyI 54 (puM m (m 5) t p 0 0)), (a1, fA cyI 54 m), (a3, fA cyI 216 d)]) hx hb hK hP 1 rfl (by omega) (by decide) dX8_add_60 ?_
        rw [show ((puM m (m 5) t p 0 0) 5 : Int) = m 5 from (pu_n (by omega) (by omega))]
        refine fp_iconst hx hb dX8_add_61 ?_
        refine fp_iadd hx hb dX8_add_62 ?_
        refine fp_iast (wsC := [(v, .inr (8, [.ref a0, .ref a1, .ref a2, .ref a3, .int (iI (e4)), .ref a5, .int (iI (e6)), .ref a7, .int (iI (e8)), .int (iI (e9)), .int (iI (e10)), .ref a11, .int (iI (e12)), .int (iI (e13)), .int (iI (e14)), .ref a15])), (a0, fA cyI 54 (puM m (m 5) t p 0 0)), (a1, fA cyI 54 m), (a3, fA cyI 216 d)]) hx hb hK hP hD hS 1 rfl (by omega) (by decide) dX8_add_63 (fun H locs hP hD hS => ?_)
        have hP : va_P D vwCl [(v, .inr (8, [.ref a0, .ref a1, .ref a2, .ref a3, .int (iI (e4)), .ref a5, .int (iI (e6)), .ref a7, .int (iI (e8)), .int (iI (e9)), .int (iI (e10)), .ref a11, .int (iI (e12)), .int (iI (e13)), .int (iI (e14)), .ref a15])), (a0, fA cyI 54 (upI (puM m (m 5) t p 0 0) (5) ((m 5) + 1))), (a1, fA cyI 54 m), (a3, fA cyI 216 d)] H := hP
        have hD : va_D (fp_A [(v, .inr (8, [.ref a0, .ref a1, .ref a2, .ref a3, .int (iI (e4)), .ref a5, .int (iI (e6)), .ref a7, .int (iI (e8)), .int (iI (e9)), .int (iI (e10)), .ref a11, .int (iI (e12)), .int (iI (e13)), .int (iI (e14)), .ref a15])), (a0, fA cyI 54 m), (a1, fA cyI 54 kc), (a3, fA cyI 216 d)]) [(v, .inr (8, [.ref a0, .ref a1, .ref a2, .ref a3, .int (iI (e4)), .ref a5, .int (iI (e6)), .ref a7, .int (iI (e8)), .int (iI (e9)), .int (iI (e10)), .ref a11, .int (iI (e12)), .int (iI (e13)), .int (iI (e14)), .ref a15])), (a0, fA cyI 54 (upI (puM m (m 5) t p 0 0) (5) ((m 5) + 1))), (a1, fA cyI 54 m), (a3, fA cyI 216 d)] := hD
        refine lv_aload_n hx hb dX8_add_64 rfl (lv_at hl 0 rfl) ?_
        refine lv_aload_n hx hb dX8_add_65 rfl (lv_at hl 0 rfl) ?_
        refine va_get (D := D) (ci := 8) (ws := [(v, .inr (8, [.ref a0, .ref a1, .ref a2, .ref a3, .int (iI (e4)), .ref a5, .int (iI (e6)), .ref a7, .int (iI (e8)), .int (iI (e9)), .int (iI (e10)), .ref a11, .int (iI (e12)), .int (iI (e13)), .int (iI (e14)), .ref a15])), (a0, fA cyI 54 (upI (puM m (m 5) t p 0 0) (5) ((m 5) + 1))), (a1, fA cyI 54 m), (a3, fA cyI 216 d)]) (v := .ref a0) (C := RX8) (T := TX8) (N := 16) hx hb hts (fun _ h => List.mem_cons_of_mem _ (List.mem_append_right _ h)) hown hK.1 hP 0 rfl rfl 0 (by decide) (hts _ fl_X8_add_7) (fun _ h9 => h9) rfl dX8_add_66 ?_
        refine fp_iconst hx hb dX8_add_69 ?_
        refine fp_iald (wsC := [(v, .inr (8, [.ref a0, .ref a1, .ref a2, .ref a3, .int (iI (e4)), .ref a5, .int (iI (e6)), .ref a7, .int (iI (e8)), .int (iI (e9)), .int (iI (e10)), .ref a11, .int (iI (e12)), .int (iI (e13)), .int (iI (e14)), .ref a15])), (a0, fA cyI 54 (upI (puM m (m 5) t p 0 0) (5) ((m 5) + 1))), (a1, fA cyI 54 m), (a3, fA cyI 216 d)]) hx hb hK hP 1 rfl (by omega) (by decide) dX8_add_70 ?_
        rw [show ((upI (puM m (m 5) t p 0 0) (5) ((m 5) + 1)) 5 : Int) = m 5 + 1 from (upI_s rfl)]
        refine fp_iconst hx hb dX8_add_71 ?_
        refine fp_isub hx hb dX8_add_72 ?_
        refine fp_wV (As := [.int (iI ((m 5 + 1) - 1))]) (rest := []) (wsC := [(v, .inr (8, [.ref a0, .ref a1, .ref a2, .ref a3, .int (iI (e4)), .ref a5, .int (iI (e6)), .ref a7, .int (iI (e8)), .int (iI (e9)), .int (iI (e10)), .ref a11, .int (iI (e12)), .int (iI (e13)), .int (iI (e14)), .ref a15])), (a0, fA cyI 54 (upI (puM m (m 5) t p 0 0) (5) ((m 5) + 1))), (a1, fA cyI 54 m), (a3, fA cyI 216 d)]) ⟨hx, hb, hml, hown, hts⟩ (c_X8_acted l D cyI v a0 a1 a2 a3 e4 a5 e6 a7 e8 e9 e10 a11 e12 e13 e14 a15 m d ((m 5 + 1) - 1) (by omega)) (cwV 1 hts gX8_add_X8_acted rfl rfl rfl (by decide +kernel) ⟨Nat.le_of_ble_eq_true rfl, Nat.le_of_ble_eq_true rfl⟩) (fun _ => rfl) hK hP hD hS [0, 2, 3] (by decide) rfl rfl rfl rfl hl.1 rfl (Nat.le_of_ble_eq_true rfl) dX8_add_73 ⟨Nat.zero_le _, Nat.zero_le _⟩ (fun u9v H locs hu hP hD hS => ?_)
        refine W.eq (g2 := F0 mi 76 ls [.int (iI (((m 5 + 1) - 1)))]) rfl ?_
        have hP : va_P D vwCl [(v, .inr (8, [.ref a0, .ref a1, .ref a2, .ref a3, .int (iI (recN e4)), .ref a5, .int (iI (e6)), .ref a7, .int (iI (e8)), .int (iI (e9)), .int (iI (e10)), .ref a11, .int (iI (e12)), .int (iI (e13)), .int (iI (e14)), .ref a15])), (a0, fA cyI 54 (upI (puM m (m 5) t p 0 0) (5) ((m 5) + 1))), (a1, fA cyI 54 m), (a3, fA cyI 216 (recH d m e4))] H := hP
        have hD : va_D (fp_A [(v, .inr (8, [.ref a0, .ref a1, .ref a2, .ref a3, .int (iI (e4)), .ref a5, .int (iI (e6)), .ref a7, .int (iI (e8)), .int (iI (e9)), .int (iI (e10)), .ref a11, .int (iI (e12)), .int (iI (e13)), .int (iI (e14)), .ref a15])), (a0, fA cyI 54 m), (a1, fA cyI 54 kc), (a3, fA cyI 216 d)]) [(v, .inr (8, [.ref a0, .ref a1, .ref a2, .ref a3, .int (iI (recN e4)), .ref a5, .int (iI (e6)), .ref a7, .int (iI (e8)), .int (iI (e9)), .int (iI (e10)), .ref a11, .int (iI (e12)), .int (iI (e13)), .int (iI (e14)), .ref a15])), (a0, fA cyI 54 (upI (puM m (m 5) t p 0 0) (5) ((m 5) + 1))), (a1, fA cyI 54 m), (a3, fA cyI 216 (recH d m e4))] := hD
        have hsm := Same_apM (m := m) (t := t) (p := p) (b := 0) (q := 0) (by omega)
        have hR : adR (cM m) t p = ((m 5 + 1) - 1) := by unfold adR; repeat (first | rw [if_pos (by omega)] | rw [if_neg (by omega)]); try (first | rfl | omega)
        have hP : va_P D vwCl [(v, .inr (8, [.ref a0, .ref a1, .ref a2, .ref a3, .int (iI (if 0 ≤ adR (cM m) t p then recN e4 else e4)), .ref a5, .int (iI (e6)), .ref a7, .int (iI (e8)), .int (iI (e9)), .int (iI (e10)), .ref a11, .int (iI (e12)), .int (iI (e13)), .int (iI (e14)), .ref a15])), (a0, fA cyI 54 (upI (puM m (m 5) t p 0 0) (5) ((m 5) + 1))), (a1, fA cyI 54 m), (a3, fA cyI 216 (if 0 ≤ adR (cM m) t p then recH d m e4 else d))] H := by
          rw [(show (recH d m e4 : Int → Int) = if 0 ≤ adR (cM m) t p then recH d m e4 else d from (by first | rw [if_pos (by omega)] | rw [if_neg (by omega)])).symm]
          rw [(show (recN e4 : Int) = if 0 ≤ adR (cM m) t p then recN e4 else e4 from (by first | rw [if_pos (by omega)] | rw [if_neg (by omega)])).symm]
          exact hP
        have hret : (adR (cM m) t p : Int) = ((m 5 + 1) - 1) := (by exact hR)
        exact fp_wret (upI (puM m (m 5) t p 0 0) (5) ((m 5) + 1), m) hx hb hr hlocks hS (by dsimp only; exact hP) (by rw [if_pos (by omega)]; exact hsm) (congrArg (fun z : Int => some (Value.int (iI z))) hret) dX8_add_76
      · skip
        refine fp_bipush hx hb dX8_add_33 (by decide) ?_
        have hR : adR (cM m) t p = (-3) := by unfold adR; repeat (first | rw [if_pos (by omega)] | rw [if_neg (by omega)]); try (first | rfl | omega)
        have hP : va_P D vwCl [(v, .inr (8, [.ref a0, .ref a1, .ref a2, .ref a3, .int (iI (if 0 ≤ adR (cM m) t p then recN e4 else e4)), .ref a5, .int (iI (e6)), .ref a7, .int (iI (e8)), .int (iI (e9)), .int (iI (e10)), .ref a11, .int (iI (e12)), .int (iI (e13)), .int (iI (e14)), .ref a15])), (a0, fA cyI 54 m), (a1, fA cyI 54 kc), (a3, fA cyI 216 (if 0 ≤ adR (cM m) t p then recH d m e4 else d))] sx.heap := by
          rw [(show (d : Int → Int) = if 0 ≤ adR (cM m) t p then recH d m e4 else d from (by first | rw [if_pos (by omega)] | rw [if_neg (by omega)])).symm]
          rw [(show (e4 : Int) = if 0 ≤ adR (cM m) t p then recN e4 else e4 from (by first | rw [if_pos (by omega)] | rw [if_neg (by omega)])).symm]
          exact hP
        have hret : (adR (cM m) t p : Int) = (-3) := (by exact hR)
        exact fp_wret (m, kc) hx hb hr hlocks hS (by dsimp only; exact hP) (by rw [if_neg (by omega)]; exact Same_rf _) (congrArg (fun z : Int => some (Value.int (iI z))) hret) dX8_add_35
    · skip
      have w16 := bI_e q16
      refine fp_bipush hx hb dX8_add_19 (by decide) ?_
      have hR : adR (cM m) t p = (-2) := by unfold adR; repeat (first | rw [if_pos (by omega)] | rw [if_neg (by omega)]); try (first | rfl | omega)
      have hP : va_P D vwCl [(v, .inr (8, [.ref a0, .ref a1, .ref a2, .ref a3, .int (iI (if 0 ≤ adR (cM m) t p then recN e4 else e4)), .ref a5, .int (iI (e6)), .ref a7, .int (iI (e8)), .int (iI (e9)), .int (iI (e10)), .ref a11, .int (iI (e12)), .int (iI (e13)), .int (iI (e14)), .ref a15])), (a0, fA cyI 54 m), (a1, fA cyI 54 kc), (a3, fA cyI 216 (if 0 ≤ adR (cM m) t p then recH d m e4 else d))] sx.heap := by
        rw [(show (d : Int → Int) = if 0 ≤ adR (cM m) t p then recH d m e4 else d from (by first | rw [if_pos (by omega)] | rw [if_neg (by omega)])).symm]
        rw [(show (e4 : Int) = if 0 ≤ adR (cM m) t p then recN e4 else e4 from (by first | rw [if_pos (by omega)] | rw [if_neg (by omega)])).symm]
        exact hP
      have hret : (adR (cM m) t p : Int) = (-2) := (by exact hR)
      exact fp_wret (m, kc) hx hb hr hlocks hS (by dsimp only; exact hP) (by rw [if_neg (by omega)]; exact Same_rf _) (congrArg (fun z : Int => some (Value.int (iI z))) hret) dX8_add_21
theorem fl_X8_carries_7 : Cond.fieldLink RX8 7 "FacingPlatesModel" "all" "[I" ∈ wsX8_carries := by decide +kernel
set_option maxHeartbeats 4000000 in
set_option maxRecDepth 100000 in
theorem c_X8_carries (l : Launch) (D : va_G) (cyI : ClassId) (v : Nat) (a0 : Nat) (a1 : Nat) (a2 : Nat) (a3 : Nat) (e4 : Int) (a5 : Nat) (e6 : Int) (a7 : Nat) (e8 : Int) (e9 : Int) (e10 : Int) (a11 : Nat) (e12 : Int) (e13 : Int) (e14 : Int) (a15 : Nat) (m : Int → Int) (x : Int) (y : Int) (hx9 : 0 ≤ x ∧ x < 12) (hy9 : 0 ≤ y ∧ y < 12) : fp_MW l yX8_carries wsX8_carries ({ frames := 1, cells := 0, slots := 0, locals := 25 } : Room) D cyI [(v, .inr (8, [.ref a0, .ref a1, .ref a2, .ref a3, .int (iI (e4)), .ref a5, .int (iI (e6)), .ref a7, .int (iI (e8)), .int (iI (e9)), .int (iI (e10)), .ref a11, .int (iI (e12)), .int (iI (e13)), .int (iI (e14)), .ref a15])), (a0, fA cyI 54 m)] [.ref v, .int (iI (x)), .int (iI (y))] (fun (u9 : Unit) => True) (fun (u9 : Unit) => none) (fun (u9 : Unit) => [(v, .inr (8, [.ref a0, .ref a1, .ref a2, .ref a3, .int (iI (e4)), .ref a5, .int (iI (e6)), .ref a7, .int (iI (e8)), .int (iI (e9)), .int (iI (e10)), .ref a11, .int (iI (e12)), .int (iI (e13)), .int (iI (e14)), .ref a15])), (a0, fA cyI 54 (puM m y (m (6 + x)) (m (18 + x)) (m (30 + x)) (m (42 + x))))]) := by
  refine fp_start (cc := cX8_carries) (maxL := 3) (ret := none) (by decide) rfl (Nat.le_of_ble_eq_true rfl) ?_
  intro pg en sx mi ar bl mt cd ls hx hb hr hts hown hlocks hml hnm hP hK hD hl
  have hown : sx.vm.findClass RX8 = some mi.cls := hown
  have hl : lv_has ls 3 [(0, .ref v), (1, .int (iI (x))), (2, .int (iI (y)))] := hl
  have hD := fp_self hD
  have hS : va_S (fp_A [(v, .inr (8, [.ref a0, .ref a1, .ref a2, .ref a3, .int (iI (e4)), .ref a5, .int (iI (e6)), .ref a7, .int (iI (e8)), .int (iI (e9)), .int (iI (e10)), .ref a11, .int (iI (e12)), .int (iI (e13)), .int (iI (e14)), .ref a15])), (a0, fA cyI 54 m)]) sx.heap sx.heap [] := va_S.rf
  refine lv_aload_n hx hb dX8_carries_0 rfl (lv_at hl 0 rfl) ?_
  refine lv_iload_n hx hb dX8_carries_1 rfl (lv_at hl 2 rfl) ?_
  refine lv_aload_n hx hb dX8_carries_2 rfl (lv_at hl 0 rfl) ?_
  refine va_get (D := D) (ci := 8) (ws := [(v, .inr (8, [.ref a0, .ref a1, .ref a2, .ref a3, .int (iI (e4)), .ref a5, .int (iI (e6)), .ref a7, .int (iI (e8)), .int (iI (e9)), .int (iI (e10)), .ref a11, .int (iI (e12)), .int (iI (e13)), .int (iI (e14)), .ref a15])), (a0, fA cyI 54 m)]) (v := .ref a0) (C := RX8) (T := TX8) (N := 16) hx hb hts (fun _ h => List.mem_cons_of_mem _ (List.mem_append_right _ h)) hown hK.1 hP 0 rfl rfl 0 (by decide) (hts _ fl_X8_carries_7) (fun _ h9 => h9) rfl dX8_carries_3 ?_
  refine fp_bipush hx hb dX8_carries_6 (by decide) ?_
  refine lv_iload_n hx hb dX8_carries_8 rfl (lv_at hl 1 rfl) ?_
  refine fp_iadd hx hb dX8_carries_9 ?_
  refine fp_iald (wsC := [(v, .inr (8, [.ref a0, .ref a1, .ref a2, .ref a3, .int (iI (e4)), .ref a5, .int (iI (e6)), .ref a7, .int (iI (e8)), .int (iI (e9)), .int (iI (e10)), .ref a11, .int (iI (e12)), .int (iI (e13)), .int (iI (e14)), .ref a15])), (a0, fA cyI 54 m)]) hx hb hK hP 1 rfl (by omega) (by decide) dX8_carries_10 ?_
  refine lv_aload_n hx hb dX8_carries_11 rfl (lv_at hl 0 rfl) ?_
  refine va_get (D := D) (ci := 8) (ws := [(v, .inr (8, [.ref a0, .ref a1, .ref a2, .ref a3, .int (iI (e4)), .ref a5, .int (iI (e6)), .ref a7, .int (iI (e8)), .int (iI (e9)), .int (iI (e10)), .ref a11, .int (iI (e12)), .int (iI (e13)), .int (iI (e14)), .ref a15])), (a0, fA cyI 54 m)]) (v := .ref a0) (C := RX8) (T := TX8) (N := 16) hx hb hts (fun _ h => List.mem_cons_of_mem _ (List.mem_append_right _ h)) hown hK.1 hP 0 rfl rfl 0 (by decide) (hts _ fl_X8_carries_7) (fun _ h9 => h9) rfl dX8_carries_12 ?_
  refine fp_bipush hx hb dX8_carries_15 (by decide) ?_
  refine lv_iload_n hx hb dX8_carries_17 rfl (lv_at hl 1 rfl) ?_
  refine fp_iadd hx hb dX8_carries_18 ?_
  refine fp_iald (wsC := [(v, .inr (8, [.ref a0, .ref a1, .ref a2, .ref a3, .int (iI (e4)), .ref a5, .int (iI (e6)), .ref a7, .int (iI (e8)), .int (iI (e9)), .int (iI (e10)), .ref a11, .int (iI (e12)), .int (iI (e13)), .int (iI (e14)), .ref a15])), (a0, fA cyI 54 m)]) hx hb hK hP 1 rfl (by omega) (by decide) dX8_carries_19 ?_
  refine lv_aload_n hx hb dX8_carries_20 rfl (lv_at hl 0 rfl) ?_
  refine va_get (D := D) (ci := 8) (ws := [(v, .inr (8, [.ref a0, .ref a1, .ref a2, .ref a3, .int (iI (e4)), .ref a5, .int (iI (e6)), .ref a7, .int (iI (e8)), .int (iI (e9)), .int (iI (e10)), .ref a11, .int (iI (e12)), .int (iI (e13)), .int (iI (e14)), .ref a15])), (a0, fA cyI 54 m)]) (v := .ref a0) (C := RX8) (T := TX8) (N := 16) hx hb hts (fun _ h => List.mem_cons_of_mem _ (List.mem_append_right _ h)) hown hK.1 hP 0 rfl rfl 0 (by decide) (hts _ fl_X8_carries_7) (fun _ h9 => h9) rfl dX8_carries_21 ?_
  refine fp_bipush hx hb dX8_carries_24 (by decide) ?_
  refine lv_iload_n hx hb dX8_carries_26 rfl (lv_at hl 1 rfl) ?_
  refine fp_iadd hx hb dX8_carries_27 ?_
  refine fp_iald (wsC := [(v, .inr (8, [.ref a0, .ref a1, .ref a2, .ref a3, .int (iI (e4)), .ref a5, .int (iI (e6)), .ref a7, .int (iI (e8)), .int (iI (e9)), .int (iI (e10)), .ref a11, .int (iI (e12)), .int (iI (e13)), .int (iI (e14)), .ref a15])), (a0, fA cyI 54 m)]) hx hb hK hP 1 rfl (by omega) (by decide) dX8_carries_28 ?_
  refine lv_aload_n hx hb dX8_carries_29 rfl (lv_at hl 0 rfl) ?_
  refine va_get (D := D) (ci := 8) (ws := [(v, .inr (8, [.ref a0, .ref a1, .ref a2, .ref a3, .int (iI (e4)), .ref a5, .int (iI (e6)), .ref a7, .int (iI (e8)), .int (iI (e9)), .int (iI (e10)), .ref a11, .int (iI (e12)), .int (iI (e13)), .int (iI (e14)), .ref a15])), (a0, fA cyI 54 m)]) (v := .ref a0) (C := RX8) (T := TX8) (N := 16) hx hb hts (fun _ h => List.mem_cons_of_mem _ (List.mem_append_right _ h)) hown hK.1 hP 0 rfl rfl 0 (by decide) (hts _ fl_X8_carries_7) (fun _ h9 => h9) rfl dX8_carries_30 ?_
  refine fp_bipush hx hb dX8_carries_33 (by decide) ?_
  refine lv_iload_n hx hb dX8_carries_35 rfl (lv_at hl 1 rfl) ?_
  refine fp_iadd hx hb dX8_carries_36 ?_
  refine fp_iald (wsC := [(v, .inr (8, [.ref a0, .ref a1, .ref a2, .ref a3, .int (iI (e4)), .ref a5, .int (iI (e6)), .ref a7, .int (iI (e8)), .int (iI (e9)), .int (iI (e10)), .ref a11, .int (iI (e12)), .int (iI (e13)), .int (iI (e14)), .ref a15])), (a0, fA cyI 54 m)]) hx hb hK hP 1 rfl (by omega) (by decide) dX8_carries_37 ?_
  refine fp_wV (As := [.int (iI (y)), .int (iI (m (6 + x))), .int (iI (m (18 + x))), .int (iI (m (30 + x))), .int (iI (m (42 + x)))]) (rest := []) (wsC := [(v, .inr (8, [.ref a0, .ref a1, .ref a2, .ref a3, .int (iI (e4)), .ref a5, .int (iI (e6)), .ref a7, .int (iI (e8)), .int (iI (e9)), .int (iI (e10)), .ref a11, .int (iI (e12)), .int (iI (e13)), .int (iI (e14)), .ref a15])), (a0, fA cyI 54 m)]) ⟨hx, hb, hml, hown, hts⟩ (c_X8_puts l D cyI v a0 a1 a2 a3 e4 a5 e6 a7 e8 e9 e10 a11 e12 e13 e14 a15 m y (m (6 + x)) (m (18 + x)) (m (30 + x)) (m (42 + x)) (by omega)) (cwV 5 hts gX8_carries_X8_puts rfl rfl rfl (by decide +kernel) ⟨Nat.le_of_ble_eq_true rfl, Nat.le_of_ble_eq_true rfl⟩) (fun _ => rfl) hK hP hD hS [0, 1] (by decide) rfl rfl rfl rfl hl.1 rfl (Nat.le_of_ble_eq_true rfl) dX8_carries_38 ⟨Nat.zero_le _, Nat.zero_le _⟩ (fun u9v H locs hu hP hD hS => ?_)
  refine W.eq (g2 := F0 mi 41 ls []) rfl ?_
  have hP : va_P D vwCl [(v, .inr (8, [.ref a0, .ref a1, .ref a2, .ref a3, .int (iI (e4)), .ref a5, .int (iI (e6)), .ref a7, .int (iI (e8)), .int (iI (e9)), .int (iI (e10)), .ref a11, .int (iI (e12)), .int (iI (e13)), .int (iI (e14)), .ref a15])), (a0, fA cyI 54 (puM m y (m (6 + x)) (m (18 + x)) (m (30 + x)) (m (42 + x))))] H := hP
  have hD : va_D (fp_A [(v, .inr (8, [.ref a0, .ref a1, .ref a2, .ref a3, .int (iI (e4)), .ref a5, .int (iI (e6)), .ref a7, .int (iI (e8)), .int (iI (e9)), .int (iI (e10)), .ref a11, .int (iI (e12)), .int (iI (e13)), .int (iI (e14)), .ref a15])), (a0, fA cyI 54 m)]) [(v, .inr (8, [.ref a0, .ref a1, .ref a2, .ref a3, .int (iI (e4)), .ref a5, .int (iI (e6)), .ref a7, .int (iI (e8)), .int (iI (e9)), .int (iI (e10)), .ref a11, .int (iI (e12)), .int (iI (e13)), .int (iI (e14)), .ref a15])), (a0, fA cyI 54 (puM m y (m (6 + x)) (m (18 + x)) (m (30 + x)) (m (42 + x))))] := hD
  exact fp_wvret () hx hb hr hlocks hS hP trivial rfl dX8_carries_41
theorem fl_X8_remove_7 : Cond.fieldLink RX8 7 "FacingPlatesModel" "all" "[I" ∈ wsX8_remove := by decide +kernel
set_option maxHeartbeats 4000000 in
set_option maxRecDepth 100000 in
theorem c_X8_remove (l : Launch) (D : va_G) (cyI : ClassId) (v : Nat) (a0 : Nat) (a1 : Nat) (a2 : Nat) (a3 : Nat) (e4 : Int) (a5 : Nat) (e6 : Int) (a7 : Nat) (e8 : Int) (e9 : Int) (e10 : Int) (a11 : Nat) (e12 : Int) (e13 : Int) (e14 : Int) (a15 : Nat) (m : Int → Int) (kc : Int → Int) (d : Int → Int) (k : Int) (hC : CatOK (cM m)) (he4 : 0 ≤ e4 ∧ e4 ≤ 4) (hk9 : -2147483648 ≤ k ∧ k ≤ 2147483647) : fp_MW l yX8_remove wsX8_remove ({ frames := 2, cells := 0, slots := 0, locals := 47 } : Room) D cyI [(v, .inr (8, [.ref a0, .ref a1, .ref a2, .ref a3, .int (iI (e4)), .ref a5, .int (iI (e6)), .ref a7, .int (iI (e8)), .int (iI (e9)), .int (iI (e10)), .ref a11, .int (iI (e12)), .int (iI (e13)), .int (iI (e14)), .ref a15])), (a0, fA cyI 54 m), (a1, fA cyI 54 kc), (a3, fA cyI 216 d)] [.ref v, .int (iI (k))] (fun (u9 : (Int → Int) × (Int → Int)) => (Same (if 0 ≤ rmR (cM m) k then rmC (cM m) k else cM m) (cM u9.1))) (fun (u9 : (Int → Int) × (Int → Int)) => some (.int (iI (rmR (cM m) k)))) (fun (u9 : (Int → Int) × (Int → Int)) => [(v, .inr (8, [.ref a0, .ref a1, .ref a2, .ref a3, .int (iI (if 0 ≤ rmR (cM m) k then recN e4 else e4)), .ref a5, .int (iI (e6)), .ref a7, .int (iI (e8)), .int (iI (e9)), .int (iI (e10)), .ref a11, .int (iI (e12)), .int (iI (e13)), .int (iI (e14)), .ref a15])), (a0, fA cyI 54 u9.1), (a1, fA cyI 54 u9.2), (a3, fA cyI 216 (if 0 ≤ rmR (cM m) k then recH d m e4 else d))]) := by
  refine fp_start (cc := cX8_remove) (maxL := 3) (ret := (some .int)) (by decide) rfl (Nat.le_of_ble_eq_true rfl) ?_
  intro pg en sx mi ar bl mt cd ls hx hb hr hts hown hlocks hml hnm hP hK hD hl
  have hown : sx.vm.findClass RX8 = some mi.cls := hown
  have hl : lv_has ls 3 [(0, .ref v), (1, .int (iI (k)))] := hl
  have hD := fp_self hD
  have hS : va_S (fp_A [(v, .inr (8, [.ref a0, .ref a1, .ref a2, .ref a3, .int (iI (e4)), .ref a5, .int (iI (e6)), .ref a7, .int (iI (e8)), .int (iI (e9)), .int (iI (e10)), .ref a11, .int (iI (e12)), .int (iI (e13)), .int (iI (e14)), .ref a15])), (a0, fA cyI 54 m), (a1, fA cyI 54 kc), (a3, fA cyI 216 d)]) sx.heap sx.heap [] := va_S.rf
  have hN := hC.1
  rw [cM_0] at hN
  have e0 : cM m 0 = m 5 := cM_0 m
  refine lv_aload_n hx hb dX8_remove_0 rfl (lv_at hl 0 rfl) ?_
  refine lv_iload_n hx hb dX8_remove_1 rfl (lv_at hl 1 rfl) ?_
  refine fp_pV (As := [.int (iI (k))]) (rest := []) (wsC := [(v, .inr (8, [.ref a0, .ref a1, .ref a2, .ref a3, .int (iI (e4)), .ref a5, .int (iI (e6)), .ref a7, .int (iI (e8)), .int (iI (e9)), .int (iI (e10)), .ref a11, .int (iI (e12)), .int (iI (e13)), .int (iI (e14)), .ref a15])), (a0, fA cyI 54 m), (a1, fA cyI 54 kc), (a3, fA cyI 216 d)]) ⟨hx, hb, hml, hown, hts⟩ (c_X8_isLot l D cyI v a0 a1 a2 a3 e4 a5 e6 a7 e8 e9 e10 a11 e12 e13 e14 a15 m k hk9 hN) (cwV 1 hts gX8_remove_X8_isLot rfl rfl rfl (by decide +kernel) ⟨Nat.le_of_ble_eq_true rfl, Nat.le_of_ble_eq_true rfl⟩) hK hP hD [0, 1] (by decide) rfl rfl rfl rfl hl.1 rfl (Nat.le_of_ble_eq_true rfl) dX8_remove_2 ⟨Nat.zero_le _, Nat.zero_le _⟩ ?_
  refine fp_if_ne (tgt := 10) hx hb (bI_r32 _) dX8_remove_5 (by decide) (fun q5 => ?_) (fun q5 => ?_)
  · skip
    have w5 := bI_ne q5
    have hk := w5
    refine lv_aload_n hx hb dX8_remove_10 rfl (lv_at hl 0 rfl) ?_
    refine fp_wV (As := []) (rest := []) (wsC := [(v, .inr (8, [.ref a0, .ref a1, .ref a2, .ref a3, .int (iI (e4)), .ref a5, .int (iI (e6)), .ref a7, .int (iI (e8)), .int (iI (e9)), .int (iI (e10)), .ref a11, .int (iI (e12)), .int (iI (e13)), .int (iI (e14)), .ref a15])), (a0, fA cyI 54 m), (a1, fA cyI 54 kc), (a3, fA cyI 216 d)]) ⟨hx, hb, hml, hown, hts⟩ (c_X8_remember l D cyI v a0 a1 a2 a3 e4 a5 e6 a7 e8 e9 e10 a11 e12 e13 e14 a15 m kc) (cwV 0 hts gX8_remove_X8_remember rfl rfl rfl (by decide +kernel) ⟨Nat.le_of_ble_eq_true rfl, Nat.le_of_ble_eq_true rfl⟩) (fun _ => rfl) hK hP hD hS [0, 1, 2] (by decide) rfl rfl rfl rfl hl.1 rfl (Nat.le_of_ble_eq_true rfl) dX8_remove_11 ⟨Nat.zero_le _, Nat.zero_le _⟩ (fun u9v H locs hu hP hD hS => ?_)
    refine W.eq (g2 := F0 mi 14 ls []) rfl ?_
    have hP : va_P D vwCl [(v, .inr (8, [.ref a0, .ref a1, .ref a2, .ref a3, .int (iI (e4)), .ref a5, .int (iI (e6)), .ref a7, .int (iI (e8)), .int (iI (e9)), .int (iI (e10)), .ref a11, .int (iI (e12)), .int (iI (e13)), .int (iI (e14)), .ref a15])), (a0, fA cyI 54 m), (a1, fA cyI 54 m), (a3, fA cyI 216 d)] H := hP
    have hD : va_D (fp_A [(v, .inr (8, [.ref a0, .ref a1, .ref a2, .ref a3, .int (iI (e4)), .ref a5, .int (iI (e6)), .ref a7, .int (iI (e8)), .int (iI (e9)), .int (iI (e10)), .ref a11, .int (iI (e12)), .int (iI (e13)), .int (iI (e14)), .ref a15])), (a0, fA cyI 54 m), (a1, fA cyI 54 kc), (a3, fA cyI 216 d)]) [(v, .inr (8, [.ref a0, .ref a1, .ref a2, .ref a3, .int (iI (e4)), .ref a5, .int (iI (e6)), .ref a7, .int (iI (e8)), .int (iI (e9)), .int (iI (e10)), .ref a11, .int (iI (e12)), .int (iI (e13)), .int (iI (e14)), .ref a15])), (a0, fA cyI 54 m), (a1, fA cyI 54 m), (a3, fA cyI 216 d)] := hD
    refine lv_aload_n hx hb dX8_remove_14 rfl (lv_at hl 0 rfl) ?_
    refine va_get (D := D) (ci := 8) (ws := [(v, .inr (8, [.ref a0, .ref a1, .ref a2, .ref a3, .int (iI (e4)), .ref a5, .int (iI (e6)), .ref a7, .int (iI (e8)), .int (iI (e9)), .int (iI (e10)), .ref a11, .int (iI (e12)), .int (iI (e13)), .int (iI (e14)), .ref a15])), (a0, fA cyI 54 m), (a1, fA cyI 54 m), (a3, fA cyI 216 d)]) (v := .ref a0) (C := RX8) (T := TX8) (N := 16) hx hb hts (fun _ h => List.mem_cons_of_mem _ (List.mem_append_right _ h)) hown hK.1 hP 0 rfl rfl 0 (by decide) (hts _ fl_X8_remove_7) (fun _ h9 => h9) rfl dX8_remove_15 ?_
    refine fp_iconst hx hb dX8_remove_18 ?_
    refine lv_dup2_11 hx hb dX8_remove_19 rfl rfl ?_
    refine fp_iald (wsC := [(v, .inr (8, [.ref a0, .ref a1, .ref a2, .ref a3, .int (iI (e4)), .ref a5, .int (iI (e6)), .ref a7, .int (iI (e8)), .int (iI (e9)), .int (iI (e10)), .ref a11, .int (iI (e12)), .int (iI (e13)), .int (iI (e14)), .ref a15])), (a0, fA cyI 54 m), (a1, fA cyI 54 m), (a3, fA cyI 216 d)]) hx hb hK hP 1 rfl (by omega) (by decide) dX8_remove_20 ?_
    refine fp_iconst hx hb dX8_remove_21 ?_
    refine fp_isub hx hb dX8_remove_22 ?_
    refine fp_iast (wsC := [(v, .inr (8, [.ref a0, .ref a1, .ref a2, .ref a3, .int (iI (e4)), .ref a5, .int (iI (e6)), .ref a7, .int (iI (e8)), .int (iI (e9)), .int (iI (e10)), .ref a11, .int (iI (e12)), .int (iI (e13)), .int (iI (e14)), .ref a15])), (a0, fA cyI 54 m), (a1, fA cyI 54 m), (a3, fA cyI 216 d)]) hx hb hK hP hD hS 1 rfl (by omega) (by decide) dX8_remove_23 (fun H locs hP hD hS => ?_)
    have hP : va_P D vwCl [(v, .inr (8, [.ref a0, .ref a1, .ref a2, .ref a3, .int (iI (e4)), .ref a5, .int (iI (e6)), .ref a7, .int (iI (e8)), .int (iI (e9)), .int (iI (e10)), .ref a11, .int (iI (e12)), .int (iI (e13)), .int (iI (e14)), .ref a15])), (a0, fA cyI 54 (upI (m) (5) ((m 5) - 1))), (a1, fA cyI 54 m), (a3, fA cyI 216 d)] H := hP
    have hD : va_D (fp_A [(v, .inr (8, [.ref a0, .ref a1, .ref a2, .ref a3, .int (iI (e4)), .ref a5, .int (iI (e6)), .ref a7, .int (iI (e8)), .int (iI (e9)), .int (iI (e10)), .ref a11, .int (iI (e12)), .int (iI (e13)), .int (iI (e14)), .ref a15])), (a0, fA cyI 54 m), (a1, fA cyI 54 kc), (a3, fA cyI 216 d)]) [(v, .inr (8, [.ref a0, .ref a1, .ref a2, .ref a3, .int (iI (e4)), .ref a5, .int (iI (e6)), .ref a7, .int (iI (e8)), .int (iI (e9)), .int (iI (e10)), .ref a11, .int (iI (e12)), .int (iI (e13)), .int (iI (e14)), .ref a15])), (a0, fA cyI 54 (upI (m) (5) ((m 5) - 1))), (a1, fA cyI 54 m), (a3, fA cyI 216 d)] := hD
    refine lv_iload_n hx hb dX8_remove_24 rfl (lv_at hl 1 rfl) ?_
    refine lv_istore_n (lv' := [(2, .int (iI (k))), (0, .ref v), (1, .int (iI (k)))]) hx hb dX8_remove_25 rfl hl (by decide) rfl (fun ls hl => ?_)
    have hl := lv_sub hl (l' := [(0, .ref v), (1, .int (iI (k))), (2, .int (iI (k)))]) [1, 2, 0] rfl
    have lp1 : ∀ (nf : Nat) (i : Int) (g : Int → Int), (k ≤ i ∧ i ≤ m 5 - 1) → (RowsM m g (fun j => if k ≤ j ∧ j < i then j + 1 else j)) → (SetsM m g) → (g 5 = m 5 - 1) → (m 5 - 1 + 1 ≤ i + (nf : Int)) → ∀ (H : Heap) (locs : List Loc), va_P D vwCl [(v, .inr (8, [.ref a0, .ref a1, .ref a2, .ref a3, .int (iI (e4)), .ref a5, .int (iI (e6)), .ref a7, .int (iI (e8)), .int (iI (e9)), .int (iI (e10)), .ref a11, .int (iI (e12)), .int (iI (e13)), .int (iI (e14)), .ref a15])), (a0, fA cyI 54 g), (a1, fA cyI 54 m), (a3, fA cyI 216 d)] H → va_D (fp_A [(v, .inr (8, [.ref a0, .ref a1, .ref a2, .ref a3, .int (iI (e4)), .ref a5, .int (iI (e6)), .ref a7, .int (iI (e8)), .int (iI (e9)), .int (iI (e10)), .ref a11, .int (iI (e12)), .int (iI (e13)), .int (iI (e14)), .ref a15])), (a0, fA cyI 54 m), (a1, fA cyI 54 kc), (a3, fA cyI 216 d)]) [(v, .inr (8, [.ref a0, .ref a1, .ref a2, .ref a3, .int (iI (e4)), .ref a5, .int (iI (e6)), .ref a7, .int (iI (e8)), .int (iI (e9)), .int (iI (e10)), .ref a11, .int (iI (e12)), .int (iI (e13)), .int (iI (e14)), .ref a15])), (a0, fA cyI 54 g), (a1, fA cyI 54 m), (a3, fA cyI 216 d)] → va_S (fp_A [(v, .inr (8, [.ref a0, .ref a1, .ref a2, .ref a3, .int (iI (e4)), .ref a5, .int (iI (e6)), .ref a7, .int (iI (e8)), .int (iI (e9)), .int (iI (e10)), .ref a11, .int (iI (e12)), .int (iI (e13)), .int (iI (e14)), .ref a15])), (a0, fA cyI 54 m), (a1, fA cyI 54 kc), (a3, fA cyI 216 d)]) sx.heap H locs → ∀ (ls : Array Slot), lv_has ls 3 [(0, .ref v), (1, .int (iI (k))), (2, .int (iI (i)))] → W pg l en ({ frames := 2, cells := 0, slots := 0, locals := 47 } : Room) sx mi ar bl mt cd H locs 0 0 (MQ bl (fp_Qw D [(v, .inr (8, [.ref a0, .ref a1, .ref a2, .ref a3, .int (iI (e4)), .ref a5, .int (iI (e6)), .ref a7, .int (iI (e8)), .int (iI (e9)), .int (iI (e10)), .ref a11, .int (iI (e12)), .int (iI (e13)), .int (iI (e14)), .ref a15])), (a0, fA cyI 54 m), (a1, fA cyI 54 kc), (a3, fA cyI 216 d)] (fun (u9 : (Int → Int) × (Int → Int)) => (Same (if 0 ≤ rmR (cM m) k then rmC (cM m) k else cM m) (cM u9.1))) (fun (u9 : (Int → Int) × (Int → Int)) => some (.int (iI (rmR (cM m) k)))) (fun (u9 : (Int → Int) × (Int → Int)) => [(v, .inr (8, [.ref a0, .ref a1, .ref a2, .ref a3, .int (iI (if 0 ≤ rmR (cM m) k then recN e4 else e4)), .ref a5, .int (iI (e6)), .ref a7, .int (iI (e8)), .int (iI (e9)), .int (iI (e10)), .ref a11, .int (iI (e12)), .int (iI (e13)), .int (iI (e14)), .ref a15])), (a0, fA cyI 54 u9.1), (a1, fA cyI 54 u9.2), (a3, fA cyI 216 (if 0 ≤ rmR (cM m) k then recH d m e4 else d))])) ar sx 0 0 (fp_A [(v, .inr (8, [.ref a0, .ref a1, .ref a2, .ref a3, .int (iI (e4)), .ref a5, .int (iI (e6)), .ref a7, .int (iI (e8)), .int (iI (e9)), .int (iI (e10)), .ref a11, .int (iI (e12)), .int (iI (e13)), .int (iI (e14)), .ref a15])), (a0, fA cyI 54 m), (a1, fA cyI 54 kc), (a3, fA cyI 216 d)])) (F0 mi 26 ls []) := by
      intro nf
      induction nf with
      | zero =>
        intro i g ii jr js j5 hfuel
        exact absurd hfuel (by omega)
      | succ nf ih1 =>
        intro i g ii jr js j5 hfuel H locs hP hD hS ls hl
        refine lv_iload_n hx hb dX8_remove_26 rfl (lv_at hl 2 rfl) ?_
        refine lv_aload_n hx hb dX8_remove_27 rfl (lv_at hl 0 rfl) ?_
        refine va_get (D := D) (ci := 8) (ws := [(v, .inr (8, [.ref a0, .ref a1, .ref a2, .ref a3, .int (iI (e4)), .ref a5, .int (iI (e6)), .ref a7, .int (iI (e8)), .int (iI (e9)), .int (iI (e10)), .ref a11, .int (iI (e12)), .int (iI (e13)), .int (iI (e14)), .ref a15])), (a0, fA cyI 54 g), (a1, fA cyI 54 m), (a3, fA cyI 216 d)]) (v := .ref a0) (C := RX8) (T := TX8) (N := 16) hx hb hts (fun _ h => List.mem_cons_of_mem _ (List.mem_append_right _ h)) hown hK.1 hP 0 rfl rfl 0 (by decide) (hts _ fl_X8_remove_7) (fun _ h9 => h9) rfl dX8_remove_28 ?_
        refine fp_iconst hx hb dX8_remove_31 ?_
        refine fp_iald (wsC := [(v, .inr (8, [.ref a0, .ref a1, .ref a2, .ref a3, .int (iI (e4)), .ref a5, .int (iI (e6)), .ref a7, .int (iI (e8)), .int (iI (e9)), .int (iI (e10)), .ref a11, .int (iI (e12)), .int (iI (e13)), .int (iI (e14)), .ref a15])), (a0, fA cyI 54 g), (a1, fA cyI 54 m), (a3, fA cyI 216 d)]) hx hb hK hP 1 rfl (by omega) (by decide) dX8_remove_32 ?_
        refine fp_icmp_ge (tgt := 50) hx hb (by omega) dX8_remove_33 (by decide) (fun q33 => ?_) (fun q33 => ?_)
        · skip
          have ei : i = m 5 - 1 := by omega
          rw [ei] at jr
          have hsm := Same_rmM hN.2 hk jr js j5
          refine lv_aload_n hx hb dX8_remove_50 rfl (lv_at hl 0 rfl) ?_
          refine lv_aload_n hx hb dX8_remove_51 rfl (lv_at hl 0 rfl) ?_
          refine va_get (D := D) (ci := 8) (ws := [(v, .inr (8, [.ref a0, .ref a1, .ref a2, .ref a3, .int (iI (e4)), .ref a5, .int (iI (e6)), .ref a7, .int (iI (e8)), .int (iI (e9)), .int (iI (e10)), .ref a11, .int (iI (e12)), .int (iI (e13)), .int (iI (e14)), .ref a15])), (a0, fA cyI 54 g), (a1, fA cyI 54 m), (a3, fA cyI 216 d)]) (v := .ref a0) (C := RX8) (T := TX8) (N := 16) hx hb hts (fun _ h => List.mem_cons_of_mem _ (List.mem_append_right _ h)) hown hK.1 hP 0 rfl rfl 0 (by decide) (hts _ fl_X8_remove_7) (fun _ h9 => h9) rfl dX8_remove_52 ?_
          refine fp_iconst hx hb dX8_remove_55 ?_
          refine fp_iald (wsC := [(v, .inr (8, [.ref a0, .ref a1, .ref a2, .ref a3, .int (iI (e4)), .ref a5, .int (iI (e6)), .ref a7, .int (iI (e8)), .int (iI (e9)), .int (iI (e10)), .ref a11, .int (iI (e12)), .int (iI (e13)), .int (iI (e14)), .ref a15])), (a0, fA cyI 54 g), (a1, fA cyI 54 m), (a3, fA cyI 216 d)]) hx hb hK hP 1 rfl (by omega) (by decide) dX8_remove_56 ?_
          rw [show (g 5 : Int) = m 5 - 1 from j5]
          refine fp_iconst hx hb dX8_remove_57 ?_
          refine fp_iconst hx hb dX8_remove_58 ?_
          refine fp_iconst hx hb dX8_remove_59 ?_
          refine fp_iconst hx hb dX8_remove_60 ?_
          refine fp_wV (As := [.int (iI (m 5 - 1)), .int (iI (0)), .int (iI (0)), .int (iI (0)), .int (iI (0))]) (rest := []) (wsC := [(v, .inr (8, [.ref a0, .ref a1, .ref a2, .ref a3, .int (iI (e4)), .ref a5, .int (iI (e6)), .ref a7, .int (iI (e8)), .int (iI (e9)), .int (iI (e10)), .ref a11, .int (iI (e12)), .int (iI (e13)), .int (iI (e14)), .ref a15])), (a0, fA cyI 54 g), (a1, fA cyI 54 m), (a3, fA cyI 216 d)]) ⟨hx, hb, hml, hown, hts⟩ (c_X8_puts l D cyI v a0 a1 a2 a3 e4 a5 e6 a7 e8 e9 e10 a11 e12 e13 e14 a15 g (m 5 - 1) 0 0 0 0 (by omega)) (cwV 5 hts gX8_remove_X8_puts rfl rfl rfl (by decide +kernel) ⟨Nat.le_of_ble_eq_true rfl, Nat.le_of_ble_eq_true rfl⟩) (fun _ => rfl) hK hP hD hS [0, 1] (by decide) rfl rfl rfl rfl hl.1 rfl (Nat.le_of_ble_eq_true rfl) dX8_remove_61 ⟨Nat.zero_le _, Nat.zero_le _⟩ (fun u9v H locs hu hP hD hS => ?_)
          refine W.eq (g2 := F0 mi 64 ls []) rfl ?_
          have hP : va_P D vwCl [(v, .inr (8, [.ref a0, .ref a1, .ref a2, .ref a3, .int (iI (e4)), .ref a5, .int (iI (e6)), .ref a7, .int (iI (e8)), .int (iI (e9)), .int (iI (e10)), .ref a11, .int (iI (e12)), .int (iI (e13)), .int (iI (e14)), .ref a15])), (a0, fA cyI 54 (puM g (m 5 - 1) 0 0 0 0)), (a1, fA cyI 54 m), (a3, fA cyI 216 d)] H := hP
          have hD : va_D (fp_A [(v, .inr (8, [.ref a0, .ref a1, .ref a2, .ref a3, .int (iI (e4)), .ref a5, .int (iI (e6)), .ref a7, .int (iI (e8)), .int (iI (e9)), .int (iI (e10)), .ref a11, .int (iI (e12)), .int (iI (e13)), .int (iI (e14)), .ref a15])), (a0, fA cyI 54 m), (a1, fA cyI 54 kc), (a3, fA cyI 216 d)]) [(v, .inr (8, [.ref a0, .ref a1, .ref a2, .ref a3, .int (iI (e4)), .ref a5, .int (iI (e6)), .ref a7, .int (iI (e8)), .int (iI (e9)), .int (iI (e10)), .ref a11, .int (iI (e12)), .int (iI (e13)), .int (iI (e14)), .ref a15])), (a0, fA cyI 54 (puM g (m 5 - 1) 0 0 0 0)), (a1, fA cyI 54 m), (a3, fA cyI 216 d)] := hD
          refine lv_aload_n hx hb dX8_remove_64 rfl (lv_at hl 0 rfl) ?_
          refine lv_aload_n hx hb dX8_remove_65 rfl (lv_at hl 0 rfl) ?_
          refine va_get (D := D) (ci := 8) (ws := [(v, .inr (8, [.ref a0, .ref a1, .ref a2, .ref a3, .int (iI (e4)), .ref a5, .int (iI (e6)), .ref a7, .int (iI (e8)), .int (iI (e9)), .int (iI (e10)), .ref a11, .int (iI (e12)), .int (iI (e13)), .int (iI (e14)), .ref a15])), (a0, fA cyI 54 (puM g (m 5 - 1) 0 0 0 0)), (a1, fA cyI 54 m), (a3, fA cyI 216 d)]) (v := .ref a0) (C := RX8) (T := TX8) (N := 16) hx hb hts (fun _ h => List.mem_cons_of_mem _ (List.mem_append_right _ h)) hown hK.1 hP 0 rfl rfl 0 (by decide) (hts _ fl_X8_remove_7) (fun _ h9 => h9) rfl dX8_remove_66 ?_
          refine fp_iconst hx hb dX8_remove_69 ?_
          refine fp_iald (wsC := [(v, .inr (8, [.ref a0, .ref a1, .ref a2, .ref a3, .int (iI (e4)), .ref a5, .int (iI (e6)), .ref a7, .int (iI (e8)), .int (iI (e9)), .int (iI (e10)), .ref a11, .int (iI (e12)), .int (iI (e13)), .int (iI (e14)), .ref a15])), (a0, fA cyI 54 (puM g (m 5 - 1) 0 0 0 0)), (a1, fA cyI 54 m), (a3, fA cyI 216 d)]) hx hb hK hP 1 rfl (by omega) (by decide) dX8_remove_70 ?_
          rw [show ((puM g (m 5 - 1) 0 0 0 0) 5 : Int) = m 5 - 1 from (by rw [pu_n (by omega) (by omega)]; exact j5)]
          refine fp_wV (As := [.int (iI (m 5 - 1))]) (rest := []) (wsC := [(v, .inr (8, [.ref a0, .ref a1, .ref a2, .ref a3, .int (iI (e4)), .ref a5, .int (iI (e6)), .ref a7, .int (iI (e8)), .int (iI (e9)), .int (iI (e10)), .ref a11, .int (iI (e12)), .int (iI (e13)), .int (iI (e14)), .ref a15])), (a0, fA cyI 54 (puM g (m 5 - 1) 0 0 0 0)), (a1, fA cyI 54 m), (a3, fA cyI 216 d)]) ⟨hx, hb, hml, hown, hts⟩ (c_X8_acted l D cyI v a0 a1 a2 a3 e4 a5 e6 a7 e8 e9 e10 a11 e12 e13 e14 a15 m d (m 5 - 1) (by omega)) (cwV 1 hts gX8_remove_X8_acted rfl rfl rfl (by decide +kernel) ⟨Nat.le_of_ble_eq_true rfl, Nat.le_of_ble_eq_true rfl⟩) (fun _ => rfl) hK hP hD hS [0, 2, 3] (by decide) rfl rfl rfl rfl hl.1 rfl (Nat.le_of_ble_eq_true rfl) dX8_remove_71 ⟨Nat.zero_le _, Nat.zero_le _⟩ (fun u9v H locs hu hP hD hS => ?_)
          refine W.eq (g2 := F0 mi 74 ls [.int (iI ((m 5 - 1)))]) rfl ?_
          have hP : va_P D vwCl [(v, .inr (8, [.ref a0, .ref a1, .ref a2, .ref a3, .int (iI (recN e4)), .ref a5, .int (iI (e6)), .ref a7, .int (iI (e8)), .int (iI (e9)), .int (iI (e10)), .ref a11, .int (iI (e12)), .int (iI (e13)), .int (iI (e14)), .ref a15])), (a0, fA cyI 54 (puM g (m 5 - 1) 0 0 0 0)), (a1, fA cyI 54 m), (a3, fA cyI 216 (recH d m e4))] H := hP
          have hD : va_D (fp_A [(v, .inr (8, [.ref a0, .ref a1, .ref a2, .ref a3, .int (iI (e4)), .ref a5, .int (iI (e6)), .ref a7, .int (iI (e8)), .int (iI (e9)), .int (iI (e10)), .ref a11, .int (iI (e12)), .int (iI (e13)), .int (iI (e14)), .ref a15])), (a0, fA cyI 54 m), (a1, fA cyI 54 kc), (a3, fA cyI 216 d)]) [(v, .inr (8, [.ref a0, .ref a1, .ref a2, .ref a3, .int (iI (recN e4)), .ref a5, .int (iI (e6)), .ref a7, .int (iI (e8)), .int (iI (e9)), .int (iI (e10)), .ref a11, .int (iI (e12)), .int (iI (e13)), .int (iI (e14)), .ref a15])), (a0, fA cyI 54 (puM g (m 5 - 1) 0 0 0 0)), (a1, fA cyI 54 m), (a3, fA cyI 216 (recH d m e4))] := hD
          have hR : rmR (cM m) k = (m 5 - 1) := by unfold rmR; repeat (first | rw [if_pos (by omega)] | rw [if_neg (by omega)]); try (first | rfl | omega)
          have hP : va_P D vwCl [(v, .inr (8, [.ref a0, .ref a1, .ref a2, .ref a3, .int (iI (if 0 ≤ rmR (cM m) k then recN e4 else e4)), .ref a5, .int (iI (e6)), .ref a7, .int (iI (e8)), .int (iI (e9)), .int (iI (e10)), .ref a11, .int (iI (e12)), .int (iI (e13)), .int (iI (e14)), .ref a15])), (a0, fA cyI 54 (puM g (m 5 - 1) 0 0 0 0)), (a1, fA cyI 54 m), (a3, fA cyI 216 (if 0 ≤ rmR (cM m) k then recH d m e4 else d))] H := by
            rw [(show (recH d m e4 : Int → Int) = if 0 ≤ rmR (cM m) k then recH d m e4 else d from (by first | rw [if_pos (by omega)] | rw [if_neg (by omega)])).symm]
            rw [(show (recN e4 : Int) = if 0 ≤ rmR (cM m) k then recN e4 else e4 from (by first | rw [if_pos (by omega)] | rw [if_neg (by omega)])).symm]
            exact hP
          have hret : (rmR (cM m) k : Int) = (m 5 - 1) := (by exact hR)
          exact fp_wret (puM g (m 5 - 1) 0 0 0 0, m) hx hb hr hlocks hS (by dsimp only; exact hP) (by rw [if_pos (by omega)]; exact hsm) (congrArg (fun z : Int => some (Value.int (iI z))) hret) dX8_remove_74
        · skip
          refine lv_aload_n hx hb dX8_remove_36 rfl (lv_at hl 0 rfl) ?_
          refine lv_iload_n hx hb dX8_remove_37 rfl (lv_at hl 2 rfl) ?_
          refine fp_iconst hx hb dX8_remove_38 ?_
          refine fp_iadd hx hb dX8_remove_39 ?_
          refine lv_iload_n hx hb dX8_remove_40 rfl (lv_at hl 2 rfl) ?_
          refine fp_wV (As := [.int (iI (i + 1)), .int (iI (i))]) (rest := []) (wsC := [(v, .inr (8, [.ref a0, .ref a1, .ref a2, .ref a3, .int (iI (e4)), .ref a5, .int (iI (e6)), .ref a7, .int (iI (e8)), .int (iI (e9)), .int (iI (e10)), .ref a11, .int (iI (e12)), .int (iI (e13)), .int (iI (e14)), .ref a15])), (a0, fA cyI 54 g), (a1, fA cyI 54 m), (a3, fA cyI 216 d)]) ⟨hx, hb, hml, hown, hts⟩ (c_X8_carries l D cyI v a0 a1 a2 a3 e4 a5 e6 a7 e8 e9 e10 a11 e12 e13 e14 a15 g (i + 1) i (by omega) (by omega)) (cwV 2 hts gX8_remove_X8_carries rfl rfl rfl (by decide +kernel) ⟨Nat.le_of_ble_eq_true rfl, Nat.le_of_ble_eq_true rfl⟩) (fun _ => rfl) hK hP hD hS [0, 1] (by decide) rfl rfl rfl rfl hl.1 rfl (Nat.le_of_ble_eq_true rfl) dX8_remove_41 ⟨Nat.zero_le _, Nat.zero_le _⟩ (fun u9v H locs hu hP hD hS => ?_)
          refine W.eq (g2 := F0 mi 44 ls []) rfl ?_
          have hP : va_P D vwCl [(v, .inr (8, [.ref a0, .ref a1, .ref a2, .ref a3, .int (iI (e4)), .ref a5, .int (iI (e6)), .ref a7, .int (iI (e8)), .int (iI (e9)), .int (iI (e10)), .ref a11, .int (iI (e12)), .int (iI (e13)), .int (iI (e14)), .ref a15])), (a0, fA cyI 54 (puM g i (g (6 + (i + 1))) (g (18 + (i + 1))) (g (30 + (i + 1))) (g (42 + (i + 1))))), (a1, fA cyI 54 m), (a3, fA cyI 216 d)] H := hP
          have hD : va_D (fp_A [(v, .inr (8, [.ref a0, .ref a1, .ref a2, .ref a3, .int (iI (e4)), .ref a5, .int (iI (e6)), .ref a7, .int (iI (e8)), .int (iI (e9)), .int (iI (e10)), .ref a11, .int (iI (e12)), .int (iI (e13)), .int (iI (e14)), .ref a15])), (a0, fA cyI 54 m), (a1, fA cyI 54 kc), (a3, fA cyI 216 d)]) [(v, .inr (8, [.ref a0, .ref a1, .ref a2, .ref a3, .int (iI (e4)), .ref a5, .int (iI (e6)), .ref a7, .int (iI (e8)), .int (iI (e9)), .int (iI (e10)), .ref a11, .int (iI (e12)), .int (iI (e13)), .int (iI (e14)), .ref a15])), (a0, fA cyI 54 (puM g i (g (6 + (i + 1))) (g (18 + (i + 1))) (g (30 + (i + 1))) (g (42 + (i + 1))))), (a1, fA cyI 54 m), (a3, fA cyI 216 d)] := hD
          refine fp_iinc (k := 2) (lv' := [(2, .int (iI (i + 1))), (0, .ref v), (1, .int (iI (k)))]) hx hb dX8_remove_44 hl rfl (by decide) rfl (fun ls hl => ?_)
          refine lv_goto (tgt := 26) hx hb dX8_remove_47 (by decide) ?_
          exact ih1 (i + 1) (puM g i (g (6 + (i + 1))) (g (18 + (i + 1))) (g (30 + (i + 1))) (g (42 + (i + 1)))) (by omega) (Rows_rm jr (by omega) (by omega)) (fun j a1 a2 => by rw [pu_n (by omega) (by omega)]; exact js j a1 a2) (by rw [pu_n (by omega) (by omega)]; exact j5) (by omega) H locs hP hD hS ls (lv_sub hl [1, 2, 0] rfl)
    have hr0 : RowsM m (upI m 5 (m 5 - 1)) (fun j => if k ≤ j ∧ j < k then j + 1 else j) := by
      intro j o a1 a2 a3
      show _ = cM m ((if k ≤ j ∧ j < k then j + 1 else j) * 4 + o)
      rw [up_row ⟨a1, a2⟩ a3 (by omega), if_neg (by omega)]
    have hs0 : SetsM m (upI m 5 (m 5 - 1)) := fun j a1 a2 => upI_n (by omega)
    exact lp1 (((m 5 - 1 : Int) + 1 - (k)).toNat) k (upI (m) (5) ((m 5) - 1)) (by omega) hr0 hs0 (upI_s rfl) (by omega) H locs hP hD hS ls hl
  · skip
    have w5 := bI_e q5
    refine fp_iconst hx hb dX8_remove_8 ?_
    have hR : rmR (cM m) k = (-1) := by unfold rmR; repeat (first | rw [if_pos (by omega)] | rw [if_neg (by omega)]); try (first | rfl | omega)
    have hP : va_P D vwCl [(v, .inr (8, [.ref a0, .ref a1, .ref a2, .ref a3, .int (iI (if 0 ≤ rmR (cM m) k then recN e4 else e4)), .ref a5, .int (iI (e6)), .ref a7, .int (iI (e8)), .int (iI (e9)), .int (iI (e10)), .ref a11, .int (iI (e12)), .int (iI (e13)), .int (iI (e14)), .ref a15])), (a0, fA cyI 54 m), (a1, fA cyI 54 kc), (a3, fA cyI 216 (if 0 ≤ rmR (cM m) k then recH d m e4 else d))] sx.heap := by
      rw [(show (d : Int → Int) = if 0 ≤ rmR (cM m) k then recH d m e4 else d from (by first | rw [if_pos (by omega)] | rw [if_neg (by omega)])).symm]
      rw [(show (e4 : Int) = if 0 ≤ rmR (cM m) k then recN e4 else e4 from (by first | rw [if_pos (by omega)] | rw [if_neg (by omega)])).symm]
      exact hP
    have hret : (rmR (cM m) k : Int) = (-1) := (by exact hR)
    exact fp_wret (m, kc) hx hb hr hlocks hS (by dsimp only; exact hP) (by rw [if_neg (by omega)]; exact Same_rf _) (congrArg (fun z : Int => some (Value.int (iI z))) hret) dX8_remove_9
theorem ck_X8_change_143 : Cond.constantLong RX8 143 (2) ∈ wsX8_change := by decide +kernel
theorem fl_X8_change_7 : Cond.fieldLink RX8 7 "FacingPlatesModel" "all" "[I" ∈ wsX8_change := by decide +kernel
set_option maxHeartbeats 4000000 in
set_option maxRecDepth 100000 in
theorem c_X8_change (l : Launch) (D : va_G) (cyI : ClassId) (v : Nat) (a0 : Nat) (a1 : Nat) (a2 : Nat) (a3 : Nat) (e4 : Int) (a5 : Nat) (e6 : Int) (a7 : Nat) (e8 : Int) (e9 : Int) (e10 : Int) (a11 : Nat) (e12 : Int) (e13 : Int) (e14 : Int) (a15 : Nat) (m : Int → Int) (kc : Int → Int) (d : Int → Int) (k : Int) (t : Int) (p : Int) (hC : CatOK (cM m)) (he4 : 0 ≤ e4 ∧ e4 ≤ 4) (hk9 : -2147483648 ≤ k ∧ k ≤ 2147483647) (ht9 : -2147483648 ≤ t ∧ t ≤ 2147483647) (hp9 : -2147483648 ≤ p ∧ p ≤ 2147483647) : fp_MW l yX8_change wsX8_change ({ frames := 3, cells := 0, slots := 0, locals := 64 } : Room) D cyI [(v, .inr (8, [.ref a0, .ref a1, .ref a2, .ref a3, .int (iI (e4)), .ref a5, .int (iI (e6)), .ref a7, .int (iI (e8)), .int (iI (e9)), .int (iI (e10)), .ref a11, .int (iI (e12)), .int (iI (e13)), .int (iI (e14)), .ref a15])), (a0, fA cyI 54 m), (a1, fA cyI 54 kc), (a3, fA cyI 216 d)] [.ref v, .int (iI (k)), .int (iI (t)), .int (iI (p))] (fun (u9 : (Int → Int) × (Int → Int)) => (Same (if 0 ≤ chR (cM m) k t p then chC (cM m) k t p else cM m) (cM u9.1))) (fun (u9 : (Int → Int) × (Int → Int)) => some (.int (iI (chR (cM m) k t p)))) (fun (u9 : (Int → Int) × (Int → Int)) => [(v, .inr (8, [.ref a0, .ref a1, .ref a2, .ref a3, .int (iI (if 0 ≤ chR (cM m) k t p then recN e4 else e4)), .ref a5, .int (iI (e6)), .ref a7, .int (iI (e8)), .int (iI (e9)), .int (iI (e10)), .ref a11, .int (iI (e12)), .int (iI (e13)), .int (iI (e14)), .ref a15])), (a0, fA cyI 54 u9.1), (a1, fA cyI 54 u9.2), (a3, fA cyI 216 (if 0 ≤ chR (cM m) k t p then recH d m e4 else d))]) := by
  refine fp_start (cc := cX8_change) (maxL := 5) (ret := (some .int)) (by decide) rfl (Nat.le_of_ble_eq_true rfl) ?_
  intro pg en sx mi ar bl mt cd ls hx hb hr hts hown hlocks hml hnm hP hK hD hl
  have hown : sx.vm.findClass RX8 = some mi.cls := hown
  have hl : lv_has ls 5 [(0, .ref v), (1, .int (iI (k))), (2, .int (iI (t))), (3, .int (iI (p)))] := hl
  have hD := fp_self hD
  have hS : va_S (fp_A [(v, .inr (8, [.ref a0, .ref a1, .ref a2, .ref a3, .int (iI (e4)), .ref a5, .int (iI (e6)), .ref a7, .int (iI (e8)), .int (iI (e9)), .int (iI (e10)), .ref a11, .int (iI (e12)), .int (iI (e13)), .int (iI (e14)), .ref a15])), (a0, fA cyI 54 m), (a1, fA cyI 54 kc), (a3, fA cyI 216 d)]) sx.heap sx.heap [] := va_S.rf
  have hN := hC.1
  rw [cM_0] at hN
  have e0 : cM m 0 = m 5 := cM_0 m
  refine lv_aload_n hx hb dX8_change_0 rfl (lv_at hl 0 rfl) ?_
  refine lv_iload_n hx hb dX8_change_1 rfl (lv_at hl 1 rfl) ?_
  refine fp_pV (As := [.int (iI (k))]) (rest := []) (wsC := [(v, .inr (8, [.ref a0, .ref a1, .ref a2, .ref a3, .int (iI (e4)), .ref a5, .int (iI (e6)), .ref a7, .int (iI (e8)), .int (iI (e9)), .int (iI (e10)), .ref a11, .int (iI (e12)), .int (iI (e13)), .int (iI (e14)), .ref a15])), (a0, fA cyI 54 m), (a1, fA cyI 54 kc), (a3, fA cyI 216 d)]) ⟨hx, hb, hml, hown, hts⟩ (c_X8_isLot l D cyI v a0 a1 a2 a3 e4 a5 e6 a7 e8 e9 e10 a11 e12 e13 e14 a15 m k hk9 hN) (cwV 1 hts gX8_change_X8_isLot rfl rfl rfl (by decide +kernel) ⟨Nat.le_of_ble_eq_true rfl, Nat.le_of_ble_eq_true rfl⟩) hK hP hD [0, 1] (by decide) rfl rfl rfl rfl hl.1 rfl (Nat.le_of_ble_eq_true rfl) dX8_change_2 ⟨Nat.zero_le _, Nat.zero_le _⟩ ?_
  refine fp_if_ne (tgt := 10) hx hb (bI_r32 _) dX8_change_5 (by decide) (fun q5 => ?_) (fun q5 => ?_)
  · skip
    have w5 := bI_ne q5
    have hk := w5
    have hL := lot_f hC (k := k) (by rw [cM_0]; exact hk)
    unfold LotOK at hL
    rw [cM_t (by omega), cM_p (by omega), cM_b (by omega), cM_q (by omega)] at hL
    have e1 : cM m (k * 4 + 1) = m (6 + k) := cM_t (by omega)
    have e2 : cM m (k * 4 + 2) = m (18 + k) := cM_p (by omega)
    refine lv_iload_n hx hb dX8_change_10 rfl (lv_at hl 2 rfl) ?_
    refine fp_pS (As := [.int (iI (t))]) (rest := []) (wsC := [(v, .inr (8, [.ref a0, .ref a1, .ref a2, .ref a3, .int (iI (e4)), .ref a5, .int (iI (e6)), .ref a7, .int (iI (e8)), .int (iI (e9)), .int (iI (e10)), .ref a11, .int (iI (e12)), .int (iI (e13)), .int (iI (e14)), .ref a15])), (a0, fA cyI 54 m), (a1, fA cyI 54 kc), (a3, fA cyI 216 d)]) ⟨hx, hb, hml, hown, hts⟩ (c_X8_isText l D cyI t ht9) (va_cwS 1 hts gX8_change_X8_isText rfl rfl rfl (by decide +kernel) ⟨Nat.le_of_ble_eq_true rfl, Nat.le_of_ble_eq_true rfl⟩) hK hP hD [] (by decide) rfl rfl hl.1 rfl (Nat.le_of_ble_eq_true rfl) dX8_change_11 ⟨Nat.zero_le _, Nat.zero_le _⟩ ?_
    refine fp_if_eq (tgt := 29) hx hb (bI_r32 _) dX8_change_14 (by decide) (fun q14 => ?_) (fun q14 => ?_)
    · skip
      have w14 := bI_e q14
      refine fp_bipush hx hb dX8_change_29 (by decide) ?_
      have hR : chR (cM m) k t p = (-2) := by unfold chR; repeat (first | rw [if_pos (by omega)] | rw [if_neg (by omega)]); try (first | rfl | omega)
      have hP : va_P D vwCl [(v, .inr (8, [.ref a0, .ref a1, .ref a2, .ref a3, .int (iI (if 0 ≤ chR (cM m) k t p then recN e4 else e4)), .ref a5, .int (iI (e6)), .ref a7, .int (iI (e8)), .int (iI (e9)), .int (iI (e10)), .ref a11, .int (iI (e12)), .int (iI (e13)), .int (iI (e14)), .ref a15])), (a0, fA cyI 54 m), (a1, fA cyI 54 kc), (a3, fA cyI 216 (if 0 ≤ chR (cM m) k t p then recH d m e4 else d))] sx.heap := by
        rw [(show (d : Int → Int) = if 0 ≤ chR (cM m) k t p then recH d m e4 else d from (by first | rw [if_pos (by omega)] | rw [if_neg (by omega)])).symm]
        rw [(show (e4 : Int) = if 0 ≤ chR (cM m) k t p then recN e4 else e4 from (by first | rw [if_pos (by omega)] | rw [if_neg (by omega)])).symm]
        exact hP
      have hret : (chR (cM m) k t p : Int) = (-2) := (by exact hR)
      exact fp_wret (m, kc) hx hb hr hlocks hS (by dsimp only; exact hP) (by rw [if_neg (by omega)]; exact Same_rf _) (congrArg (fun z : Int => some (Value.int (iI z))) hret) dX8_change_31
    · skip
      have w14 := bI_ne q14
      refine lv_iload_n hx hb dX8_change_17 rfl (lv_at hl 3 rfl) ?_
      refine fp_i2l hx hb (by omega) dX8_change_18 ?_
      refine fp_lconst hx hb 0 dX8_change_19 rfl ?_
      refine fp_ldc2 hx hb (2) rfl hown (hts _ ck_X8_change_143) dX8_change_20 ?_
      refine fp_pS (As := [.long (lI (p)), .long (lI (0)), .long (lI (2))]) (rest := []) (wsC := [(v, .inr (8, [.ref a0, .ref a1, .ref a2, .ref a3, .int (iI (e4)), .ref a5, .int (iI (e6)), .ref a7, .int (iI (e8)), .int (iI (e9)), .int (iI (e10)), .ref a11, .int (iI (e12)), .int (iI (e13)), .int (iI (e14)), .ref a15])), (a0, fA cyI 54 m), (a1, fA cyI 54 kc), (a3, fA cyI 216 d)]) ⟨hx, hb, hml, hown, hts⟩ (c_X8_in l D cyI p 0 2 (by omega)) (va_cwS 3 hts gX8_change_X8_in rfl rfl rfl (by decide +kernel) ⟨Nat.le_of_ble_eq_true rfl, Nat.le_of_ble_eq_true rfl⟩) hK hP hD [] (by decide) rfl rfl hl.1 rfl (Nat.le_of_ble_eq_true rfl) dX8_change_23 ⟨Nat.zero_le _, Nat.zero_le _⟩ ?_
      refine fp_if_ne (tgt := 32) hx hb (bI_r32 _) dX8_change_26 (by decide) (fun q26 => ?_) (fun q26 => ?_)
      · skip
        have w26 := bI_ne q26
        refine lv_aload_n hx hb dX8_change_32 rfl (lv_at hl 0 rfl) ?_
        refine lv_iload_n hx hb dX8_change_33 rfl (lv_at hl 1 rfl) ?_
        refine fp_pV (As := [.int (iI (k))]) (rest := []) (wsC := [(v, .inr (8, [.ref a0, .ref a1, .ref a2, .ref a3, .int (iI (e4)), .ref a5, .int (iI (e6)), .ref a7, .int (iI (e8)), .int (iI (e9)), .int (iI (e10)), .ref a11, .int (iI (e12)), .int (iI (e13)), .int (iI (e14)), .ref a15])), (a0, fA cyI 54 m), (a1, fA cyI 54 kc), (a3, fA cyI 216 d)]) ⟨hx, hb, hml, hown, hts⟩ (c_X8_textOf l D cyI v a0 a1 a2 a3 e4 a5 e6 a7 e8 e9 e10 a11 e12 e13 e14 a15 m k (by omega)) (cwV 1 hts gX8_change_X8_textOf rfl rfl rfl (by decide +kernel) ⟨Nat.le_of_ble_eq_true rfl, Nat.le_of_ble_eq_true rfl⟩) hK hP hD [0, 1] (by decide) rfl rfl rfl rfl hl.1 rfl (Nat.le_of_ble_eq_true rfl) dX8_change_34 ⟨Nat.zero_le _, Nat.zero_le _⟩ ?_
        refine lv_iload_n hx hb dX8_change_37 rfl (lv_at hl 2 rfl) ?_
        refine fp_icmp_ne (tgt := 57) hx hb (by omega) dX8_change_38 (by decide) (fun q38 => ?_) (fun q38 => ?_)
        · skip
          refine lv_aload_n hx hb dX8_change_57 rfl (lv_at hl 0 rfl) ?_
          refine fp_wV (As := []) (rest := []) (wsC := [(v, .inr (8, [.ref a0, .ref a1, .ref a2, .ref a3, .int (iI (e4)), .ref a5, .int (iI (e6)), .ref a7, .int (iI (e8)), .int (iI (e9)), .int (iI (e10)), .ref a11, .int (iI (e12)), .int (iI (e13)), .int (iI (e14)), .ref a15])), (a0, fA cyI 54 m), (a1, fA cyI 54 kc), (a3, fA cyI 216 d)]) ⟨hx, hb, hml, hown, hts⟩ (c_X8_remember l D cyI v a0 a1 a2 a3 e4 a5 e6 a7 e8 e9 e10 a11 e12 e13 e14 a15 m kc) (cwV 0 hts gX8_change_X8_remember rfl rfl rfl (by decide +kernel) ⟨Nat.le_of_ble_eq_true rfl, Nat.le_of_ble_eq_true rfl⟩) (fun _ => rfl) hK hP hD hS [0, 1, 2] (by decide) rfl rfl rfl rfl hl.1 rfl (Nat.le_of_ble_eq_true rfl) dX8_change_58 ⟨Nat.zero_le _, Nat.zero_le _⟩ (fun u9v H locs hu hP hD hS => ?_)
          refine W.eq (g2 := F0 mi 61 ls []) rfl ?_
          have hP : va_P D vwCl [(v, .inr (8, [.ref a0, .ref a1, .ref a2, .ref a3, .int (iI (e4)), .ref a5, .int (iI (e6)), .ref a7, .int (iI (e8)), .int (iI (e9)), .int (iI (e10)), .ref a11, .int (iI (e12)), .int (iI (e13)), .int (iI (e14)), .ref a15])), (a0, fA cyI 54 m), (a1, fA cyI 54 m), (a3, fA cyI 216 d)] H := hP
          have hD : va_D (fp_A [(v, .inr (8, [.ref a0, .ref a1, .ref a2, .ref a3, .int (iI (e4)), .ref a5, .int (iI (e6)), .ref a7, .int (iI (e8)), .int (iI (e9)), .int (iI (e10)), .ref a11, .int (iI (e12)), .int (iI (e13)), .int (iI (e14)), .ref a15])), (a0, fA cyI 54 m), (a1, fA cyI 54 kc), (a3, fA cyI 216 d)]) [(v, .inr (8, [.ref a0, .ref a1, .ref a2, .ref a3, .int (iI (e4)), .ref a5, .int (iI (e6)), .ref a7, .int (iI (e8)), .int (iI (e9)), .int (iI (e10)), .ref a11, .int (iI (e12)), .int (iI (e13)), .int (iI (e14)), .ref a15])), (a0, fA cyI 54 m), (a1, fA cyI 54 m), (a3, fA cyI 216 d)] := hD
          refine lv_aload_n hx hb dX8_change_61 rfl (lv_at hl 0 rfl) ?_
          refine va_get (D := D) (ci := 8) (ws := [(v, .inr (8, [.ref a0, .ref a1, .ref a2, .ref a3, .int (iI (e4)), .ref a5, .int (iI (e6)), .ref a7, .int (iI (e8)), .int (iI (e9)), .int (iI (e10)), .ref a11, .int (iI (e12)), .int (iI (e13)), .int (iI (e14)), .ref a15])), (a0, fA cyI 54 m), (a1, fA cyI 54 m), (a3, fA cyI 216 d)]) (v := .ref a0) (C := RX8) (T := TX8) (N := 16) hx hb hts (fun _ h => List.mem_cons_of_mem _ (List.mem_append_right _ h)) hown hK.1 hP 0 rfl rfl 0 (by decide) (hts _ fl_X8_change_7) (fun _ h9 => h9) rfl dX8_change_62 ?_
          refine fp_bipush hx hb dX8_change_65 (by decide) ?_
          refine lv_iload_n hx hb dX8_change_67 rfl (lv_at hl 1 rfl) ?_
          refine fp_iadd hx hb dX8_change_68 ?_
          refine fp_iald (wsC := [(v, .inr (8, [.ref a0, .ref a1, .ref a2, .ref a3, .int (iI (e4)), .ref a5, .int (iI (e6)), .ref a7, .int (iI (e8)), .int (iI (e9)), .int (iI (e10)), .ref a11, .int (iI (e12)), .int (iI (e13)), .int (iI (e14)), .ref a15])), (a0, fA cyI 54 m), (a1, fA cyI 54 m), (a3, fA cyI 216 d)]) hx hb hK hP 1 rfl (by omega) (by decide) dX8_change_69 ?_
          refine lv_iload_n hx hb dX8_change_70 rfl (lv_at hl 2 rfl) ?_
          have jn4 : ∀ (pl9 : Int), (pl9 = min (m (42 + k)) t) → ∀ (H : Heap) (locs : List Loc), va_P D vwCl [(v, .inr (8, [.ref a0, .ref a1, .ref a2, .ref a3, .int (iI (e4)), .ref a5, .int (iI (e6)), .ref a7, .int (iI (e8)), .int (iI (e9)), .int (iI (e10)), .ref a11, .int (iI (e12)), .int (iI (e13)), .int (iI (e14)), .ref a15])), (a0, fA cyI 54 m), (a1, fA cyI 54 m), (a3, fA cyI 216 d)] H → va_D (fp_A [(v, .inr (8, [.ref a0, .ref a1, .ref a2, .ref a3, .int (iI (e4)), .ref a5, .int (iI (e6)), .ref a7, .int (iI (e8)), .int (iI (e9)), .int (iI (e10)), .ref a11, .int (iI (e12)), .int (iI (e13)), .int (iI (e14)), .ref a15])), (a0, fA cyI 54 m), (a1, fA cyI 54 kc), (a3, fA cyI 216 d)]) [(v, .inr (8, [.ref a0, .ref a1, .ref a2, .ref a3, .int (iI (e4)), .ref a5, .int (iI (e6)), .ref a7, .int (iI (e8)), .int (iI (e9)), .int (iI (e10)), .ref a11, .int (iI (e12)), .int (iI (e13)), .int (iI (e14)), .ref a15])), (a0, fA cyI 54 m), (a1, fA cyI 54 m), (a3, fA cyI 216 d)] → va_S (fp_A [(v, .inr (8, [.ref a0, .ref a1, .ref a2, .ref a3, .int (iI (e4)), .ref a5, .int (iI (e6)), .ref a7, .int (iI (e8)), .int (iI (e9)), .int (iI (e10)), .ref a11, .int (iI (e12)), .int (iI (e13)), .int (iI (e14)), .ref a15])), (a0, fA cyI 54 m), (a1, fA cyI 54 kc), (a3, fA cyI 216 d)]) sx.heap H locs → ∀ (ls : Array Slot), lv_has ls 5 [(0, .ref v), (1, .int (iI (k))), (2, .int (iI (t))), (3, .int (iI (p)))] → W pg l en ({ frames := 3, cells := 0, slots := 0, locals := 64 } : Room) sx mi ar bl mt cd H locs 0 0 (MQ bl (fp_Qw D [(v, .inr (8, [.ref a0, .ref a1, .ref a2, .ref a3, .int (iI (e4)), .ref a5, .int (iI (e6)), .ref a7, .int (iI (e8)), .int (iI (e9)), .int (iI (e10)), .ref a11, .int (iI (e12)), .int (iI (e13)), .int (iI (e14)), .ref a15])), (a0, fA cyI 54 m), (a1, fA cyI 54 kc), (a3, fA cyI 216 d)] (fun (u9 : (Int → Int) × (Int → Int)) => (Same (if 0 ≤ chR (cM m) k t p then chC (cM m) k t p else cM m) (cM u9.1))) (fun (u9 : (Int → Int) × (Int → Int)) => some (.int (iI (chR (cM m) k t p)))) (fun (u9 : (Int → Int) × (Int → Int)) => [(v, .inr (8, [.ref a0, .ref a1, .ref a2, .ref a3, .int (iI (if 0 ≤ chR (cM m) k t p then recN e4 else e4)), .ref a5, .int (iI (e6)), .ref a7, .int (iI (e8)), .int (iI (e9)), .int (iI (e10)), .ref a11, .int (iI (e12)), .int (iI (e13)), .int (iI (e14)), .ref a15])), (a0, fA cyI 54 u9.1), (a1, fA cyI 54 u9.2), (a3, fA cyI 216 (if 0 ≤ chR (cM m) k t p then recH d m e4 else d))])) ar sx 0 0 (fp_A [(v, .inr (8, [.ref a0, .ref a1, .ref a2, .ref a3, .int (iI (e4)), .ref a5, .int (iI (e6)), .ref a7, .int (iI (e8)), .int (iI (e9)), .int (iI (e10)), .ref a11, .int (iI (e12)), .int (iI (e13)), .int (iI (e14)), .ref a15])), (a0, fA cyI 54 m), (a1, fA cyI 54 kc), (a3, fA cyI 216 d)])) (F0 mi 87 ls [.int (iI (pl9))]) := by
            intro pl9 jl H locs hP hD hS ls hl
            refine lv_istore (lv' := [(4, .int (iI (pl9))), (0, .ref v), (1, .int (iI (k))), (2, .int (iI (t))), (3, .int (iI (p)))]) hx hb dX8_change_87 hl (by decide) rfl (fun ls hl => ?_)
            refine lv_aload_n hx hb dX8_change_89 rfl (lv_at hl 1 rfl) ?_
            refine lv_iload_n hx hb dX8_change_90 rfl (lv_at hl 2 rfl) ?_
            refine lv_iload_n hx hb dX8_change_91 rfl (lv_at hl 3 rfl) ?_
            refine lv_iload_n hx hb dX8_change_92 rfl (lv_at hl 4 rfl) ?_
            refine lv_aload_n hx hb dX8_change_93 rfl (lv_at hl 1 rfl) ?_
            refine va_get (D := D) (ci := 8) (ws := [(v, .inr (8, [.ref a0, .ref a1, .ref a2, .ref a3, .int (iI (e4)), .ref a5, .int (iI (e6)), .ref a7, .int (iI (e8)), .int (iI (e9)), .int (iI (e10)), .ref a11, .int (iI (e12)), .int (iI (e13)), .int (iI (e14)), .ref a15])), (a0, fA cyI 54 m), (a1, fA cyI 54 m), (a3, fA cyI 216 d)]) (v := .ref a0) (C := RX8) (T := TX8) (N := 16) hx hb hts (fun _ h => List.mem_cons_of_mem _ (List.mem_append_right _ h)) hown hK.1 hP 0 rfl rfl 0 (by decide) (hts _ fl_X8_change_7) (fun _ h9 => h9) rfl dX8_change_94 ?_
            refine fp_bipush hx hb dX8_change_97 (by decide) ?_
            refine lv_iload_n hx hb dX8_change_99 rfl (lv_at hl 2 rfl) ?_
            refine fp_iadd hx hb dX8_change_100 ?_
            refine fp_iald (wsC := [(v, .inr (8, [.ref a0, .ref a1, .ref a2, .ref a3, .int (iI (e4)), .ref a5, .int (iI (e6)), .ref a7, .int (iI (e8)), .int (iI (e9)), .int (iI (e10)), .ref a11, .int (iI (e12)), .int (iI (e13)), .int (iI (e14)), .ref a15])), (a0, fA cyI 54 m), (a1, fA cyI 54 m), (a3, fA cyI 216 d)]) hx hb hK hP 1 rfl (by omega) (by decide) dX8_change_101 ?_
            refine lv_iload_n hx hb dX8_change_102 rfl (lv_at hl 4 rfl) ?_
            have jn5 : ∀ (pq9 : Int), (pq9 = if p = 0 then 0 else min (m (42 + k)) t) → ∀ (H : Heap) (locs : List Loc), va_P D vwCl [(v, .inr (8, [.ref a0, .ref a1, .ref a2, .ref a3, .int (iI (e4)), .ref a5, .int (iI (e6)), .ref a7, .int (iI (e8)), .int (iI (e9)), .int (iI (e10)), .ref a11, .int (iI (e12)), .int (iI (e13)), .int (iI (e14)), .ref a15])), (a0, fA cyI 54 m), (a1, fA cyI 54 m), (a3, fA cyI 216 d)] H → va_D (fp_A [(v, .inr (8, [.ref a0, .ref a1, .ref a2, .ref a3, .int (iI (e4)), .ref a5, .int (iI (e6)), .ref a7, .int (iI (e8)), .int (iI (e9)), .int (iI (e10)), .ref a11, .int (iI (e12)), .int (iI (e13)), .int (iI (e14)), .ref a15])), (a0, fA cyI 54 m), (a1, fA cyI 54 kc), (a3, fA cyI 216 d)]) [(v, .inr (8, [.ref a0, .ref a1, .ref a2, .ref a3, .int (iI (e4)), .ref a5, .int (iI (e6)), .ref a7, .int (iI (e8)), .int (iI (e9)), .int (iI (e10)), .ref a11, .int (iI (e12)), .int (iI (e13)), .int (iI (e14)), .ref a15])), (a0, fA cyI 54 m), (a1, fA cyI 54 m), (a3, fA cyI 216 d)] → va_S (fp_A [(v, .inr (8, [.ref a0, .ref a1, .ref a2, .ref a3, .int (iI (e4)), .ref a5, .int (iI (e6)), .ref a7, .int (iI (e8)), .int (iI (e9)), .int (iI (e10)), .ref a11, .int (iI (e12)), .int (iI (e13)), .int (iI (e14)), .ref a15])), (a0, fA cyI 54 m), (a1, fA cyI 54 kc), (a3, fA cyI 216 d)]) sx.heap H locs → ∀ (ls : Array Slot), lv_has ls 5 [(0, .ref v), (1, .int (iI (k))), (2, .int (iI (t))), (3, .int (iI (p))), (4, .int (iI (pl9)))] → W pg l en ({ frames := 3, cells := 0, slots := 0, locals := 64 } : Room) sx mi ar bl mt cd H locs 0 0 (MQ bl (fp_Qw D [(v, .inr (8, [.ref a0, .ref a1, .ref a2, .ref a3, .int (iI (e4)), .ref a5, .int (iI (e6)), .ref a7, .int (iI (e8)), .int (iI (e9)), .int (iI (e10)), .ref a11, .int (iI (e12)), .int (iI (e13)), .int (iI (e14)), .ref a15])), (a0, fA cyI 54 m), (a1, fA cyI 54 kc), (a3, fA cyI 216 d)] (fun (u9 : (Int → Int) × (Int → Int)) => (Same (if 0 ≤ chR (cM m) k t p then chC (cM m) k t p else cM m) (cM u9.1))) (fun (u9 : (Int → Int) × (Int → Int)) => some (.int (iI (chR (cM m) k t p)))) (fun (u9 : (Int → Int) × (Int → Int)) => [(v, .inr (8, [.ref a0, .ref a1, .ref a2, .ref a3, .int (iI (if 0 ≤ chR (cM m) k t p then recN e4 else e4)), .ref a5, .int (iI (e6)), .ref a7, .int (iI (e8)), .int (iI (e9)), .int (iI (e10)), .ref a11, .int (iI (e12)), .int (iI (e13)), .int (iI (e14)), .ref a15])), (a0, fA cyI 54 u9.1), (a1, fA cyI 54 u9.2), (a3, fA cyI 216 (if 0 ≤ chR (cM m) k t p then recH d m e4 else d))])) ar sx 0 0 (fp_A [(v, .inr (8, [.ref a0, .ref a1, .ref a2, .ref a3, .int (iI (e4)), .ref a5, .int (iI (e6)), .ref a7, .int (iI (e8)), .int (iI (e9)), .int (iI (e10)), .ref a11, .int (iI (e12)), .int (iI (e13)), .int (iI (e14)), .ref a15])), (a0, fA cyI 54 m), (a1, fA cyI 54 kc), (a3, fA cyI 216 d)])) (F0 mi 112 ls [.int (iI (pq9)), .int (iI (m (30 + k))), .int (iI (p)), .int (iI (t)), .int (iI (k)), .ref v]) := by
              intro pq9 jq H locs hP hD hS ls hl
              rw [show (pq9 : Int) = if p = 0 then 0 else min (m (42 + k)) t from jq]
              refine fp_wV (As := [.int (iI (k)), .int (iI (t)), .int (iI (p)), .int (iI (m (30 + k))), .int (iI (if p = 0 then 0 else min (m (42 + k)) t))]) (rest := []) (wsC := [(v, .inr (8, [.ref a0, .ref a1, .ref a2, .ref a3, .int (iI (e4)), .ref a5, .int (iI (e6)), .ref a7, .int (iI (e8)), .int (iI (e9)), .int (iI (e10)), .ref a11, .int (iI (e12)), .int (iI (e13)), .int (iI (e14)), .ref a15])), (a0, fA cyI 54 m), (a1, fA cyI 54 m), (a3, fA cyI 216 d)]) ⟨hx, hb, hml, hown, hts⟩ (c_X8_puts l D cyI v a0 a1 a2 a3 e4 a5 e6 a7 e8 e9 e10 a11 e12 e13 e14 a15 m k t p (m (30 + k)) (if p = 0 then 0 else min (m (42 + k)) t) (by omega)) (cwV 5 hts gX8_change_X8_puts rfl rfl rfl (by decide +kernel) ⟨Nat.le_of_ble_eq_true rfl, Nat.le_of_ble_eq_true rfl⟩) (fun _ => rfl) hK hP hD hS [0, 1] (by decide) rfl rfl rfl rfl hl.1 rfl (Nat.le_of_ble_eq_true rfl) dX8_change_112 ⟨Nat.zero_le _, Nat.zero_le _⟩ (fun u9v H locs hu hP hD hS => ?_)
              refine W.eq (g2 := F0 mi 115 ls []) rfl ?_
              have hP : va_P D vwCl [(v, .inr (8, [.ref a0, .ref a1, .ref a2, .ref a3, .int (iI (e4)), .ref a5, .int (iI (e6)), .ref a7, .int (iI (e8)), .int (iI (e9)), .int (iI (e10)), .ref a11, .int (iI (e12)), .int (iI (e13)), .int (iI (e14)), .ref a15])), (a0, fA cyI 54 (puM m k t p (m (30 + k)) (if p = 0 then 0 else min (m (42 + k)) t))), (a1, fA cyI 54 m), (a3, fA cyI 216 d)] H := hP
              have hD : va_D (fp_A [(v, .inr (8, [.ref a0, .ref a1, .ref a2, .ref a3, .int (iI (e4)), .ref a5, .int (iI (e6)), .ref a7, .int (iI (e8)), .int (iI (e9)), .int (iI (e10)), .ref a11, .int (iI (e12)), .int (iI (e13)), .int (iI (e14)), .ref a15])), (a0, fA cyI 54 m), (a1, fA cyI 54 kc), (a3, fA cyI 216 d)]) [(v, .inr (8, [.ref a0, .ref a1, .ref a2, .ref a3, .int (iI (e4)), .ref a5, .int (iI (e6)), .ref a7, .int (iI (e8)), .int (iI (e9)), .int (iI (e10)), .ref a11, .int (iI (e12)), .int (iI (e13)), .int (iI (e14)), .ref a15])), (a0, fA cyI 54 (puM m k t p (m (30 + k)) (if p = 0 then 0 else min (m (42 + k)) t))), (a1, fA cyI 54 m), (a3, fA cyI 216 d)] := hD
              have hsm := Same_chM (m := m) (k := k) (t := t) (p := p) hN.2 (by omega)
              have hC9 := Cat_ch hC (k := k) (t := t) (p := p) (by omega) (by omega)
              have hC8 := Same_Cat hsm hC9
              have hpe := (Same_la hsm).2.2.2
              refine lv_aload_n hx hb dX8_change_115 rfl (lv_at hl 0 rfl) ?_
              refine lv_aload_n hx hb dX8_change_116 rfl (lv_at hl 0 rfl) ?_
              refine fp_pV (As := []) (rest := [.ref v]) (wsC := [(v, .inr (8, [.ref a0, .ref a1, .ref a2, .ref a3, .int (iI (e4)), .ref a5, .int (iI (e6)), .ref a7, .int (iI (e8)), .int (iI (e9)), .int (iI (e10)), .ref a11, .int (iI (e12)), .int (iI (e13)), .int (iI (e14)), .ref a15])), (a0, fA cyI 54 (puM m k t p (m (30 + k)) (if p = 0 then 0 else min (m (42 + k)) t))), (a1, fA cyI 54 m), (a3, fA cyI 216 d)]) ⟨hx, hb, hml, hown, hts⟩ (c_X8_pagesOfLots l D cyI v a0 a1 a2 a3 e4 a5 e6 a7 e8 e9 e10 a11 e12 e13 e14 a15 (puM m k t p (m (30 + k)) (if p = 0 then 0 else min (m (42 + k)) t)) hC8) (cwV 0 hts gX8_change_X8_pagesOfLots rfl rfl rfl (by decide +kernel) ⟨Nat.le_of_ble_eq_true rfl, Nat.le_of_ble_eq_true rfl⟩) hK hP hD [0, 1] (by decide) rfl rfl rfl rfl hl.1 rfl (Nat.le_of_ble_eq_true rfl) dX8_change_117 ⟨Nat.zero_le _, Nat.zero_le _⟩ ?_
              rw [show (pgC (cM (puM m k t p (m (30 + k)) (if p = 0 then 0 else min (m (42 + k)) t))) (cM (puM m k t p (m (30 + k)) (if p = 0 then 0 else min (m (42 + k)) t)) 0) : Int) = pgC (chC (cM m) k t p) (chC (cM m) k t p 0) from hpe.symm]
              refine fp_wV (As := [.int (iI (pgC (chC (cM m) k t p) (chC (cM m) k t p 0)))]) (rest := []) (wsC := [(v, .inr (8, [.ref a0, .ref a1, .ref a2, .ref a3, .int (iI (e4)), .ref a5, .int (iI (e6)), .ref a7, .int (iI (e8)), .int (iI (e9)), .int (iI (e10)), .ref a11, .int (iI (e12)), .int (iI (e13)), .int (iI (e14)), .ref a15])), (a0, fA cyI 54 (puM m k t p (m (30 + k)) (if p = 0 then 0 else min (m (42 + k)) t))), (a1, fA cyI 54 m), (a3, fA cyI 216 d)]) ⟨hx, hb, hml, hown, hts⟩ (c_X8_acted l D cyI v a0 a1 a2 a3 e4 a5 e6 a7 e8 e9 e10 a11 e12 e13 e14 a15 m d (pgC (chC (cM m) k t p) (chC (cM m) k t p 0)) (by omega)) (cwV 1 hts gX8_change_X8_acted rfl rfl rfl (by decide +kernel) ⟨Nat.le_of_ble_eq_true rfl, Nat.le_of_ble_eq_true rfl⟩) (fun _ => rfl) hK hP hD hS [0, 2, 3] (by decide) rfl rfl rfl rfl hl.1 rfl (Nat.le_of_ble_eq_true rfl) dX8_change_120 ⟨Nat.zero_le _, Nat.zero_le _⟩ (fun u9v H locs hu hP hD hS => ?_)
              refine W.eq (g2 := F0 mi 123 ls [.int (iI ((pgC (chC (cM m) k t p) (chC (cM m) k t p 0))))]) rfl ?_
              have hP : va_P D vwCl [(v, .inr (8, [.ref a0, .ref a1, .ref a2, .ref a3, .int (iI (recN e4)), .ref a5, .int (iI (e6)), .ref a7, .int (iI (e8)), .int (iI (e9)), .int (iI (e10)), .ref a11, .int (iI (e12)), .int (iI (e13)), .int (iI (e14)), .ref a15])), (a0, fA cyI 54 (puM m k t p (m (30 + k)) (if p = 0 then 0 else min (m (42 + k)) t))), (a1, fA cyI 54 m), (a3, fA cyI 216 (recH d m e4))] H := hP
              have hD : va_D (fp_A [(v, .inr (8, [.ref a0, .ref a1, .ref a2, .ref a3, .int (iI (e4)), .ref a5, .int (iI (e6)), .ref a7, .int (iI (e8)), .int (iI (e9)), .int (iI (e10)), .ref a11, .int (iI (e12)), .int (iI (e13)), .int (iI (e14)), .ref a15])), (a0, fA cyI 54 m), (a1, fA cyI 54 kc), (a3, fA cyI 216 d)]) [(v, .inr (8, [.ref a0, .ref a1, .ref a2, .ref a3, .int (iI (recN e4)), .ref a5, .int (iI (e6)), .ref a7, .int (iI (e8)), .int (iI (e9)), .int (iI (e10)), .ref a11, .int (iI (e12)), .int (iI (e13)), .int (iI (e14)), .ref a15])), (a0, fA cyI 54 (puM m k t p (m (30 + k)) (if p = 0 then 0 else min (m (42 + k)) t))), (a1, fA cyI 54 m), (a3, fA cyI 216 (recH d m e4))] := hD
              have hp9 := pgC_b hC9 (k := chC (cM m) k t p 0) (by have := hC9.1; omega)
              have hR : chR (cM m) k t p = (pgC (chC (cM m) k t p) (chC (cM m) k t p 0)) := by unfold chR; repeat (first | rw [if_pos (by omega)] | rw [if_neg (by omega)]); try (first | rfl | omega)
              have hP : va_P D vwCl [(v, .inr (8, [.ref a0, .ref a1, .ref a2, .ref a3, .int (iI (if 0 ≤ chR (cM m) k t p then recN e4 else e4)), .ref a5, .int (iI (e6)), .ref a7, .int (iI (e8)), .int (iI (e9)), .int (iI (e10)), .ref a11, .int (iI (e12)), .int (iI (e13)), .int (iI (e14)), .ref a15])), (a0, fA cyI 54 (puM m k t p (m (30 + k)) (if p = 0 then 0 else min (m (42 + k)) t))), (a1, fA cyI 54 m), (a3, fA cyI 216 (if 0 ≤ chR (cM m) k t p then recH d m e4 else d))] H := by
                rw [(show (recH d m e4 : Int → Int) = if 0 ≤ chR (cM m) k t p then recH d m e4 else d from (by first | rw [if_pos (by omega)] | rw [if_neg (by omega)])).symm]
                rw [(show (recN e4 : Int) = if 0 ≤ chR (cM m) k t p then recN e4 else e4 from (by first | rw [if_pos (by omega)] | rw [if_neg (by omega)])).symm]
                exact hP
              have hret : (chR (cM m) k t p : Int) = (pgC (chC (cM m) k t p) (chC (cM m) k t p 0)) := (by exact hR)
              exact fp_wret (puM m k t p (m (30 + k)) (if p = 0 then 0 else min (m (42 + k)) t), m) hx hb hr hlocks hS (by dsimp only; exact hP) (by rw [if_pos (by omega)]; exact hsm) (congrArg (fun z : Int => some (Value.int (iI z))) hret) dX8_change_123
            refine fp_if_ne (tgt := 110) hx hb (by omega) dX8_change_103 (by decide) (fun q103 => ?_) (fun q103 => ?_)
            · skip
              refine lv_iload hx hb dX8_change_110 (lv_at hl 0 rfl) ?_
              exact jn5 pl9 (by first | rw [if_pos (by omega)] | (rw [if_neg (by omega)]; exact jl)) H locs hP hD hS ls (lv_sub hl [1, 2, 3, 4, 0] rfl)
            · skip
              refine fp_iconst hx hb dX8_change_106 ?_
              refine lv_goto (tgt := 112) hx hb dX8_change_107 (by decide) ?_
              exact jn5 0 (by first | rw [if_pos (by omega)] | (rw [if_neg (by omega)]; exact jl)) H locs hP hD hS ls (lv_sub hl [1, 2, 3, 4, 0] rfl)
          refine fp_icmp_le (tgt := 78) hx hb (by omega) dX8_change_71 (by decide) (fun q71 => ?_) (fun q71 => ?_)
          · skip
            refine lv_aload_n hx hb dX8_change_78 rfl (lv_at hl 0 rfl) ?_
            refine va_get (D := D) (ci := 8) (ws := [(v, .inr (8, [.ref a0, .ref a1, .ref a2, .ref a3, .int (iI (e4)), .ref a5, .int (iI (e6)), .ref a7, .int (iI (e8)), .int (iI (e9)), .int (iI (e10)), .ref a11, .int (iI (e12)), .int (iI (e13)), .int (iI (e14)), .ref a15])), (a0, fA cyI 54 m), (a1, fA cyI 54 m), (a3, fA cyI 216 d)]) (v := .ref a0) (C := RX8) (T := TX8) (N := 16) hx hb hts (fun _ h => List.mem_cons_of_mem _ (List.mem_append_right _ h)) hown hK.1 hP 0 rfl rfl 0 (by decide) (hts _ fl_X8_change_7) (fun _ h9 => h9) rfl dX8_change_79 ?_
            refine fp_bipush hx hb dX8_change_82 (by decide) ?_
            refine lv_iload_n hx hb dX8_change_84 rfl (lv_at hl 1 rfl) ?_
            refine fp_iadd hx hb dX8_change_85 ?_
            refine fp_iald (wsC := [(v, .inr (8, [.ref a0, .ref a1, .ref a2, .ref a3, .int (iI (e4)), .ref a5, .int (iI (e6)), .ref a7, .int (iI (e8)), .int (iI (e9)), .int (iI (e10)), .ref a11, .int (iI (e12)), .int (iI (e13)), .int (iI (e14)), .ref a15])), (a0, fA cyI 54 m), (a1, fA cyI 54 m), (a3, fA cyI 216 d)]) hx hb hK hP 1 rfl (by omega) (by decide) dX8_change_86 ?_
            exact jn4 (m (42 + k)) (by omega) H locs hP hD hS ls (lv_sub hl [0, 1, 2, 3] rfl)
          · skip
            refine lv_iload_n hx hb dX8_change_74 rfl (lv_at hl 2 rfl) ?_
            refine lv_goto (tgt := 87) hx hb dX8_change_75 (by decide) ?_
            exact jn4 t (by omega) H locs hP hD hS ls (lv_sub hl [0, 1, 2, 3] rfl)
        · skip
          refine lv_aload_n hx hb dX8_change_41 rfl (lv_at hl 0 rfl) ?_
          refine va_get (D := D) (ci := 8) (ws := [(v, .inr (8, [.ref a0, .ref a1, .ref a2, .ref a3, .int (iI (e4)), .ref a5, .int (iI (e6)), .ref a7, .int (iI (e8)), .int (iI (e9)), .int (iI (e10)), .ref a11, .int (iI (e12)), .int (iI (e13)), .int (iI (e14)), .ref a15])), (a0, fA cyI 54 m), (a1, fA cyI 54 kc), (a3, fA cyI 216 d)]) (v := .ref a0) (C := RX8) (T := TX8) (N := 16) hx hb hts (fun _ h => List.mem_cons_of_mem _ (List.mem_append_right _ h)) hown hK.1 hP 0 rfl rfl 0 (by decide) (hts _ fl_X8_change_7) (fun _ h9 => h9) rfl dX8_change_42 ?_
          refine fp_bipush hx hb dX8_change_45 (by decide) ?_
          refine lv_iload_n hx hb dX8_change_47 rfl (lv_at hl 1 rfl) ?_
          refine fp_iadd hx hb dX8_change_48 ?_
          refine fp_iald (wsC := [(v, .inr (8, [.ref a0, .ref a1, .ref a2, .ref a3, .int (iI (e4)), .ref a5, .int (iI (e6)), .ref a7, .int (iI (e8)), .int (iI (e9)), .int (iI (e10)), .ref a11, .int (iI (e12)), .int (iI (e13)), .int (iI (e14)), .ref a15])), (a0, fA cyI 54 m), (a1, fA cyI 54 kc), (a3, fA cyI 216 d)]) hx hb hK hP 1 rfl (by omega) (by decide) dX8_change_49 ?_
          refine lv_iload_n hx hb dX8_change_50 rfl (lv_at hl 3 rfl) ?_
          refine fp_icmp_ne (tgt := 57) hx hb (by omega) dX8_change_51 (by decide) (fun q51 => ?_) (fun q51 => ?_)
          · skip
            refine lv_aload_n hx hb dX8_change_57 rfl (lv_at hl 0 rfl) ?_
            refine fp_wV (As := []) (rest := []) (wsC := [(v, .inr (8, [.ref a0, .ref a1, .ref a2, .ref a3, .int (iI (e4)), .ref a5, .int (iI (e6)), .ref a7, .int (iI (e8)), .int (iI (e9)), .int (iI (e10)), .ref a11, .int (iI (e12)), .int (iI (e13)), .int (iI (e14)), .ref a15])), (a0, fA cyI 54 m), (a1, fA cyI 54 kc), (a3, fA cyI 216 d)]) ⟨hx, hb, hml, hown, hts⟩ (c_X8_remember l D cyI v a0 a1 a2 a3 e4 a5 e6 a7 e8 e9 e10 a11 e12 e13 e14 a15 m kc) (cwV 0 hts gX8_change_X8_remember rfl rfl rfl (by decide +kernel) ⟨Nat.le_of_ble_eq_true rfl, Nat.le_of_ble_eq_true rfl⟩) (fun _ => rfl) hK hP hD hS [0, 1, 2] (by decide) rfl rfl rfl rfl hl.1 rfl (Nat.le_of_ble_eq_true rfl) dX8_change_58 ⟨Nat.zero_le _, Nat.zero_le _⟩ (fun u9v H locs hu hP hD hS => ?_)
            refine W.eq (g2 := F0 mi 61 ls []) rfl ?_
            have hP : va_P D vwCl [(v, .inr (8, [.ref a0, .ref a1, .ref a2, .ref a3, .int (iI (e4)), .ref a5, .int (iI (e6)), .ref a7, .int (iI (e8)), .int (iI (e9)), .int (iI (e10)), .ref a11, .int (iI (e12)), .int (iI (e13)), .int (iI (e14)), .ref a15])), (a0, fA cyI 54 m), (a1, fA cyI 54 m), (a3, fA cyI 216 d)] H := hP
            have hD : va_D (fp_A [(v, .inr (8, [.ref a0, .ref a1, .ref a2, .ref a3, .int (iI (e4)), .ref a5, .int (iI (e6)), .ref a7, .int (iI (e8)), .int (iI (e9)), .int (iI (e10)), .ref a11, .int (iI (e12)), .int (iI (e13)), .int (iI (e14)), .ref a15])), (a0, fA cyI 54 m), (a1, fA cyI 54 kc), (a3, fA cyI 216 d)]) [(v, .inr (8, [.ref a0, .ref a1, .ref a2, .ref a3, .int (iI (e4)), .ref a5, .int (iI (e6)), .ref a7, .int (iI (e8)), .int (iI (e9)), .int (iI (e10)), .ref a11, .int (iI (e12)), .int (iI (e13)), .int (iI (e14)), .ref a15])), (a0, fA cyI 54 m), (a1, fA cyI 54 m), (a3, fA cyI 216 d)] := hD
            refine lv_aload_n hx hb dX8_change_61 rfl (lv_at hl 0 rfl) ?_
            refine va_get (D := D) (ci := 8) (ws := [(v, .inr (8, [.ref a0, .ref a1, .ref a2, .ref a3, .int (iI (e4)), .ref a5, .int (iI (e6)), .ref a7, .int (iI (e8)), .int (iI (e9)), .int (iI (e10)), .ref a11, .int (iI (e12)), .int (iI (e13)), .int (iI (e14)), .ref a15])), (a0, fA cyI 54 m), (a1, fA cyI 54 m), (a3, fA cyI 216 d)]) (v := .ref a0) (C := RX8) (T := TX8) (N := 16) hx hb hts (fun _ h => List.mem_cons_of_mem _ (List.mem_append_right _ h)) hown hK.1 hP 0 rfl rfl 0 (by decide) (hts _ fl_X8_change_7) (fun _ h9 => h9) rfl dX8_change_62 ?_
            refine fp_bipush hx hb dX8_change_65 (by decide) ?_
            refine lv_iload_n hx hb dX8_change_67 rfl (lv_at hl 1 rfl) ?_
            refine fp_iadd hx hb dX8_change_68 ?_
            refine fp_iald (wsC := [(v, .inr (8, [.ref a0, .ref a1, .ref a2, .ref a3, .int (iI (e4)), .ref a5, .int (iI (e6)), .ref a7, .int (iI (e8)), .int (iI (e9)), .int (iI (e10)), .ref a11, .int (iI (e12)), .int (iI (e13)), .int (iI (e14)), .ref a15])), (a0, fA cyI 54 m), (a1, fA cyI 54 m), (a3, fA cyI 216 d)]) hx hb hK hP 1 rfl (by omega) (by decide) dX8_change_69 ?_
            refine lv_iload_n hx hb dX8_change_70 rfl (lv_at hl 2 rfl) ?_
            have jn9 : ∀ (pl9 : Int), (pl9 = min (m (42 + k)) t) → ∀ (H : Heap) (locs : List Loc), va_P D vwCl [(v, .inr (8, [.ref a0, .ref a1, .ref a2, .ref a3, .int (iI (e4)), .ref a5, .int (iI (e6)), .ref a7, .int (iI (e8)), .int (iI (e9)), .int (iI (e10)), .ref a11, .int (iI (e12)), .int (iI (e13)), .int (iI (e14)), .ref a15])), (a0, fA cyI 54 m), (a1, fA cyI 54 m), (a3, fA cyI 216 d)] H → va_D (fp_A [(v, .inr (8, [.ref a0, .ref a1, .ref a2, .ref a3, .int (iI (e4)), .ref a5, .int (iI (e6)), .ref a7, .int (iI (e8)), .int (iI (e9)), .int (iI (e10)), .ref a11, .int (iI (e12)), .int (iI (e13)), .int (iI (e14)), .ref a15])), (a0, fA cyI 54 m), (a1, fA cyI 54 kc), (a3, fA cyI 216 d)]) [(v, .inr (8, [.ref a0, .ref a1, .ref a2, .ref a3, .int (iI (e4)), .ref a5, .int (iI (e6)), .ref a7, .int (iI (e8)), .int (iI (e9)), .int (iI (e10)), .ref a11, .int (iI (e12)), .int (iI (e13)), .int (iI (e14)), .ref a15])), (a0, fA cyI 54 m), (a1, fA cyI 54 m), (a3, fA cyI 216 d)] → va_S (fp_A [(v, .inr (8, [.ref a0, .ref a1, .ref a2, .ref a3, .int (iI (e4)), .ref a5, .int (iI (e6)), .ref a7, .int (iI (e8)), .int (iI (e9)), .int (iI (e10)), .ref a11, .int (iI (e12)), .int (iI (e13)), .int (iI (e14)), .ref a15])), (a0, fA cyI 54 m), (a1, fA cyI 54 kc), (a3, fA cyI 216 d)]) sx.heap H locs → ∀ (ls : Array Slot), lv_has ls 5 [(0, .ref v), (1, .int (iI (k))), (2, .int (iI (t))), (3, .int (iI (p)))] → W pg l en ({ frames := 3, cells := 0, slots := 0, locals := 64 } : Room) sx mi ar bl mt cd H locs 0 0 (MQ bl (fp_Qw D [(v, .inr (8, [.ref a0, .ref a1, .ref a2, .ref a3, .int (iI (e4)), .ref a5, .int (iI (e6)), .ref a7, .int (iI (e8)), .int (iI (e9)), .int (iI (e10)), .ref a11, .int (iI (e12)), .int (iI (e13)), .int (iI (e14)), .ref a15])), (a0, fA cyI 54 m), (a1, fA cyI 54 kc), (a3, fA cyI 216 d)] (fun (u9 : (Int → Int) × (Int → Int)) => (Same (if 0 ≤ chR (cM m) k t p then chC (cM m) k t p else cM m) (cM u9.1))) (fun (u9 : (Int → Int) × (Int → Int)) => some (.int (iI (chR (cM m) k t p)))) (fun (u9 : (Int → Int) × (Int → Int)) => [(v, .inr (8, [.ref a0, .ref a1, .ref a2, .ref a3, .int (iI (if 0 ≤ chR (cM m) k t p then recN e4 else e4)), .ref a5, .int (iI (e6)), .ref a7, .int (iI (e8)), .int (iI (e9)), .int (iI (e10)), .ref a11, .int (iI (e12)), .int (iI (e13)), .int (iI (e14)), .ref a15])), (a0, fA cyI 54 u9.1), (a1, fA cyI 54 u9.2), (a3, fA cyI 216 (if 0 ≤ chR (cM m) k t p then recH d m e4 else d))])) ar sx 0 0 (fp_A [(v, .inr (8, [.ref a0, .ref a1, .ref a2, .ref a3, .int (iI (e4)), .ref a5, .int (iI (e6)), .ref a7, .int (iI (e8)), .int (iI (e9)), .int (iI (e10)), .ref a11, .int (iI (e12)), .int (iI (e13)), .int (iI (e14)), .ref a15])), (a0, fA cyI 54 m), (a1, fA cyI 54 kc), (a3, fA cyI 216 d)])) (F0 mi 87 ls [.int (iI (pl9))]) := by
              intro pl9 jl H locs hP hD hS ls hl
              refine lv_istore (lv' := [(4, .int (iI (pl9))), (0, .ref v), (1, .int (iI (k))), (2, .int (iI (t))), (3, .int (iI (p)))]) hx hb dX8_change_87 hl (by decide) rfl (fun ls hl => ?_)
              refine lv_aload_n hx hb dX8_change_89 rfl (lv_at hl 1 rfl) ?_
              refine lv_iload_n hx hb dX8_change_90 rfl (lv_at hl 2 rfl) ?_
              refine lv_iload_n hx hb dX8_change_91 rfl (lv_at hl 3 rfl) ?_
              refine lv_iload_n hx hb dX8_change_92 rfl (lv_at hl 4 rfl) ?_
              refine lv_aload_n hx hb dX8_change_93 rfl (lv_at hl 1 rfl) ?_
              refine va_get (D := D) (ci := 8) (ws := [(v, .inr (8, [.ref a0, .ref a1, .ref a2, .ref a3, .int (iI (e4)), .ref a5, .int (iI (e6)), .ref a7, .int (iI (e8)), .int (iI (e9)), .int (iI (e10)), .ref a11, .int (iI (e12)), .int (iI (e13)), .int (iI (e14)), .ref a15])), (a0, fA cyI 54 m), (a1, fA cyI 54 m), (a3, fA cyI 216 d)]) (v := .ref a0) (C := RX8) (T := TX8) (N := 16) hx hb hts (fun _ h => List.mem_cons_of_mem _ (List.mem_append_right _ h)) hown hK.1 hP 0 rfl rfl 0 (by decide) (hts _ fl_X8_change_7) (fun _ h9 => h9) rfl dX8_change_94 ?_
              refine fp_bipush hx hb dX8_change_97 (by decide) ?_
              refine lv_iload_n hx hb dX8_change_99 rfl (lv_at hl 2 rfl) ?_
              refine fp_iadd hx hb dX8_change_100 ?_
              refine fp_iald (wsC := [(v, .inr (8, [.ref a0, .ref a1, .ref a2, .ref a3, .int (iI (e4)), .ref a5, .int (iI (e6)), .ref a7, .int (iI (e8)), .int (iI (e9)), .int (iI (e10)), .ref a11, .int (iI (e12)), .int (iI (e13)), .int (iI (e14)), .ref a15])), (a0, fA cyI 54 m), (a1, fA cyI 54 m), (a3, fA cyI 216 d)]) hx hb hK hP 1 rfl (by omega) (by decide) dX8_change_101 ?_
              refine lv_iload_n hx hb dX8_change_102 rfl (lv_at hl 4 rfl) ?_
              have jn10 : ∀ (pq9 : Int), (pq9 = if p = 0 then 0 else min (m (42 + k)) t) → ∀ (H : Heap) (locs : List Loc), va_P D vwCl [(v, .inr (8, [.ref a0, .ref a1, .ref a2, .ref a3, .int (iI (e4)), .ref a5, .int (iI (e6)), .ref a7, .int (iI (e8)), .int (iI (e9)), .int (iI (e10)), .ref a11, .int (iI (e12)), .int (iI (e13)), .int (iI (e14)), .ref a15])), (a0, fA cyI 54 m), (a1, fA cyI 54 m), (a3, fA cyI 216 d)] H → va_D (fp_A [(v, .inr (8, [.ref a0, .ref a1, .ref a2, .ref a3, .int (iI (e4)), .ref a5, .int (iI (e6)), .ref a7, .int (iI (e8)), .int (iI (e9)), .int (iI (e10)), .ref a11, .int (iI (e12)), .int (iI (e13)), .int (iI (e14)), .ref a15])), (a0, fA cyI 54 m), (a1, fA cyI 54 kc), (a3, fA cyI 216 d)]) [(v, .inr (8, [.ref a0, .ref a1, .ref a2, .ref a3, .int (iI (e4)), .ref a5, .int (iI (e6)), .ref a7, .int (iI (e8)), .int (iI (e9)), .int (iI (e10)), .ref a11, .int (iI (e12)), .int (iI (e13)), .int (iI (e14)), .ref a15])), (a0, fA cyI 54 m), (a1, fA cyI 54 m), (a3, fA cyI 216 d)] → va_S (fp_A [(v, .inr (8, [.ref a0, .ref a1, .ref a2, .ref a3, .int (iI (e4)), .ref a5, .int (iI (e6)), .ref a7, .int (iI (e8)), .int (iI (e9)), .int (iI (e10)), .ref a11, .int (iI (e12)), .int (iI (e13)), .int (iI (e14)), .ref a15])), (a0, fA cyI 54 m), (a1, fA cyI 54 kc), (a3, fA cyI 216 d)]) sx.heap H locs → ∀ (ls : Array Slot), lv_has ls 5 [(0, .ref v), (1, .int (iI (k))), (2, .int (iI (t))), (3, .int (iI (p))), (4, .int (iI (pl9)))] → W pg l en ({ frames := 3, cells := 0, slots := 0, locals := 64 } : Room) sx mi ar bl mt cd H locs 0 0 (MQ bl (fp_Qw D [(v, .inr (8, [.ref a0, .ref a1, .ref a2, .ref a3, .int (iI (e4)), .ref a5, .int (iI (e6)), .ref a7, .int (iI (e8)), .int (iI (e9)), .int (iI (e10)), .ref a11, .int (iI (e12)), .int (iI (e13)), .int (iI (e14)), .ref a15])), (a0, fA cyI 54 m), (a1, fA cyI 54 kc), (a3, fA cyI 216 d)] (fun (u9 : (Int → Int) × (Int → Int)) => (Same (if 0 ≤ chR (cM m) k t p then chC (cM m) k t p else cM m) (cM u9.1))) (fun (u9 : (Int → Int) × (Int → Int)) => some (.int (iI (chR (cM m) k t p)))) (fun (u9 : (Int → Int) × (Int → Int)) => [(v, .inr (8, [.ref a0, .ref a1, .ref a2, .ref a3, .int (iI (if 0 ≤ chR (cM m) k t p then recN e4 else e4)), .ref a5, .int (iI (e6)), .ref a7, .int (iI (e8)), .int (iI (e9)), .int (iI (e10)), .ref a11, .int (iI (e12)), .int (iI (e13)), .int (iI (e14)), .ref a15])), (a0, fA cyI 54 u9.1), (a1, fA cyI 54 u9.2), (a3, fA cyI 216 (if 0 ≤ chR (cM m) k t p then recH d m e4 else d))])) ar sx 0 0 (fp_A [(v, .inr (8, [.ref a0, .ref a1, .ref a2, .ref a3, .int (iI (e4)), .ref a5, .int (iI (e6)), .ref a7, .int (iI (e8)), .int (iI (e9)), .int (iI (e10)), .ref a11, .int (iI (e12)), .int (iI (e13)), .int (iI (e14)), .ref a15])), (a0, fA cyI 54 m), (a1, fA cyI 54 kc), (a3, fA cyI 216 d)])) (F0 mi 112 ls [.int (iI (pq9)), .int (iI (m (30 + k))), .int (iI (p)), .int (iI (t)), .int (iI (k)), .ref v]) := by
                intro pq9 jq H locs hP hD hS ls hl
                rw [show (pq9 : Int) = if p = 0 then 0 else min (m (42 + k)) t from jq]
                refine fp_wV (As := [.int (iI (k)), .int (iI (t)), .int (iI (p)), .int (iI (m (30 + k))), .int (iI (if p = 0 then 0 else min (m (42 + k)) t))]) (rest := []) (wsC := [(v, .inr (8, [.ref a0, .ref a1, .ref a2, .ref a3, .int (iI (e4)), .ref a5, .int (iI (e6)), .ref a7, .int (iI (e8)), .int (iI (e9)), .int (iI (e10)), .ref a11, .int (iI (e12)), .int (iI (e13)), .int (iI (e14)), .ref a15])), (a0, fA cyI 54 m), (a1, fA cyI 54 m), (a3, fA cyI 216 d)]) ⟨hx, hb, hml, hown, hts⟩ (c_X8_puts l D cyI v a0 a1 a2 a3 e4 a5 e6 a7 e8 e9 e10 a11 e12 e13 e14 a15 m k t p (m (30 + k)) (if p = 0 then 0 else min (m (42 + k)) t) (by omega)) (cwV 5 hts gX8_change_X8_puts rfl rfl rfl (by decide +kernel) ⟨Nat.le_of_ble_eq_true rfl, Nat.le_of_ble_eq_true rfl⟩) (fun _ => rfl) hK hP hD hS [0, 1] (by decide) rfl rfl rfl rfl hl.1 rfl (Nat.le_of_ble_eq_true rfl) dX8_change_112 ⟨Nat.zero_le _, Nat.zero_le _⟩ (fun u9v H locs hu hP hD hS => ?_)
                refine W.eq (g2 := F0 mi 115 ls []) rfl ?_
                have hP : va_P D vwCl [(v, .inr (8, [.ref a0, .ref a1, .ref a2, .ref a3, .int (iI (e4)), .ref a5, .int (iI (e6)), .ref a7, .int (iI (e8)), .int (iI (e9)), .int (iI (e10)), .ref a11, .int (iI (e12)), .int (iI (e13)), .int (iI (e14)), .ref a15])), (a0, fA cyI 54 (puM m k t p (m (30 + k)) (if p = 0 then 0 else min (m (42 + k)) t))), (a1, fA cyI 54 m), (a3, fA cyI 216 d)] H := hP
                have hD : va_D (fp_A [(v, .inr (8, [.ref a0, .ref a1, .ref a2, .ref a3, .int (iI (e4)), .ref a5, .int (iI (e6)), .ref a7, .int (iI (e8)), .int (iI (e9)), .int (iI (e10)), .ref a11, .int (iI (e12)), .int (iI (e13)), .int (iI (e14)), .ref a15])), (a0, fA cyI 54 m), (a1, fA cyI 54 kc), (a3, fA cyI 216 d)]) [(v, .inr (8, [.ref a0, .ref a1, .ref a2, .ref a3, .int (iI (e4)), .ref a5, .int (iI (e6)), .ref a7, .int (iI (e8)), .int (iI (e9)), .int (iI (e10)), .ref a11, .int (iI (e12)), .int (iI (e13)), .int (iI (e14)), .ref a15])), (a0, fA cyI 54 (puM m k t p (m (30 + k)) (if p = 0 then 0 else min (m (42 + k)) t))), (a1, fA cyI 54 m), (a3, fA cyI 216 d)] := hD
                have hsm := Same_chM (m := m) (k := k) (t := t) (p := p) hN.2 (by omega)
                have hC9 := Cat_ch hC (k := k) (t := t) (p := p) (by omega) (by omega)
                have hC8 := Same_Cat hsm hC9
                have hpe := (Same_la hsm).2.2.2
                refine lv_aload_n hx hb dX8_change_115 rfl (lv_at hl 0 rfl) ?_
                refine lv_aload_n hx hb dX8_change_116 rfl (lv_at hl 0 rfl) ?_
                refine fp_pV (As := []) (rest := [.ref v]) (wsC := [(v, .inr (8, [.ref a0, .ref a1, .ref a2, .ref a3, .int (iI (e4)), .ref a5, .int (iI (e6)), .ref a7, .int (iI (e8)), .int (iI (e9)), .int (iI (e10)), .ref a11, .int (iI (e12)), .int (iI (e13)), .int (iI (e14)), .ref a15])), (a0, fA cyI 54 (puM m k t p (m (30 + k)) (if p = 0 then 0 else min (m (42 + k)) t))), (a1, fA cyI 54 m), (a3, fA cyI 216 d)]) ⟨hx, hb, hml, hown, hts⟩ (c_X8_pagesOfLots l D cyI v a0 a1 a2 a3 e4 a5 e6 a7 e8 e9 e10 a11 e12 e13 e14 a15 (puM m k t p (m (30 + k)) (if p = 0 then 0 else min (m (42 + k)) t)) hC8) (cwV 0 hts gX8_change_X8_pagesOfLots rfl rfl rfl (by decide +kernel) ⟨Nat.le_of_ble_eq_true rfl, Nat.le_of_ble_eq_true rfl⟩) hK hP hD [0, 1] (by decide) rfl rfl rfl rfl hl.1 rfl (Nat.le_of_ble_eq_true rfl) dX8_change_117 ⟨Nat.zero_le _, Nat.zero_le _⟩ ?_
                rw [show (pgC (cM (puM m k t p (m (30 + k)) (if p = 0 then 0 else min (m (42 + k)) t))) (cM (puM m k t p (m (30 + k)) (if p = 0 then 0 else min (m (42 + k)) t)) 0) : Int) = pgC (chC (cM m) k t p) (chC (cM m) k t p 0) from hpe.symm]
                refine fp_wV (As := [.int (iI (pgC (chC (cM m) k t p) (chC (cM m) k t p 0)))]) (rest := []) (wsC := [(v, .inr (8, [.ref a0, .ref a1, .ref a2, .ref a3, .int (iI (e4)), .ref a5, .int (iI (e6)), .ref a7, .int (iI (e8)), .int (iI (e9)), .int (iI (e10)), .ref a11, .int (iI (e12)), .int (iI (e13)), .int (iI (e14)), .ref a15])), (a0, fA cyI 54 (puM m k t p (m (30 + k)) (if p = 0 then 0 else min (m (42 + k)) t))), (a1, fA cyI 54 m), (a3, fA cyI 216 d)]) ⟨hx, hb, hml, hown, hts⟩ (c_X8_acted l D cyI v a0 a1 a2 a3 e4 a5 e6 a7 e8 e9 e10 a11 e12 e13 e14 a15 m d (pgC (chC (cM m) k t p) (chC (cM m) k t p 0)) (by omega)) (cwV 1 hts gX8_change_X8_acted rfl rfl rfl (by decide +kernel) ⟨Nat.le_of_ble_eq_true rfl, Nat.le_of_ble_eq_true rfl⟩) (fun _ => rfl) hK hP hD hS [0, 2, 3] (by decide) rfl rfl rfl rfl hl.1 rfl (Nat.le_of_ble_eq_true rfl) dX8_change_120 ⟨Nat.zero_le _, Nat.zero_le _⟩ (fun u9v H locs hu hP hD hS => ?_)
                refine W.eq (g2 := F0 mi 123 ls [.int (iI ((pgC (chC (cM m) k t p) (chC (cM m) k t p 0))))]) rfl ?_
                have hP : va_P D vwCl [(v, .inr (8, [.ref a0, .ref a1, .ref a2, .ref a3, .int (iI (recN e4)), .ref a5, .int (iI (e6)), .ref a7, .int (iI (e8)), .int (iI (e9)), .int (iI (e10)), .ref a11, .int (iI (e12)), .int (iI (e13)), .int (iI (e14)), .ref a15])), (a0, fA cyI 54 (puM m k t p (m (30 + k)) (if p = 0 then 0 else min (m (42 + k)) t))), (a1, fA cyI 54 m), (a3, fA cyI 216 (recH d m e4))] H := hP
                have hD : va_D (fp_A [(v, .inr (8, [.ref a0, .ref a1, .ref a2, .ref a3, .int (iI (e4)), .ref a5, .int (iI (e6)), .ref a7, .int (iI (e8)), .int (iI (e9)), .int (iI (e10)), .ref a11, .int (iI (e12)), .int (iI (e13)), .int (iI (e14)), .ref a15])), (a0, fA cyI 54 m), (a1, fA cyI 54 kc), (a3, fA cyI 216 d)]) [(v, .inr (8, [.ref a0, .ref a1, .ref a2, .ref a3, .int (iI (recN e4)), .ref a5, .int (iI (e6)), .ref a7, .int (iI (e8)), .int (iI (e9)), .int (iI (e10)), .ref a11, .int (iI (e12)), .int (iI (e13)), .int (iI (e14)), .ref a15])), (a0, fA cyI 54 (puM m k t p (m (30 + k)) (if p = 0 then 0 else min (m (42 + k)) t))), (a1, fA cyI 54 m), (a3, fA cyI 216 (recH d m e4))] := hD
                have hp9 := pgC_b hC9 (k := chC (cM m) k t p 0) (by have := hC9.1; omega)
                have hR : chR (cM m) k t p = (pgC (chC (cM m) k t p) (chC (cM m) k t p 0)) := by unfold chR; repeat (first | rw [if_pos (by omega)] | rw [if_neg (by omega)]); try (first | rfl | omega)
                have hP : va_P D vwCl [(v, .inr (8, [.ref a0, .ref a1, .ref a2, .ref a3, .int (iI (if 0 ≤ chR (cM m) k t p then recN e4 else e4)), .ref a5, .int (iI (e6)), .ref a7, .int (iI (e8)), .int (iI (e9)), .int (iI (e10)), .ref a11, .int (iI (e12)), .int (iI (e13)), .int (iI (e14)), .ref a15])), (a0, fA cyI 54 (puM m k t p (m (30 + k)) (if p = 0 then 0 else min (m (42 + k)) t))), (a1, fA cyI 54 m), (a3, fA cyI 216 (if 0 ≤ chR (cM m) k t p then recH d m e4 else d))] H := by
                  rw [(show (recH d m e4 : Int → Int) = if 0 ≤ chR (cM m) k t p then recH d m e4 else d from (by first | rw [if_pos (by omega)] | rw [if_neg (by omega)])).symm]
                  rw [(show (recN e4 : Int) = if 0 ≤ chR (cM m) k t p then recN e4 else e4 from (by first | rw [if_pos (by omega)] | rw [if_neg (by omega)])).symm]
                  exact hP
                have hret : (chR (cM m) k t p : Int) = (pgC (chC (cM m) k t p) (chC (cM m) k t p 0)) := (by exact hR)
                exact fp_wret (puM m k t p (m (30 + k)) (if p = 0 then 0 else min (m (42 + k)) t), m) hx hb hr hlocks hS (by dsimp only; exact hP) (by rw [if_pos (by omega)]; exact hsm) (congrArg (fun z : Int => some (Value.int (iI z))) hret) dX8_change_123
              refine fp_if_ne (tgt := 110) hx hb (by omega) dX8_change_103 (by decide) (fun q103 => ?_) (fun q103 => ?_)
              · skip
                refine lv_iload hx hb dX8_change_110 (lv_at hl 0 rfl) ?_
                exact jn10 pl9 (by first | rw [if_pos (by omega)] | (rw [if_neg (by omega)]; exact jl)) H locs hP hD hS ls (lv_sub hl [1, 2, 3, 4, 0] rfl)
              · skip
                refine fp_iconst hx hb dX8_change_106 ?_
                refine lv_goto (tgt := 112) hx hb dX8_change_107 (by decide) ?_
                exact jn10 0 (by first | rw [if_pos (by omega)] | (rw [if_neg (by omega)]; exact jl)) H locs hP hD hS ls (lv_sub hl [1, 2, 3, 4, 0] rfl)
            refine fp_icmp_le (tgt := 78) hx hb (by omega) dX8_change_71 (by decide) (fun q71 => ?_) (fun q71 => ?_)
            · skip
              refine lv_aload_n hx hb dX8_change_78 rfl (lv_at hl 0 rfl) ?_
              refine va_get (D := D) (ci := 8) (ws := [(v, .inr (8, [.ref a0, .ref a1, .ref a2, .ref a3, .int (iI (e4)), .ref a5, .int (iI (e6)), .ref a7, .int (iI (e8)), .int (iI (e9)), .int (iI (e10)), .ref a11, .int (iI (e12)), .int (iI (e13)), .int (iI (e14)), .ref a15])), (a0, fA cyI 54 m), (a1, fA cyI 54 m), (a3, fA cyI 216 d)]) (v := .ref a0) (C := RX8) (T := TX8) (N := 16) hx hb hts (fun _ h => List.mem_cons_of_mem _ (List.mem_append_right _ h)) hown hK.1 hP 0 rfl rfl 0 (by decide) (hts _ fl_X8_change_7) (fun _ h9 => h9) rfl dX8_change_79 ?_
              refine fp_bipush hx hb dX8_change_82 (by decide) ?_
              refine lv_iload_n hx hb dX8_change_84 rfl (lv_at hl 1 rfl) ?_
              refine fp_iadd hx hb dX8_change_85 ?_
              refine fp_iald (wsC := [(v, .inr (8, [.ref a0, .ref a1, .ref a2, .ref a3, .int (iI (e4)), .ref a5, .int (iI (e6)), .ref a7, .int (iI (e8)), .int (iI (e9)), .int (iI (e10)), .ref a11, .int (iI (e12)), .int (iI (e13)), .int (iI (e14)), .ref a15])), (a0, fA cyI 54 m), (a1, fA cyI 54 m), (a3, fA cyI 216 d)]) hx hb hK hP 1 rfl (by omega) (by decide) dX8_change_86 ?_
              exact jn9 (m (42 + k)) (by omega) H locs hP hD hS ls (lv_sub hl [0, 1, 2, 3] rfl)
            · skip
              refine lv_iload_n hx hb dX8_change_74 rfl (lv_at hl 2 rfl) ?_
              refine lv_goto (tgt := 87) hx hb dX8_change_75 (by decide) ?_
              exact jn9 t (by omega) H locs hP hD hS ls (lv_sub hl [0, 1, 2, 3] rfl)
          · skip
            refine fp_bipush hx hb dX8_change_54 (by decide) ?_
            have hR : chR (cM m) k t p = (-5) := by unfold chR; repeat (first | rw [if_pos (by omega)] | rw [if_neg (by omega)]); try (first | rfl | omega)
            have hP : va_P D vwCl [(v, .inr (8, [.ref a0, .ref a1, .ref a2, .ref a3, .int (iI (if 0 ≤ chR (cM m) k t p then recN e4 else e4)), .ref a5, .int (iI (e6)), .ref a7, .int (iI (e8)), .int (iI (e9)), .int (iI (e10)), .ref a11, .int (iI (e12)), .int (iI (e13)), .int (iI (e14)), .ref a15])), (a0, fA cyI 54 m), (a1, fA cyI 54 kc), (a3, fA cyI 216 (if 0 ≤ chR (cM m) k t p then recH d m e4 else d))] sx.heap := by
              rw [(show (d : Int → Int) = if 0 ≤ chR (cM m) k t p then recH d m e4 else d from (by first | rw [if_pos (by omega)] | rw [if_neg (by omega)])).symm]
              rw [(show (e4 : Int) = if 0 ≤ chR (cM m) k t p then recN e4 else e4 from (by first | rw [if_pos (by omega)] | rw [if_neg (by omega)])).symm]
              exact hP
            have hret : (chR (cM m) k t p : Int) = (-5) := (by exact hR)
            exact fp_wret (m, kc) hx hb hr hlocks hS (by dsimp only; exact hP) (by rw [if_neg (by omega)]; exact Same_rf _) (congrArg (fun z : Int => some (Value.int (iI z))) hret) dX8_change_56
      · skip
        have w26 := bI_e q26
        refine fp_bipush hx hb dX8_change_29 (by decide) ?_
        have hR : chR (cM m) k t p = (-2) := by unfold chR; repeat (first | rw [if_pos (by omega)] | rw [if_neg (by omega)]); try (first | rfl | omega)
        have hP : va_P D vwCl [(v, .inr (8, [.ref a0, .ref a1, .ref a2, .ref a3, .int (iI (if 0 ≤ chR (cM m) k t p then recN e4 else e4)), .ref a5, .int (iI (e6)), .ref a7, .int (iI (e8)), .int (iI (e9)), .int (iI (e10)), .ref a11, .int (iI (e12)), .int (iI (e13)), .int (iI (e14)), .ref a15])), (a0, fA cyI 54 m), (a1, fA cyI 54 kc), (a3, fA cyI 216 (if 0 ≤ chR (cM m) k t p then recH d m e4 else d))] sx.heap := by
          rw [(show (d : Int → Int) = if 0 ≤ chR (cM m) k t p then recH d m e4 else d from (by first | rw [if_pos (by omega)] | rw [if_neg (by omega)])).symm]
          rw [(show (e4 : Int) = if 0 ≤ chR (cM m) k t p then recN e4 else e4 from (by first | rw [if_pos (by omega)] | rw [if_neg (by omega)])).symm]
          exact hP
        have hret : (chR (cM m) k t p : Int) = (-2) := (by exact hR)
        exact fp_wret (m, kc) hx hb hr hlocks hS (by dsimp only; exact hP) (by rw [if_neg (by omega)]; exact Same_rf _) (congrArg (fun z : Int => some (Value.int (iI z))) hret) dX8_change_31
  · skip
    have w5 := bI_e q5
    refine fp_iconst hx hb dX8_change_8 ?_
    have hR : chR (cM m) k t p = (-1) := by unfold chR; repeat (first | rw [if_pos (by omega)] | rw [if_neg (by omega)]); try (first | rfl | omega)
    have hP : va_P D vwCl [(v, .inr (8, [.ref a0, .ref a1, .ref a2, .ref a3, .int (iI (if 0 ≤ chR (cM m) k t p then recN e4 else e4)), .ref a5, .int (iI (e6)), .ref a7, .int (iI (e8)), .int (iI (e9)), .int (iI (e10)), .ref a11, .int (iI (e12)), .int (iI (e13)), .int (iI (e14)), .ref a15])), (a0, fA cyI 54 m), (a1, fA cyI 54 kc), (a3, fA cyI 216 (if 0 ≤ chR (cM m) k t p then recH d m e4 else d))] sx.heap := by
      rw [(show (d : Int → Int) = if 0 ≤ chR (cM m) k t p then recH d m e4 else d from (by first | rw [if_pos (by omega)] | rw [if_neg (by omega)])).symm]
      rw [(show (e4 : Int) = if 0 ≤ chR (cM m) k t p then recN e4 else e4 from (by first | rw [if_pos (by omega)] | rw [if_neg (by omega)])).symm]
      exact hP
    have hret : (chR (cM m) k t p : Int) = (-1) := (by exact hR)
    exact fp_wret (m, kc) hx hb hr hlocks hS (by dsimp only; exact hP) (by rw [if_neg (by omega)]; exact Same_rf _) (congrArg (fun z : Int => some (Value.int (iI z))) hret) dX8_change_9
theorem fl_X8_move_7 : Cond.fieldLink RX8 7 "FacingPlatesModel" "all" "[I" ∈ wsX8_move := by decide +kernel
set_option maxHeartbeats 4000000 in
set_option maxRecDepth 100000 in
theorem c_X8_move (l : Launch) (D : va_G) (cyI : ClassId) (v : Nat) (a0 : Nat) (a1 : Nat) (a2 : Nat) (a3 : Nat) (e4 : Int) (a5 : Nat) (e6 : Int) (a7 : Nat) (e8 : Int) (e9 : Int) (e10 : Int) (a11 : Nat) (e12 : Int) (e13 : Int) (e14 : Int) (a15 : Nat) (m : Int → Int) (kc : Int → Int) (d : Int → Int) (k : Int) (t : Int) (hC : CatOK (cM m)) (he4 : 0 ≤ e4 ∧ e4 ≤ 4) (hk9 : -2147483648 ≤ k ∧ k ≤ 2147483647) (ht9 : -2147483648 ≤ t ∧ t ≤ 2147483647) : fp_MW l yX8_move wsX8_move ({ frames := 8, cells := 0, slots := 0, locals := 174 } : Room) D cyI [(v, .inr (8, [.ref a0, .ref a1, .ref a2, .ref a3, .int (iI (e4)), .ref a5, .int (iI (e6)), .ref a7, .int (iI (e8)), .int (iI (e9)), .int (iI (e10)), .ref a11, .int (iI (e12)), .int (iI (e13)), .int (iI (e14)), .ref a15])), (a0, fA cyI 54 m), (a1, fA cyI 54 kc), (a3, fA cyI 216 d)] [.ref v, .int (iI (k)), .int (iI (t))] (fun (u9 : (Int → Int) × (Int → Int)) => (Same (if 0 ≤ mvR (cM m) k t then shL (cM m) k t else cM m) (cM u9.1))) (fun (u9 : (Int → Int) × (Int → Int)) => some (.int (iI (mvR (cM m) k t)))) (fun (u9 : (Int → Int) × (Int → Int)) => [(v, .inr (8, [.ref a0, .ref a1, .ref a2, .ref a3, .int (iI (if 0 ≤ mvR (cM m) k t then recN e4 else e4)), .ref a5, .int (iI (e6)), .ref a7, .int (iI (e8)), .int (iI (e9)), .int (iI (e10)), .ref a11, .int (iI (e12)), .int (iI (e13)), .int (iI (e14)), .ref a15])), (a0, fA cyI 54 u9.1), (a1, fA cyI 54 u9.2), (a3, fA cyI 216 (if 0 ≤ mvR (cM m) k t then recH d m e4 else d))]) := by
  refine fp_start (cc := cX8_move) (maxL := 9) (ret := (some .int)) (by decide) rfl (Nat.le_of_ble_eq_true rfl) ?_
  intro pg en sx mi ar bl mt cd ls hx hb hr hts hown hlocks hml hnm hP hK hD hl
  have hown : sx.vm.findClass RX8 = some mi.cls := hown
  have hl : lv_has ls 9 [(0, .ref v), (1, .int (iI (k))), (2, .int (iI (t)))] := hl
  have hD := fp_self hD
  have hS : va_S (fp_A [(v, .inr (8, [.ref a0, .ref a1, .ref a2, .ref a3, .int (iI (e4)), .ref a5, .int (iI (e6)), .ref a7, .int (iI (e8)), .int (iI (e9)), .int (iI (e10)), .ref a11, .int (iI (e12)), .int (iI (e13)), .int (iI (e14)), .ref a15])), (a0, fA cyI 54 m), (a1, fA cyI 54 kc), (a3, fA cyI 216 d)]) sx.heap sx.heap [] := va_S.rf
  have hN := hC.1
  rw [cM_0] at hN
  have e0 : cM m 0 = m 5 := cM_0 m
  refine lv_aload_n hx hb dX8_move_0 rfl (lv_at hl 0 rfl) ?_
  refine lv_iload_n hx hb dX8_move_1 rfl (lv_at hl 1 rfl) ?_
  refine fp_pV (As := [.int (iI (k))]) (rest := []) (wsC := [(v, .inr (8, [.ref a0, .ref a1, .ref a2, .ref a3, .int (iI (e4)), .ref a5, .int (iI (e6)), .ref a7, .int (iI (e8)), .int (iI (e9)), .int (iI (e10)), .ref a11, .int (iI (e12)), .int (iI (e13)), .int (iI (e14)), .ref a15])), (a0, fA cyI 54 m), (a1, fA cyI 54 kc), (a3, fA cyI 216 d)]) ⟨hx, hb, hml, hown, hts⟩ (c_X8_isLot l D cyI v a0 a1 a2 a3 e4 a5 e6 a7 e8 e9 e10 a11 e12 e13 e14 a15 m k (by omega) hN) (cwV 1 hts gX8_move_X8_isLot rfl rfl rfl (by decide +kernel) ⟨Nat.le_of_ble_eq_true rfl, Nat.le_of_ble_eq_true rfl⟩) hK hP hD [0, 1] (by decide) rfl rfl rfl rfl hl.1 rfl (Nat.le_of_ble_eq_true rfl) dX8_move_2 ⟨Nat.zero_le _, Nat.zero_le _⟩ ?_
  refine fp_if_eq (tgt := 16) hx hb (bI_r32 _) dX8_move_5 (by decide) (fun q5 => ?_) (fun q5 => ?_)
  · skip
    have w5 := bI_e q5
    refine fp_iconst hx hb dX8_move_16 ?_
    have hR : mvR (cM m) k t = (-1) := by unfold mvR; repeat (first | rw [if_pos (by omega)] | rw [if_neg (by omega)]); try (first | rfl | omega)
    have hP : va_P D vwCl [(v, .inr (8, [.ref a0, .ref a1, .ref a2, .ref a3, .int (iI (if 0 ≤ mvR (cM m) k t then recN e4 else e4)), .ref a5, .int (iI (e6)), .ref a7, .int (iI (e8)), .int (iI (e9)), .int (iI (e10)), .ref a11, .int (iI (e12)), .int (iI (e13)), .int (iI (e14)), .ref a15])), (a0, fA cyI 54 m), (a1, fA cyI 54 kc), (a3, fA cyI 216 (if 0 ≤ mvR (cM m) k t then recH d m e4 else d))] sx.heap := by
      rw [(show (d : Int → Int) = if 0 ≤ mvR (cM m) k t then recH d m e4 else d from (by first | rw [if_pos (by omega)] | rw [if_neg (by omega)])).symm]
      rw [(show (e4 : Int) = if 0 ≤ mvR (cM m) k t then recN e4 else e4 from (by first | rw [if_pos (by omega)] | rw [if_neg (by omega)])).symm]
      exact hP
    have hret : (mvR (cM m) k t : Int) = (-1) := (by exact hR)
    exact fp_wret (m, kc) hx hb hr hlocks hS (by dsimp only; exact hP) (by rw [if_neg (by omega)]; exact Same_rf _) (congrArg (fun z : Int => some (Value.int (iI z))) hret) dX8_move_17
  · skip
    have w5 := bI_ne q5
    refine lv_aload_n hx hb dX8_move_8 rfl (lv_at hl 0 rfl) ?_
    refine lv_iload_n hx hb dX8_move_9 rfl (lv_at hl 2 rfl) ?_
    refine fp_pV (As := [.int (iI (t))]) (rest := []) (wsC := [(v, .inr (8, [.ref a0, .ref a1, .ref a2, .ref a3, .int (iI (e4)), .ref a5, .int (iI (e6)), .ref a7, .int (iI (e8)), .int (iI (e9)), .int (iI (e10)), .ref a11, .int (iI (e12)), .int (iI (e13)), .int (iI (e14)), .ref a15])), (a0, fA cyI 54 m), (a1, fA cyI 54 kc), (a3, fA cyI 216 d)]) ⟨hx, hb, hml, hown, hts⟩ (c_X8_isLot l D cyI v a0 a1 a2 a3 e4 a5 e6 a7 e8 e9 e10 a11 e12 e13 e14 a15 m t ht9 hN) (cwV 1 hts gX8_move_X8_isLot rfl rfl rfl (by decide +kernel) ⟨Nat.le_of_ble_eq_true rfl, Nat.le_of_ble_eq_true rfl⟩) hK hP hD [0, 1] (by decide) rfl rfl rfl rfl hl.1 rfl (Nat.le_of_ble_eq_true rfl) dX8_move_10 ⟨Nat.zero_le _, Nat.zero_le _⟩ ?_
    refine fp_if_ne (tgt := 18) hx hb (bI_r32 _) dX8_move_13 (by decide) (fun q13 => ?_) (fun q13 => ?_)
    · skip
      have w13 := bI_ne q13
      have hk := w5
      have ht := w13
      have hL := lot_f hC (k := k) (by omega)
      unfold LotOK at hL
      have e1 : cM m (k * 4 + 1) = m (6 + k) := cM_t (by omega)
      refine lv_iload_n hx hb dX8_move_18 rfl (lv_at hl 1 rfl) ?_
      refine lv_iload_n hx hb dX8_move_19 rfl (lv_at hl 2 rfl) ?_
      refine fp_icmp_ne (tgt := 26) hx hb (by omega) dX8_move_20 (by decide) (fun q20 => ?_) (fun q20 => ?_)
      · skip
        refine lv_aload_n hx hb dX8_move_26 rfl (lv_at hl 0 rfl) ?_
        refine fp_wV (As := []) (rest := []) (wsC := [(v, .inr (8, [.ref a0, .ref a1, .ref a2, .ref a3, .int (iI (e4)), .ref a5, .int (iI (e6)), .ref a7, .int (iI (e8)), .int (iI (e9)), .int (iI (e10)), .ref a11, .int (iI (e12)), .int (iI (e13)), .int (iI (e14)), .ref a15])), (a0, fA cyI 54 m), (a1, fA cyI 54 kc), (a3, fA cyI 216 d)]) ⟨hx, hb, hml, hown, hts⟩ (c_X8_remember l D cyI v a0 a1 a2 a3 e4 a5 e6 a7 e8 e9 e10 a11 e12 e13 e14 a15 m kc) (cwV 0 hts gX8_move_X8_remember rfl rfl rfl (by decide +kernel) ⟨Nat.le_of_ble_eq_true rfl, Nat.le_of_ble_eq_true rfl⟩) (fun _ => rfl) hK hP hD hS [0, 1, 2] (by decide) rfl rfl rfl rfl hl.1 rfl (Nat.le_of_ble_eq_true rfl) dX8_move_27 ⟨Nat.zero_le _, Nat.zero_le _⟩ (fun u9v H locs hu hP hD hS => ?_)
        refine W.eq (g2 := F0 mi 30 ls []) rfl ?_
        have hP : va_P D vwCl [(v, .inr (8, [.ref a0, .ref a1, .ref a2, .ref a3, .int (iI (e4)), .ref a5, .int (iI (e6)), .ref a7, .int (iI (e8)), .int (iI (e9)), .int (iI (e10)), .ref a11, .int (iI (e12)), .int (iI (e13)), .int (iI (e14)), .ref a15])), (a0, fA cyI 54 m), (a1, fA cyI 54 m), (a3, fA cyI 216 d)] H := hP
        have hD : va_D (fp_A [(v, .inr (8, [.ref a0, .ref a1, .ref a2, .ref a3, .int (iI (e4)), .ref a5, .int (iI (e6)), .ref a7, .int (iI (e8)), .int (iI (e9)), .int (iI (e10)), .ref a11, .int (iI (e12)), .int (iI (e13)), .int (iI (e14)), .ref a15])), (a0, fA cyI 54 m), (a1, fA cyI 54 kc), (a3, fA cyI 216 d)]) [(v, .inr (8, [.ref a0, .ref a1, .ref a2, .ref a3, .int (iI (e4)), .ref a5, .int (iI (e6)), .ref a7, .int (iI (e8)), .int (iI (e9)), .int (iI (e10)), .ref a11, .int (iI (e12)), .int (iI (e13)), .int (iI (e14)), .ref a15])), (a0, fA cyI 54 m), (a1, fA cyI 54 m), (a3, fA cyI 216 d)] := hD
        refine lv_iload_n hx hb dX8_move_30 rfl (lv_at hl 1 rfl) ?_
        refine lv_iload_n hx hb dX8_move_31 rfl (lv_at hl 2 rfl) ?_
        have jn3 : ∀ (dr : Int), (dr = if k < t then 1 else -1) → ∀ (H : Heap) (locs : List Loc), va_P D vwCl [(v, .inr (8, [.ref a0, .ref a1, .ref a2, .ref a3, .int (iI (e4)), .ref a5, .int (iI (e6)), .ref a7, .int (iI (e8)), .int (iI (e9)), .int (iI (e10)), .ref a11, .int (iI (e12)), .int (iI (e13)), .int (iI (e14)), .ref a15])), (a0, fA cyI 54 m), (a1, fA cyI 54 m), (a3, fA cyI 216 d)] H → va_D (fp_A [(v, .inr (8, [.ref a0, .ref a1, .ref a2, .ref a3, .int (iI (e4)), .ref a5, .int (iI (e6)), .ref a7, .int (iI (e8)), .int (iI (e9)), .int (iI (e10)), .ref a11, .int (iI (e12)), .int (iI (e13)), .int (iI (e14)), .ref a15])), (a0, fA cyI 54 m), (a1, fA cyI 54 kc), (a3, fA cyI 216 d)]) [(v, .inr (8, [.ref a0, .ref a1, .ref a2, .ref a3, .int (iI (e4)), .ref a5, .int (iI (e6)), .ref a7, .int (iI (e8)), .int (iI (e9)), .int (iI (e10)), .ref a11, .int (iI (e12)), .int (iI (e13)), .int (iI (e14)), .ref a15])), (a0, fA cyI 54 m), (a1, fA cyI 54 m), (a3, fA cyI 216 d)] → va_S (fp_A [(v, .inr (8, [.ref a0, .ref a1, .ref a2, .ref a3, .int (iI (e4)), .ref a5, .int (iI (e6)), .ref a7, .int (iI (e8)), .int (iI (e9)), .int (iI (e10)), .ref a11, .int (iI (e12)), .int (iI (e13)), .int (iI (e14)), .ref a15])), (a0, fA cyI 54 m), (a1, fA cyI 54 kc), (a3, fA cyI 216 d)]) sx.heap H locs → ∀ (ls : Array Slot), lv_has ls 9 [(0, .ref v), (1, .int (iI (k))), (2, .int (iI (t)))] → W pg l en ({ frames := 8, cells := 0, slots := 0, locals := 174 } : Room) sx mi ar bl mt cd H locs 0 0 (MQ bl (fp_Qw D [(v, .inr (8, [.ref a0, .ref a1, .ref a2, .ref a3, .int (iI (e4)), .ref a5, .int (iI (e6)), .ref a7, .int (iI (e8)), .int (iI (e9)), .int (iI (e10)), .ref a11, .int (iI (e12)), .int (iI (e13)), .int (iI (e14)), .ref a15])), (a0, fA cyI 54 m), (a1, fA cyI 54 kc), (a3, fA cyI 216 d)] (fun (u9 : (Int → Int) × (Int → Int)) => (Same (if 0 ≤ mvR (cM m) k t then shL (cM m) k t else cM m) (cM u9.1))) (fun (u9 : (Int → Int) × (Int → Int)) => some (.int (iI (mvR (cM m) k t)))) (fun (u9 : (Int → Int) × (Int → Int)) => [(v, .inr (8, [.ref a0, .ref a1, .ref a2, .ref a3, .int (iI (if 0 ≤ mvR (cM m) k t then recN e4 else e4)), .ref a5, .int (iI (e6)), .ref a7, .int (iI (e8)), .int (iI (e9)), .int (iI (e10)), .ref a11, .int (iI (e12)), .int (iI (e13)), .int (iI (e14)), .ref a15])), (a0, fA cyI 54 u9.1), (a1, fA cyI 54 u9.2), (a3, fA cyI 216 (if 0 ≤ mvR (cM m) k t then recH d m e4 else d))])) ar sx 0 0 (fp_A [(v, .inr (8, [.ref a0, .ref a1, .ref a2, .ref a3, .int (iI (e4)), .ref a5, .int (iI (e6)), .ref a7, .int (iI (e8)), .int (iI (e9)), .int (iI (e10)), .ref a11, .int (iI (e12)), .int (iI (e13)), .int (iI (e14)), .ref a15])), (a0, fA cyI 54 m), (a1, fA cyI 54 kc), (a3, fA cyI 216 d)])) (F0 mi 40 ls [.int (iI (dr))]) := by
          intro dr jd H locs hP hD hS ls hl
          refine lv_istore_n (lv' := [(3, .int (iI (dr))), (0, .ref v), (1, .int (iI (k))), (2, .int (iI (t)))]) hx hb dX8_move_40 rfl hl (by decide) rfl (fun ls hl => ?_)
          refine lv_aload_n hx hb dX8_move_41 rfl (lv_at hl 1 rfl) ?_
          refine lv_iload_n hx hb dX8_move_42 rfl (lv_at hl 2 rfl) ?_
          refine fp_pV (As := [.int (iI (k))]) (rest := []) (wsC := [(v, .inr (8, [.ref a0, .ref a1, .ref a2, .ref a3, .int (iI (e4)), .ref a5, .int (iI (e6)), .ref a7, .int (iI (e8)), .int (iI (e9)), .int (iI (e10)), .ref a11, .int (iI (e12)), .int (iI (e13)), .int (iI (e14)), .ref a15])), (a0, fA cyI 54 m), (a1, fA cyI 54 m), (a3, fA cyI 216 d)]) ⟨hx, hb, hml, hown, hts⟩ (c_X8_textOf l D cyI v a0 a1 a2 a3 e4 a5 e6 a7 e8 e9 e10 a11 e12 e13 e14 a15 m k (by omega)) (cwV 1 hts gX8_move_X8_textOf rfl rfl rfl (by decide +kernel) ⟨Nat.le_of_ble_eq_true rfl, Nat.le_of_ble_eq_true rfl⟩) hK hP hD [0, 1] (by decide) rfl rfl rfl rfl hl.1 rfl (Nat.le_of_ble_eq_true rfl) dX8_move_43 ⟨Nat.zero_le _, Nat.zero_le _⟩ ?_
          rw [show (cM m (k * 4 + 1) : Int) = m (6 + k) from e1]
          refine lv_istore (lv' := [(4, .int (iI (m (6 + k)))), (3, .int (iI (dr))), (0, .ref v), (1, .int (iI (k))), (2, .int (iI (t)))]) hx hb dX8_move_46 hl (by decide) rfl (fun ls hl => ?_)
          refine lv_aload_n hx hb dX8_move_48 rfl (lv_at hl 2 rfl) ?_
          refine va_get (D := D) (ci := 8) (ws := [(v, .inr (8, [.ref a0, .ref a1, .ref a2, .ref a3, .int (iI (e4)), .ref a5, .int (iI (e6)), .ref a7, .int (iI (e8)), .int (iI (e9)), .int (iI (e10)), .ref a11, .int (iI (e12)), .int (iI (e13)), .int (iI (e14)), .ref a15])), (a0, fA cyI 54 m), (a1, fA cyI 54 m), (a3, fA cyI 216 d)]) (v := .ref a0) (C := RX8) (T := TX8) (N := 16) hx hb hts (fun _ h => List.mem_cons_of_mem _ (List.mem_append_right _ h)) hown hK.1 hP 0 rfl rfl 0 (by decide) (hts _ fl_X8_move_7) (fun _ h9 => h9) rfl dX8_move_49 ?_
          refine fp_bipush hx hb dX8_move_52 (by decide) ?_
          refine lv_iload_n hx hb dX8_move_54 rfl (lv_at hl 3 rfl) ?_
          refine fp_iadd hx hb dX8_move_55 ?_
          refine fp_iald (wsC := [(v, .inr (8, [.ref a0, .ref a1, .ref a2, .ref a3, .int (iI (e4)), .ref a5, .int (iI (e6)), .ref a7, .int (iI (e8)), .int (iI (e9)), .int (iI (e10)), .ref a11, .int (iI (e12)), .int (iI (e13)), .int (iI (e14)), .ref a15])), (a0, fA cyI 54 m), (a1, fA cyI 54 m), (a3, fA cyI 216 d)]) hx hb hK hP 1 rfl (by omega) (by decide) dX8_move_56 ?_
          refine lv_istore (lv' := [(5, .int (iI (m (18 + k)))), (4, .int (iI (m (6 + k)))), (3, .int (iI (dr))), (0, .ref v), (1, .int (iI (k))), (2, .int (iI (t)))]) hx hb dX8_move_57 hl (by decide) rfl (fun ls hl => ?_)
          refine lv_aload_n hx hb dX8_move_59 rfl (lv_at hl 3 rfl) ?_
          refine va_get (D := D) (ci := 8) (ws := [(v, .inr (8, [.ref a0, .ref a1, .ref a2, .ref a3, .int (iI (e4)), .ref a5, .int (iI (e6)), .ref a7, .int (iI (e8)), .int (iI (e9)), .int (iI (e10)), .ref a11, .int (iI (e12)), .int (iI (e13)), .int (iI (e14)), .ref a15])), (a0, fA cyI 54 m), (a1, fA cyI 54 m), (a3, fA cyI 216 d)]) (v := .ref a0) (C := RX8) (T := TX8) (N := 16) hx hb hts (fun _ h => List.mem_cons_of_mem _ (List.mem_append_right _ h)) hown hK.1 hP 0 rfl rfl 0 (by decide) (hts _ fl_X8_move_7) (fun _ h9 => h9) rfl dX8_move_60 ?_
          refine fp_bipush hx hb dX8_move_63 (by decide) ?_
          refine lv_iload_n hx hb dX8_move_65 rfl (lv_at hl 4 rfl) ?_
          refine fp_iadd hx hb dX8_move_66 ?_
          refine fp_iald (wsC := [(v, .inr (8, [.ref a0, .ref a1, .ref a2, .ref a3, .int (iI (e4)), .ref a5, .int (iI (e6)), .ref a7, .int (iI (e8)), .int (iI (e9)), .int (iI (e10)), .ref a11, .int (iI (e12)), .int (iI (e13)), .int (iI (e14)), .ref a15])), (a0, fA cyI 54 m), (a1, fA cyI 54 m), (a3, fA cyI 216 d)]) hx hb hK hP 1 rfl (by omega) (by decide) dX8_move_67 ?_
          refine lv_istore (lv' := [(6, .int (iI (m (30 + k)))), (5, .int (iI (m (18 + k)))), (4, .int (iI (m (6 + k)))), (3, .int (iI (dr))), (0, .ref v), (1, .int (iI (k))), (2, .int (iI (t)))]) hx hb dX8_move_68 hl (by decide) rfl (fun ls hl => ?_)
          refine lv_aload_n hx hb dX8_move_70 rfl (lv_at hl 4 rfl) ?_
          refine va_get (D := D) (ci := 8) (ws := [(v, .inr (8, [.ref a0, .ref a1, .ref a2, .ref a3, .int (iI (e4)), .ref a5, .int (iI (e6)), .ref a7, .int (iI (e8)), .int (iI (e9)), .int (iI (e10)), .ref a11, .int (iI (e12)), .int (iI (e13)), .int (iI (e14)), .ref a15])), (a0, fA cyI 54 m), (a1, fA cyI 54 m), (a3, fA cyI 216 d)]) (v := .ref a0) (C := RX8) (T := TX8) (N := 16) hx hb hts (fun _ h => List.mem_cons_of_mem _ (List.mem_append_right _ h)) hown hK.1 hP 0 rfl rfl 0 (by decide) (hts _ fl_X8_move_7) (fun _ h9 => h9) rfl dX8_move_71 ?_
          refine fp_bipush hx hb dX8_move_74 (by decide) ?_
          refine lv_iload_n hx hb dX8_move_76 rfl (lv_at hl 5 rfl) ?_
          refine fp_iadd hx hb dX8_move_77 ?_
          refine fp_iald (wsC := [(v, .inr (8, [.ref a0, .ref a1, .ref a2, .ref a3, .int (iI (e4)), .ref a5, .int (iI (e6)), .ref a7, .int (iI (e8)), .int (iI (e9)), .int (iI (e10)), .ref a11, .int (iI (e12)), .int (iI (e13)), .int (iI (e14)), .ref a15])), (a0, fA cyI 54 m), (a1, fA cyI 54 m), (a3, fA cyI 216 d)]) hx hb hK hP 1 rfl (by omega) (by decide) dX8_move_78 ?_
          refine lv_istore (lv' := [(7, .int (iI (m (42 + k)))), (6, .int (iI (m (30 + k)))), (5, .int (iI (m (18 + k)))), (4, .int (iI (m (6 + k)))), (3, .int (iI (dr))), (0, .ref v), (1, .int (iI (k))), (2, .int (iI (t)))]) hx hb dX8_move_79 hl (by decide) rfl (fun ls hl => ?_)
          refine lv_iload_n hx hb dX8_move_81 rfl (lv_at hl 6 rfl) ?_
          refine lv_istore (lv' := [(8, .int (iI (k))), (7, .int (iI (m (42 + k)))), (6, .int (iI (m (30 + k)))), (5, .int (iI (m (18 + k)))), (4, .int (iI (m (6 + k)))), (3, .int (iI (dr))), (0, .ref v), (1, .int (iI (k))), (2, .int (iI (t)))]) hx hb dX8_move_82 hl (by decide) rfl (fun ls hl => ?_)
          have hl := lv_sub hl (l' := [(0, .ref v), (1, .int (iI (k))), (2, .int (iI (t))), (3, .int (iI (dr))), (4, .int (iI (m (6 + k)))), (5, .int (iI (m (18 + k)))), (6, .int (iI (m (30 + k)))), (7, .int (iI (m (42 + k)))), (8, .int (iI (k)))]) [6, 7, 8, 5, 4, 3, 2, 1, 0] rfl
          have lp4 : ∀ (nf : Nat) (i : Int) (g : Int → Int), ((dr = 1 ∧ k ≤ i ∧ i ≤ t) ∨ (dr = -1 ∧ t ≤ i ∧ i ≤ k)) → (RowsM m g (mvI k i dr)) → (SetsM m g) → (g 5 = m 5) → ((dr = 1 ∧ t - i + 1 ≤ (nf : Int)) ∨ (dr = -1 ∧ i - t + 1 ≤ (nf : Int))) → ∀ (H : Heap) (locs : List Loc), va_P D vwCl [(v, .inr (8, [.ref a0, .ref a1, .ref a2, .ref a3, .int (iI (e4)), .ref a5, .int (iI (e6)), .ref a7, .int (iI (e8)), .int (iI (e9)), .int (iI (e10)), .ref a11, .int (iI (e12)), .int (iI (e13)), .int (iI (e14)), .ref a15])), (a0, fA cyI 54 g), (a1, fA cyI 54 m), (a3, fA cyI 216 d)] H → va_D (fp_A [(v, .inr (8, [.ref a0, .ref a1, .ref a2, .ref a3, .int (iI (e4)), .ref a5, .int (iI (e6)), .ref a7, .int (iI (e8)), .int (iI (e9)), .int (iI (e10)), .ref a11, .int (iI (e12)), .int (iI (e13)), .int (iI (e14)), .ref a15])), (a0, fA cyI 54 m), (a1, fA cyI 54 kc), (a3, fA cyI 216 d)]) [(v, .inr (8, [.ref a0, .ref a1, .ref a2, .ref a3, .int (iI (e4)), .ref a5, .int (iI (e6)), .ref a7, .int (iI (e8)), .int (iI (e9)), .int (iI (e10)), .ref a11, .int (iI (e12)), .int (iI (e13)), .int (iI (e14)), .ref a15])), (a0, fA cyI 54 g), (a1, fA cyI 54 m), (a3, fA cyI 216 d)] → va_S (fp_A [(v, .inr (8, [.ref a0, .ref a1, .ref a2, .ref a3, .int (iI (e4)), .ref a5, .int (iI (e6)), .ref a7, .int (iI (e8)), .int (iI (e9)), .int (iI (e10)), .ref a11, .int (iI (e12)), .int (iI (e13)), .int (iI (e14)), .ref a15])), (a0, fA cyI 54 m), (a1, fA cyI 54 kc), (a3, fA cyI 216 d)]) sx.heap H locs → ∀ (ls : Array Slot), lv_has ls 9 [(0, .ref v), (1, .int (iI (k))), (2, .int (iI (t))), (3, .int (iI (dr))), (4, .int (iI (m (6 + k)))), (5, .int (iI (m (18 + k)))), (6, .int (iI (m (30 + k)))), (7, .int (iI (m (42 + k)))), (8, .int (iI (i)))] → W pg l en ({ frames := 8, cells := 0, slots := 0, locals := 174 } : Room) sx mi ar bl mt cd H locs 0 0 (MQ bl (fp_Qw D [(v, .inr (8, [.ref a0, .ref a1, .ref a2, .ref a3, .int (iI (e4)), .ref a5, .int (iI (e6)), .ref a7, .int (iI (e8)), .int (iI (e9)), .int (iI (e10)), .ref a11, .int (iI (e12)), .int (iI (e13)), .int (iI (e14)), .ref a15])), (a0, fA cyI 54 m), (a1, fA cyI 54 kc), (a3, fA cyI 216 d)] (fun (u9 : (Int → Int) × (Int → Int)) => (Same (if 0 ≤ mvR (cM m) k t then shL (cM m) k t else cM m) (cM u9.1))) (fun (u9 : (Int → Int) × (Int → Int)) => some (.int (iI (mvR (cM m) k t)))) (fun (u9 : (Int → Int) × (Int → Int)) => [(v, .inr (8, [.ref a0, .ref a1, .ref a2, .ref a3, .int (iI (if 0 ≤ mvR (cM m) k t then recN e4 else e4)), .ref a5, .int (iI (e6)), .ref a7, .int (iI (e8)), .int (iI (e9)), .int (iI (e10)), .ref a11, .int (iI (e12)), .int (iI (e13)), .int (iI (e14)), .ref a15])), (a0, fA cyI 54 u9.1), (a1, fA cyI 54 u9.2), (a3, fA cyI 216 (if 0 ≤ mvR (cM m) k t then recH d m e4 else d))])) ar sx 0 0 (fp_A [(v, .inr (8, [.ref a0, .ref a1, .ref a2, .ref a3, .int (iI (e4)), .ref a5, .int (iI (e6)), .ref a7, .int (iI (e8)), .int (iI (e9)), .int (iI (e10)), .ref a11, .int (iI (e12)), .int (iI (e13)), .int (iI (e14)), .ref a15])), (a0, fA cyI 54 m), (a1, fA cyI 54 kc), (a3, fA cyI 216 d)])) (F0 mi 84 ls []) := by
            intro nf
            induction nf with
            | zero =>
              intro i g ii jr js j5 hfuel
              exact absurd hfuel (by omega)
            | succ nf ih4 =>
              intro i g ii jr js j5 hfuel H locs hP hD hS ls hl
              refine lv_iload hx hb dX8_move_84 (lv_at hl 8 rfl) ?_
              refine lv_iload_n hx hb dX8_move_86 rfl (lv_at hl 2 rfl) ?_
              refine fp_icmp_eq (tgt := 109) hx hb (by omega) dX8_move_87 (by decide) (fun q87 => ?_) (fun q87 => ?_)
              · skip
                have ei : i = t := by omega
                rw [ei] at jr
                have hsm := Same_mvM hN.2 hk ht jd jr js j5
                have hC9 := Cat_sh hC (a := k) (b := t) (by omega) (by omega)
                have hC8 := Same_Cat hsm hC9
                have hpe := Same_cs hsm hC9
                have hpos := cs_nn hC9
                refine lv_aload_n hx hb dX8_move_109 rfl (lv_at hl 0 rfl) ?_
                refine lv_iload_n hx hb dX8_move_110 rfl (lv_at hl 2 rfl) ?_
                refine lv_iload hx hb dX8_move_111 (lv_at hl 4 rfl) ?_
                refine lv_iload hx hb dX8_move_113 (lv_at hl 5 rfl) ?_
                refine lv_iload hx hb dX8_move_115 (lv_at hl 6 rfl) ?_
                refine lv_iload hx hb dX8_move_117 (lv_at hl 7 rfl) ?_
                refine fp_wV (As := [.int (iI (t)), .int (iI (m (6 + k))), .int (iI (m (18 + k))), .int (iI (m (30 + k))), .int (iI (m (42 + k)))]) (rest := []) (wsC := [(v, .inr (8, [.ref a0, .ref a1, .ref a2, .ref a3, .int (iI (e4)), .ref a5, .int (iI (e6)), .ref a7, .int (iI (e8)), .int (iI (e9)), .int (iI (e10)), .ref a11, .int (iI (e12)), .int (iI (e13)), .int (iI (e14)), .ref a15])), (a0, fA cyI 54 g), (a1, fA cyI 54 m), (a3, fA cyI 216 d)]) ⟨hx, hb, hml, hown, hts⟩ (c_X8_puts l D cyI v a0 a1 a2 a3 e4 a5 e6 a7 e8 e9 e10 a11 e12 e13 e14 a15 g t (m (6 + k)) (m (18 + k)) (m (30 + k)) (m (42 + k)) (by omega)) (cwV 5 hts gX8_move_X8_puts rfl rfl rfl (by decide +kernel) ⟨Nat.le_of_ble_eq_true rfl, Nat.le_of_ble_eq_true rfl⟩) (fun _ => rfl) hK hP hD hS [0, 1] (by decide) rfl rfl rfl rfl hl.1 rfl (Nat.le_of_ble_eq_true rfl) dX8_move_119 ⟨Nat.zero_le _, Nat.zero_le _⟩ (fun u9v H locs hu hP hD hS => ?_)
                refine W.eq (g2 := F0 mi 122 ls []) rfl ?_
                have hP : va_P D vwCl [(v, .inr (8, [.ref a0, .ref a1, .ref a2, .ref a3, .int (iI (e4)), .ref a5, .int (iI (e6)), .ref a7, .int (iI (e8)), .int (iI (e9)), .int (iI (e10)), .ref a11, .int (iI (e12)), .int (iI (e13)), .int (iI (e14)), .ref a15])), (a0, fA cyI 54 (puM g t (m (6 + k)) (m (18 + k)) (m (30 + k)) (m (42 + k)))), (a1, fA cyI 54 m), (a3, fA cyI 216 d)] H := hP
                have hD : va_D (fp_A [(v, .inr (8, [.ref a0, .ref a1, .ref a2, .ref a3, .int (iI (e4)), .ref a5, .int (iI (e6)), .ref a7, .int (iI (e8)), .int (iI (e9)), .int (iI (e10)), .ref a11, .int (iI (e12)), .int (iI (e13)), .int (iI (e14)), .ref a15])), (a0, fA cyI 54 m), (a1, fA cyI 54 kc), (a3, fA cyI 216 d)]) [(v, .inr (8, [.ref a0, .ref a1, .ref a2, .ref a3, .int (iI (e4)), .ref a5, .int (iI (e6)), .ref a7, .int (iI (e8)), .int (iI (e9)), .int (iI (e10)), .ref a11, .int (iI (e12)), .int (iI (e13)), .int (iI (e14)), .ref a15])), (a0, fA cyI 54 (puM g t (m (6 + k)) (m (18 + k)) (m (30 + k)) (m (42 + k)))), (a1, fA cyI 54 m), (a3, fA cyI 216 d)] := hD
                refine lv_aload_n hx hb dX8_move_122 rfl (lv_at hl 0 rfl) ?_
                refine lv_aload_n hx hb dX8_move_123 rfl (lv_at hl 0 rfl) ?_
                refine fp_pV (As := []) (rest := [.ref v]) (wsC := [(v, .inr (8, [.ref a0, .ref a1, .ref a2, .ref a3, .int (iI (e4)), .ref a5, .int (iI (e6)), .ref a7, .int (iI (e8)), .int (iI (e9)), .int (iI (e10)), .ref a11, .int (iI (e12)), .int (iI (e13)), .int (iI (e14)), .ref a15])), (a0, fA cyI 54 (puM g t (m (6 + k)) (m (18 + k)) (m (30 + k)) (m (42 + k)))), (a1, fA cyI 54 m), (a3, fA cyI 216 d)]) ⟨hx, hb, hml, hown, hts⟩ (c_X8_cost l D cyI v a0 a1 a2 a3 e4 a5 e6 a7 e8 e9 e10 a11 e12 e13 e14 a15 (puM g t (m (6 + k)) (m (18 + k)) (m (30 + k)) (m (42 + k))) hC8) (cwV 0 hts gX8_move_X8_cost rfl rfl rfl (by decide +kernel) ⟨Nat.le_of_ble_eq_true rfl, Nat.le_of_ble_eq_true rfl⟩) hK hP hD [0, 1] (by decide) rfl rfl rfl rfl hl.1 rfl (Nat.le_of_ble_eq_true rfl) dX8_move_124 ⟨Nat.zero_le _, Nat.zero_le _⟩ ?_
                rw [show (csC (cM (puM g t (m (6 + k)) (m (18 + k)) (m (30 + k)) (m (42 + k)))) : Int) = csC (shL (cM m) k t) from hpe.symm]
                refine fp_wV (As := [.int (iI (csC (shL (cM m) k t)))]) (rest := []) (wsC := [(v, .inr (8, [.ref a0, .ref a1, .ref a2, .ref a3, .int (iI (e4)), .ref a5, .int (iI (e6)), .ref a7, .int (iI (e8)), .int (iI (e9)), .int (iI (e10)), .ref a11, .int (iI (e12)), .int (iI (e13)), .int (iI (e14)), .ref a15])), (a0, fA cyI 54 (puM g t (m (6 + k)) (m (18 + k)) (m (30 + k)) (m (42 + k)))), (a1, fA cyI 54 m), (a3, fA cyI 216 d)]) ⟨hx, hb, hml, hown, hts⟩ (c_X8_acted l D cyI v a0 a1 a2 a3 e4 a5 e6 a7 e8 e9 e10 a11 e12 e13 e14 a15 m d (csC (shL (cM m) k t)) (by omega)) (cwV 1 hts gX8_move_X8_acted rfl rfl rfl (by decide +kernel) ⟨Nat.le_of_ble_eq_true rfl, Nat.le_of_ble_eq_true rfl⟩) (fun _ => rfl) hK hP hD hS [0, 2, 3] (by decide) rfl rfl rfl rfl hl.1 rfl (Nat.le_of_ble_eq_true rfl) dX8_move_127 ⟨Nat.zero_le _, Nat.zero_le _⟩ (fun u9v H locs hu hP hD hS => ?_)
                refine W.eq (g2 := F0 mi 130 ls [.int (iI ((csC (shL (cM m) k t))))]) rfl ?_
                have hP : va_P D vwCl [(v, .inr (8, [.ref a0, .ref a1, .ref a2, .ref a3, .int (iI (recN e4)), .ref a5, .int (iI (e6)), .ref a7, .int (iI (e8)), .int (iI (e9)), .int (iI (e10)), .ref a11, .int (iI (e12)), .int (iI (e13)), .int (iI (e14)), .ref a15])), (a0, fA cyI 54 (puM g t (m (6 + k)) (m (18 + k)) (m (30 + k)) (m (42 + k)))), (a1, fA cyI 54 m), (a3, fA cyI 216 (recH d m e4))] H := hP
                have hD : va_D (fp_A [(v, .inr (8, [.ref a0, .ref a1, .ref a2, .ref a3, .int (iI (e4)), .ref a5, .int (iI (e6)), .ref a7, .int (iI (e8)), .int (iI (e9)), .int (iI (e10)), .ref a11, .int (iI (e12)), .int (iI (e13)), .int (iI (e14)), .ref a15])), (a0, fA cyI 54 m), (a1, fA cyI 54 kc), (a3, fA cyI 216 d)]) [(v, .inr (8, [.ref a0, .ref a1, .ref a2, .ref a3, .int (iI (recN e4)), .ref a5, .int (iI (e6)), .ref a7, .int (iI (e8)), .int (iI (e9)), .int (iI (e10)), .ref a11, .int (iI (e12)), .int (iI (e13)), .int (iI (e14)), .ref a15])), (a0, fA cyI 54 (puM g t (m (6 + k)) (m (18 + k)) (m (30 + k)) (m (42 + k)))), (a1, fA cyI 54 m), (a3, fA cyI 216 (recH d m e4))] := hD
                have hR : mvR (cM m) k t = (csC (shL (cM m) k t)) := by unfold mvR; repeat (first | rw [if_pos (by omega)] | rw [if_neg (by omega)]); try (first | rfl | omega)
                have hP : va_P D vwCl [(v, .inr (8, [.ref a0, .ref a1, .ref a2, .ref a3, .int (iI (if 0 ≤ mvR (cM m) k t then recN e4 else e4)), .ref a5, .int (iI (e6)), .ref a7, .int (iI (e8)), .int (iI (e9)), .int (iI (e10)), .ref a11, .int (iI (e12)), .int (iI (e13)), .int (iI (e14)), .ref a15])), (a0, fA cyI 54 (puM g t (m (6 + k)) (m (18 + k)) (m (30 + k)) (m (42 + k)))), (a1, fA cyI 54 m), (a3, fA cyI 216 (if 0 ≤ mvR (cM m) k t then recH d m e4 else d))] H := by
                  rw [(show (recH d m e4 : Int → Int) = if 0 ≤ mvR (cM m) k t then recH d m e4 else d from (by first | rw [if_pos (by omega)] | rw [if_neg (by omega)])).symm]
                  rw [(show (recN e4 : Int) = if 0 ≤ mvR (cM m) k t then recN e4 else e4 from (by first | rw [if_pos (by omega)] | rw [if_neg (by omega)])).symm]
                  exact hP
                have hret : (mvR (cM m) k t : Int) = (csC (shL (cM m) k t)) := (by exact hR)
                exact fp_wret (puM g t (m (6 + k)) (m (18 + k)) (m (30 + k)) (m (42 + k)), m) hx hb hr hlocks hS (by dsimp only; exact hP) (by rw [if_pos (by omega)]; exact hsm) (congrArg (fun z : Int => some (Value.int (iI z))) hret) dX8_move_130
              · skip
                refine lv_aload_n hx hb dX8_move_90 rfl (lv_at hl 0 rfl) ?_
                refine lv_iload hx hb dX8_move_91 (lv_at hl 8 rfl) ?_
                refine lv_iload_n hx hb dX8_move_93 rfl (lv_at hl 3 rfl) ?_
                refine fp_iadd hx hb dX8_move_94 ?_
                refine lv_iload hx hb dX8_move_95 (lv_at hl 8 rfl) ?_
                refine fp_wV (As := [.int (iI (i + dr)), .int (iI (i))]) (rest := []) (wsC := [(v, .inr (8, [.ref a0, .ref a1, .ref a2, .ref a3, .int (iI (e4)), .ref a5, .int (iI (e6)), .ref a7, .int (iI (e8)), .int (iI (e9)), .int (iI (e10)), .ref a11, .int (iI (e12)), .int (iI (e13)), .int (iI (e14)), .ref a15])), (a0, fA cyI 54 g), (a1, fA cyI 54 m), (a3, fA cyI 216 d)]) ⟨hx, hb, hml, hown, hts⟩ (c_X8_carries l D cyI v a0 a1 a2 a3 e4 a5 e6 a7 e8 e9 e10 a11 e12 e13 e14 a15 g (i + dr) i (by omega) (by omega)) (cwV 2 hts gX8_move_X8_carries rfl rfl rfl (by decide +kernel) ⟨Nat.le_of_ble_eq_true rfl, Nat.le_of_ble_eq_true rfl⟩) (fun _ => rfl) hK hP hD hS [0, 1] (by decide) rfl rfl rfl rfl hl.1 rfl (Nat.le_of_ble_eq_true rfl) dX8_move_97 ⟨Nat.zero_le _, Nat.zero_le _⟩ (fun u9v H locs hu hP hD hS => ?_)
                refine W.eq (g2 := F0 mi 100 ls []) rfl ?_
                have hP : va_P D vwCl [(v, .inr (8, [.ref a0, .ref a1, .ref a2, .ref a3, .int (iI (e4)), .ref a5, .int (iI (e6)), .ref a7, .int (iI (e8)), .int (iI (e9)), .int (iI (e10)), .ref a11, .int (iI (e12)), .int (iI (e13)), .int (iI (e14)), .ref a15])), (a0, fA cyI 54 (puM g i (g (6 + (i + dr))) (g (18 + (i + dr))) (g (30 + (i + dr))) (g (42 + (i + dr))))), (a1, fA cyI 54 m), (a3, fA cyI 216 d)] H := hP
                have hD : va_D (fp_A [(v, .inr (8, [.ref a0, .ref a1, .ref a2, .ref a3, .int (iI (e4)), .ref a5, .int (iI (e6)), .ref a7, .int (iI (e8)), .int (iI (e9)), .int (iI (e10)), .ref a11, .int (iI (e12)), .int (iI (e13)), .int (iI (e14)), .ref a15])), (a0, fA cyI 54 m), (a1, fA cyI 54 kc), (a3, fA cyI 216 d)]) [(v, .inr (8, [.ref a0, .ref a1, .ref a2, .ref a3, .int (iI (e4)), .ref a5, .int (iI (e6)), .ref a7, .int (iI (e8)), .int (iI (e9)), .int (iI (e10)), .ref a11, .int (iI (e12)), .int (iI (e13)), .int (iI (e14)), .ref a15])), (a0, fA cyI 54 (puM g i (g (6 + (i + dr))) (g (18 + (i + dr))) (g (30 + (i + dr))) (g (42 + (i + dr))))), (a1, fA cyI 54 m), (a3, fA cyI 216 d)] := hD
                refine lv_iload hx hb dX8_move_100 (lv_at hl 8 rfl) ?_
                refine lv_iload_n hx hb dX8_move_102 rfl (lv_at hl 3 rfl) ?_
                refine fp_iadd hx hb dX8_move_103 ?_
                refine lv_istore (lv' := [(8, .int (iI (i + dr))), (0, .ref v), (1, .int (iI (k))), (2, .int (iI (t))), (3, .int (iI (dr))), (4, .int (iI (m (6 + k)))), (5, .int (iI (m (18 + k)))), (6, .int (iI (m (30 + k)))), (7, .int (iI (m (42 + k))))]) hx hb dX8_move_104 hl (by decide) rfl (fun ls hl => ?_)
                refine lv_goto (tgt := 84) hx hb dX8_move_106 (by decide) ?_
                exact ih4 (i + dr) (puM g i (g (6 + (i + dr))) (g (18 + (i + dr))) (g (30 + (i + dr))) (g (42 + (i + dr)))) (by omega) (Rows_mv jr (by omega) (by omega) (by omega) (by omega) (by omega)) (fun j a1 a2 => by rw [pu_n (by omega) (by omega)]; exact js j a1 a2) (by rw [pu_n (by omega) (by omega)]; exact j5) (by omega) H locs hP hD hS ls (lv_sub hl [1, 2, 3, 4, 5, 6, 7, 8, 0] rfl)
          have hii : (dr = 1 ∧ k ≤ k ∧ k ≤ t) ∨ (dr = -1 ∧ t ≤ k ∧ k ≤ k) := by
            by_cases e : k < t
            · rw [if_pos e] at jd; omega
            · rw [if_neg e] at jd; omega
          have hr0 : RowsM m m (mvI k k dr) := by
            intro j o a1 a2 a3
            unfold mvI
            rw [if_neg (by omega), if_neg (by omega)]
          exact lp4 ((13 : Nat)) k m hii hr0 (fun _ _ _ => rfl) rfl (by omega) H locs hP hD hS ls hl
        refine fp_icmp_ge (tgt := 39) hx hb (by omega) dX8_move_32 (by decide) (fun q32 => ?_) (fun q32 => ?_)
        · skip
          refine fp_iconst hx hb dX8_move_39 ?_
          exact jn3 ((-1)) (by first | rw [if_pos (by omega)] | rw [if_neg (by omega)]) H locs hP hD hS ls (lv_sub hl [0, 1, 2] rfl)
        · skip
          refine fp_iconst hx hb dX8_move_35 ?_
          refine lv_goto (tgt := 40) hx hb dX8_move_36 (by decide) ?_
          exact jn3 1 (by first | rw [if_pos (by omega)] | rw [if_neg (by omega)]) H locs hP hD hS ls (lv_sub hl [0, 1, 2] rfl)
      · skip
        refine fp_bipush hx hb dX8_move_23 (by decide) ?_
        have hR : mvR (cM m) k t = (-5) := by unfold mvR; repeat (first | rw [if_pos (by omega)] | rw [if_neg (by omega)]); try (first | rfl | omega)
        have hP : va_P D vwCl [(v, .inr (8, [.ref a0, .ref a1, .ref a2, .ref a3, .int (iI (if 0 ≤ mvR (cM m) k t then recN e4 else e4)), .ref a5, .int (iI (e6)), .ref a7, .int (iI (e8)), .int (iI (e9)), .int (iI (e10)), .ref a11, .int (iI (e12)), .int (iI (e13)), .int (iI (e14)), .ref a15])), (a0, fA cyI 54 m), (a1, fA cyI 54 kc), (a3, fA cyI 216 (if 0 ≤ mvR (cM m) k t then recH d m e4 else d))] sx.heap := by
          rw [(show (d : Int → Int) = if 0 ≤ mvR (cM m) k t then recH d m e4 else d from (by first | rw [if_pos (by omega)] | rw [if_neg (by omega)])).symm]
          rw [(show (e4 : Int) = if 0 ≤ mvR (cM m) k t then recN e4 else e4 from (by first | rw [if_pos (by omega)] | rw [if_neg (by omega)])).symm]
          exact hP
        have hret : (mvR (cM m) k t : Int) = (-5) := (by exact hR)
        exact fp_wret (m, kc) hx hb hr hlocks hS (by dsimp only; exact hP) (by rw [if_neg (by omega)]; exact Same_rf _) (congrArg (fun z : Int => some (Value.int (iI z))) hret) dX8_move_25
    · skip
      have w13 := bI_e q13
      refine fp_iconst hx hb dX8_move_16 ?_
      have hR : mvR (cM m) k t = (-1) := by unfold mvR; repeat (first | rw [if_pos (by omega)] | rw [if_neg (by omega)]); try (first | rfl | omega)
      have hP : va_P D vwCl [(v, .inr (8, [.ref a0, .ref a1, .ref a2, .ref a3, .int (iI (if 0 ≤ mvR (cM m) k t then recN e4 else e4)), .ref a5, .int (iI (e6)), .ref a7, .int (iI (e8)), .int (iI (e9)), .int (iI (e10)), .ref a11, .int (iI (e12)), .int (iI (e13)), .int (iI (e14)), .ref a15])), (a0, fA cyI 54 m), (a1, fA cyI 54 kc), (a3, fA cyI 216 (if 0 ≤ mvR (cM m) k t then recH d m e4 else d))] sx.heap := by
        rw [(show (d : Int → Int) = if 0 ≤ mvR (cM m) k t then recH d m e4 else d from (by first | rw [if_pos (by omega)] | rw [if_neg (by omega)])).symm]
        rw [(show (e4 : Int) = if 0 ≤ mvR (cM m) k t then recN e4 else e4 from (by first | rw [if_pos (by omega)] | rw [if_neg (by omega)])).symm]
        exact hP
      have hret : (mvR (cM m) k t : Int) = (-1) := (by exact hR)
      exact fp_wret (m, kc) hx hb hr hlocks hS (by dsimp only; exact hP) (by rw [if_neg (by omega)]; exact Same_rf _) (congrArg (fun z : Int => some (Value.int (iI z))) hret) dX8_move_17
theorem fl_X8_choose_7 : Cond.fieldLink RX8 7 "FacingPlatesModel" "all" "[I" ∈ wsX8_choose := by decide +kernel
set_option maxHeartbeats 4000000 in
set_option maxRecDepth 100000 in
theorem c_X8_choose (l : Launch) (D : va_G) (cyI : ClassId) (v : Nat) (a0 : Nat) (a1 : Nat) (a2 : Nat) (a3 : Nat) (e4 : Int) (a5 : Nat) (e6 : Int) (a7 : Nat) (e8 : Int) (e9 : Int) (e10 : Int) (a11 : Nat) (e12 : Int) (e13 : Int) (e14 : Int) (a15 : Nat) (m : Int → Int) (kc : Int → Int) (d : Int → Int) (k : Int) (b : Int) (q : Int) (hC : CatOK (cM m)) (he4 : 0 ≤ e4 ∧ e4 ≤ 4) (hb9 : b = 0 ∨ b = 1) (hk9 : -2147483648 ≤ k ∧ k ≤ 2147483647) (hq9 : -2147483648 ≤ q ∧ q ≤ 2147483647) : fp_MW l yX8_choose wsX8_choose ({ frames := 8, cells := 0, slots := 0, locals := 174 } : Room) D cyI [(v, .inr (8, [.ref a0, .ref a1, .ref a2, .ref a3, .int (iI (e4)), .ref a5, .int (iI (e6)), .ref a7, .int (iI (e8)), .int (iI (e9)), .int (iI (e10)), .ref a11, .int (iI (e12)), .int (iI (e13)), .int (iI (e14)), .ref a15])), (a0, fA cyI 54 m), (a1, fA cyI 54 kc), (a3, fA cyI 216 d)] [.ref v, .int (iI (k)), .int (iI (b)), .int (iI (q))] (fun (u9 : (Int → Int) × (Int → Int)) => (Same (if 0 ≤ coR (cM m) k b q then choL (cM m) k b q else cM m) (cM u9.1))) (fun (u9 : (Int → Int) × (Int → Int)) => some (.int (iI (coR (cM m) k b q)))) (fun (u9 : (Int → Int) × (Int → Int)) => [(v, .inr (8, [.ref a0, .ref a1, .ref a2, .ref a3, .int (iI (if 0 ≤ coR (cM m) k b q then recN e4 else e4)), .ref a5, .int (iI (e6)), .ref a7, .int (iI (e8)), .int (iI (e9)), .int (iI (e10)), .ref a11, .int (iI (e12)), .int (iI (e13)), .int (iI (e14)), .ref a15])), (a0, fA cyI 54 u9.1), (a1, fA cyI 54 u9.2), (a3, fA cyI 216 (if 0 ≤ coR (cM m) k b q then recH d m e4 else d))]) := by
  refine fp_start (cc := cX8_choose) (maxL := 5) (ret := (some .int)) (by decide) rfl (Nat.le_of_ble_eq_true rfl) ?_
  intro pg en sx mi ar bl mt cd ls hx hb hr hts hown hlocks hml hnm hP hK hD hl
  have hown : sx.vm.findClass RX8 = some mi.cls := hown
  have hl : lv_has ls 5 [(0, .ref v), (1, .int (iI (k))), (2, .int (iI (b))), (3, .int (iI (q)))] := hl
  have hD := fp_self hD
  have hS : va_S (fp_A [(v, .inr (8, [.ref a0, .ref a1, .ref a2, .ref a3, .int (iI (e4)), .ref a5, .int (iI (e6)), .ref a7, .int (iI (e8)), .int (iI (e9)), .int (iI (e10)), .ref a11, .int (iI (e12)), .int (iI (e13)), .int (iI (e14)), .ref a15])), (a0, fA cyI 54 m), (a1, fA cyI 54 kc), (a3, fA cyI 216 d)]) sx.heap sx.heap [] := va_S.rf
  have hN := hC.1
  rw [cM_0] at hN
  have e0 : cM m 0 = m 5 := cM_0 m
  refine lv_aload_n hx hb dX8_choose_0 rfl (lv_at hl 0 rfl) ?_
  refine lv_iload_n hx hb dX8_choose_1 rfl (lv_at hl 1 rfl) ?_
  refine fp_pV (As := [.int (iI (k))]) (rest := []) (wsC := [(v, .inr (8, [.ref a0, .ref a1, .ref a2, .ref a3, .int (iI (e4)), .ref a5, .int (iI (e6)), .ref a7, .int (iI (e8)), .int (iI (e9)), .int (iI (e10)), .ref a11, .int (iI (e12)), .int (iI (e13)), .int (iI (e14)), .ref a15])), (a0, fA cyI 54 m), (a1, fA cyI 54 kc), (a3, fA cyI 216 d)]) ⟨hx, hb, hml, hown, hts⟩ (c_X8_isLot l D cyI v a0 a1 a2 a3 e4 a5 e6 a7 e8 e9 e10 a11 e12 e13 e14 a15 m k hk9 hN) (cwV 1 hts gX8_choose_X8_isLot rfl rfl rfl (by decide +kernel) ⟨Nat.le_of_ble_eq_true rfl, Nat.le_of_ble_eq_true rfl⟩) hK hP hD [0, 1] (by decide) rfl rfl rfl rfl hl.1 rfl (Nat.le_of_ble_eq_true rfl) dX8_choose_2 ⟨Nat.zero_le _, Nat.zero_le _⟩ ?_
  refine fp_if_ne (tgt := 10) hx hb (bI_r32 _) dX8_choose_5 (by decide) (fun q5 => ?_) (fun q5 => ?_)
  · skip
    have w5 := bI_ne q5
    have hk := w5
    have hL := lot_f hC (k := k) (by rw [cM_0]; exact hk)
    unfold LotOK at hL
    rw [cM_t (by omega), cM_p (by omega), cM_b (by omega), cM_q (by omega)] at hL
    have e3 : cM m (k * 4 + 3) = m (30 + k) := cM_b (by omega)
    have e4_ : cM m (k * 4 + 4) = m (42 + k) := cM_q (by omega)
    refine lv_aload_n hx hb dX8_choose_10 rfl (lv_at hl 0 rfl) ?_
    refine lv_iload_n hx hb dX8_choose_11 rfl (lv_at hl 1 rfl) ?_
    refine lv_iload_n hx hb dX8_choose_12 rfl (lv_at hl 3 rfl) ?_
    refine fp_pV (As := [.int (iI (k)), .int (iI (q))]) (rest := []) (wsC := [(v, .inr (8, [.ref a0, .ref a1, .ref a2, .ref a3, .int (iI (e4)), .ref a5, .int (iI (e6)), .ref a7, .int (iI (e8)), .int (iI (e9)), .int (iI (e10)), .ref a11, .int (iI (e12)), .int (iI (e13)), .int (iI (e14)), .ref a15])), (a0, fA cyI 54 m), (a1, fA cyI 54 kc), (a3, fA cyI 216 d)]) ⟨hx, hb, hml, hown, hts⟩ (c_X8_isPlace l D cyI v a0 a1 a2 a3 e4 a5 e6 a7 e8 e9 e10 a11 e12 e13 e14 a15 m k q hC hk hq9) (cwV 2 hts gX8_choose_X8_isPlace rfl rfl rfl (by decide +kernel) ⟨Nat.le_of_ble_eq_true rfl, Nat.le_of_ble_eq_true rfl⟩) hK hP hD [0, 1] (by decide) rfl rfl rfl rfl hl.1 rfl (Nat.le_of_ble_eq_true rfl) dX8_choose_13 ⟨Nat.zero_le _, Nat.zero_le _⟩ ?_
    refine fp_if_ne (tgt := 22) hx hb (bI_r32 _) dX8_choose_16 (by decide) (fun q16 => ?_) (fun q16 => ?_)
    · skip
      have w16 := bI_ne q16
      refine lv_iload_n hx hb dX8_choose_22 rfl (lv_at hl 2 rfl) ?_
      have jn2 : ∀ (bb : Int), (bb = b) → ∀ (H : Heap) (locs : List Loc), va_P D vwCl [(v, .inr (8, [.ref a0, .ref a1, .ref a2, .ref a3, .int (iI (e4)), .ref a5, .int (iI (e6)), .ref a7, .int (iI (e8)), .int (iI (e9)), .int (iI (e10)), .ref a11, .int (iI (e12)), .int (iI (e13)), .int (iI (e14)), .ref a15])), (a0, fA cyI 54 m), (a1, fA cyI 54 kc), (a3, fA cyI 216 d)] H → va_D (fp_A [(v, .inr (8, [.ref a0, .ref a1, .ref a2, .ref a3, .int (iI (e4)), .ref a5, .int (iI (e6)), .ref a7, .int (iI (e8)), .int (iI (e9)), .int (iI (e10)), .ref a11, .int (iI (e12)), .int (iI (e13)), .int (iI (e14)), .ref a15])), (a0, fA cyI 54 m), (a1, fA cyI 54 kc), (a3, fA cyI 216 d)]) [(v, .inr (8, [.ref a0, .ref a1, .ref a2, .ref a3, .int (iI (e4)), .ref a5, .int (iI (e6)), .ref a7, .int (iI (e8)), .int (iI (e9)), .int (iI (e10)), .ref a11, .int (iI (e12)), .int (iI (e13)), .int (iI (e14)), .ref a15])), (a0, fA cyI 54 m), (a1, fA cyI 54 kc), (a3, fA cyI 216 d)] → va_S (fp_A [(v, .inr (8, [.ref a0, .ref a1, .ref a2, .ref a3, .int (iI (e4)), .ref a5, .int (iI (e6)), .ref a7, .int (iI (e8)), .int (iI (e9)), .int (iI (e10)), .ref a11, .int (iI (e12)), .int (iI (e13)), .int (iI (e14)), .ref a15])), (a0, fA cyI 54 m), (a1, fA cyI 54 kc), (a3, fA cyI 216 d)]) sx.heap H locs → ∀ (ls : Array Slot), lv_has ls 5 [(0, .ref v), (1, .int (iI (k))), (2, .int (iI (b))), (3, .int (iI (q)))] → W pg l en ({ frames := 8, cells := 0, slots := 0, locals := 174 } : Room) sx mi ar bl mt cd H locs 0 0 (MQ bl (fp_Qw D [(v, .inr (8, [.ref a0, .ref a1, .ref a2, .ref a3, .int (iI (e4)), .ref a5, .int (iI (e6)), .ref a7, .int (iI (e8)), .int (iI (e9)), .int (iI (e10)), .ref a11, .int (iI (e12)), .int (iI (e13)), .int (iI (e14)), .ref a15])), (a0, fA cyI 54 m), (a1, fA cyI 54 kc), (a3, fA cyI 216 d)] (fun (u9 : (Int → Int) × (Int → Int)) => (Same (if 0 ≤ coR (cM m) k b q then choL (cM m) k b q else cM m) (cM u9.1))) (fun (u9 : (Int → Int) × (Int → Int)) => some (.int (iI (coR (cM m) k b q)))) (fun (u9 : (Int → Int) × (Int → Int)) => [(v, .inr (8, [.ref a0, .ref a1, .ref a2, .ref a3, .int (iI (if 0 ≤ coR (cM m) k b q then recN e4 else e4)), .ref a5, .int (iI (e6)), .ref a7, .int (iI (e8)), .int (iI (e9)), .int (iI (e10)), .ref a11, .int (iI (e12)), .int (iI (e13)), .int (iI (e14)), .ref a15])), (a0, fA cyI 54 u9.1), (a1, fA cyI 54 u9.2), (a3, fA cyI 216 (if 0 ≤ coR (cM m) k b q then recH d m e4 else d))])) ar sx 0 0 (fp_A [(v, .inr (8, [.ref a0, .ref a1, .ref a2, .ref a3, .int (iI (e4)), .ref a5, .int (iI (e6)), .ref a7, .int (iI (e8)), .int (iI (e9)), .int (iI (e10)), .ref a11, .int (iI (e12)), .int (iI (e13)), .int (iI (e14)), .ref a15])), (a0, fA cyI 54 m), (a1, fA cyI 54 kc), (a3, fA cyI 216 d)])) (F0 mi 31 ls [.int (iI (bb))]) := by
        intro bb jb H locs hP hD hS ls hl
        rw [show (bb : Int) = b from jb]
        refine lv_istore (lv' := [(4, .int (iI (b))), (0, .ref v), (1, .int (iI (k))), (2, .int (iI (b))), (3, .int (iI (q)))]) hx hb dX8_choose_31 hl (by decide) rfl (fun ls hl => ?_)
        refine lv_aload_n hx hb dX8_choose_33 rfl (lv_at hl 1 rfl) ?_
        refine va_get (D := D) (ci := 8) (ws := [(v, .inr (8, [.ref a0, .ref a1, .ref a2, .ref a3, .int (iI (e4)), .ref a5, .int (iI (e6)), .ref a7, .int (iI (e8)), .int (iI (e9)), .int (iI (e10)), .ref a11, .int (iI (e12)), .int (iI (e13)), .int (iI (e14)), .ref a15])), (a0, fA cyI 54 m), (a1, fA cyI 54 kc), (a3, fA cyI 216 d)]) (v := .ref a0) (C := RX8) (T := TX8) (N := 16) hx hb hts (fun _ h => List.mem_cons_of_mem _ (List.mem_append_right _ h)) hown hK.1 hP 0 rfl rfl 0 (by decide) (hts _ fl_X8_choose_7) (fun _ h9 => h9) rfl dX8_choose_34 ?_
        refine fp_bipush hx hb dX8_choose_37 (by decide) ?_
        refine lv_iload_n hx hb dX8_choose_39 rfl (lv_at hl 2 rfl) ?_
        refine fp_iadd hx hb dX8_choose_40 ?_
        refine fp_iald (wsC := [(v, .inr (8, [.ref a0, .ref a1, .ref a2, .ref a3, .int (iI (e4)), .ref a5, .int (iI (e6)), .ref a7, .int (iI (e8)), .int (iI (e9)), .int (iI (e10)), .ref a11, .int (iI (e12)), .int (iI (e13)), .int (iI (e14)), .ref a15])), (a0, fA cyI 54 m), (a1, fA cyI 54 kc), (a3, fA cyI 216 d)]) hx hb hK hP 1 rfl (by omega) (by decide) dX8_choose_41 ?_
        refine lv_iload hx hb dX8_choose_42 (lv_at hl 0 rfl) ?_
        refine fp_icmp_ne (tgt := 63) hx hb (by omega) dX8_choose_44 (by decide) (fun q44 => ?_) (fun q44 => ?_)
        · skip
          refine lv_aload_n hx hb dX8_choose_63 rfl (lv_at hl 1 rfl) ?_
          refine fp_wV (As := []) (rest := []) (wsC := [(v, .inr (8, [.ref a0, .ref a1, .ref a2, .ref a3, .int (iI (e4)), .ref a5, .int (iI (e6)), .ref a7, .int (iI (e8)), .int (iI (e9)), .int (iI (e10)), .ref a11, .int (iI (e12)), .int (iI (e13)), .int (iI (e14)), .ref a15])), (a0, fA cyI 54 m), (a1, fA cyI 54 kc), (a3, fA cyI 216 d)]) ⟨hx, hb, hml, hown, hts⟩ (c_X8_remember l D cyI v a0 a1 a2 a3 e4 a5 e6 a7 e8 e9 e10 a11 e12 e13 e14 a15 m kc) (cwV 0 hts gX8_choose_X8_remember rfl rfl rfl (by decide +kernel) ⟨Nat.le_of_ble_eq_true rfl, Nat.le_of_ble_eq_true rfl⟩) (fun _ => rfl) hK hP hD hS [0, 1, 2] (by decide) rfl rfl rfl rfl hl.1 rfl (Nat.le_of_ble_eq_true rfl) dX8_choose_64 ⟨Nat.zero_le _, Nat.zero_le _⟩ (fun u9v H locs hu hP hD hS => ?_)
          refine W.eq (g2 := F0 mi 67 ls []) rfl ?_
          have hP : va_P D vwCl [(v, .inr (8, [.ref a0, .ref a1, .ref a2, .ref a3, .int (iI (e4)), .ref a5, .int (iI (e6)), .ref a7, .int (iI (e8)), .int (iI (e9)), .int (iI (e10)), .ref a11, .int (iI (e12)), .int (iI (e13)), .int (iI (e14)), .ref a15])), (a0, fA cyI 54 m), (a1, fA cyI 54 m), (a3, fA cyI 216 d)] H := hP
          have hD : va_D (fp_A [(v, .inr (8, [.ref a0, .ref a1, .ref a2, .ref a3, .int (iI (e4)), .ref a5, .int (iI (e6)), .ref a7, .int (iI (e8)), .int (iI (e9)), .int (iI (e10)), .ref a11, .int (iI (e12)), .int (iI (e13)), .int (iI (e14)), .ref a15])), (a0, fA cyI 54 m), (a1, fA cyI 54 kc), (a3, fA cyI 216 d)]) [(v, .inr (8, [.ref a0, .ref a1, .ref a2, .ref a3, .int (iI (e4)), .ref a5, .int (iI (e6)), .ref a7, .int (iI (e8)), .int (iI (e9)), .int (iI (e10)), .ref a11, .int (iI (e12)), .int (iI (e13)), .int (iI (e14)), .ref a15])), (a0, fA cyI 54 m), (a1, fA cyI 54 m), (a3, fA cyI 216 d)] := hD
          refine lv_aload_n hx hb dX8_choose_67 rfl (lv_at hl 1 rfl) ?_
          refine va_get (D := D) (ci := 8) (ws := [(v, .inr (8, [.ref a0, .ref a1, .ref a2, .ref a3, .int (iI (e4)), .ref a5, .int (iI (e6)), .ref a7, .int (iI (e8)), .int (iI (e9)), .int (iI (e10)), .ref a11, .int (iI (e12)), .int (iI (e13)), .int (iI (e14)), .ref a15])), (a0, fA cyI 54 m), (a1, fA cyI 54 m), (a3, fA cyI 216 d)]) (v := .ref a0) (C := RX8) (T := TX8) (N := 16) hx hb hts (fun _ h => List.mem_cons_of_mem _ (List.mem_append_right _ h)) hown hK.1 hP 0 rfl rfl 0 (by decide) (hts _ fl_X8_choose_7) (fun _ h9 => h9) rfl dX8_choose_68 ?_
          refine fp_bipush hx hb dX8_choose_71 (by decide) ?_
          refine lv_iload_n hx hb dX8_choose_73 rfl (lv_at hl 2 rfl) ?_
          refine fp_iadd hx hb dX8_choose_74 ?_
          refine lv_iload hx hb dX8_choose_75 (lv_at hl 0 rfl) ?_
          refine fp_iast (wsC := [(v, .inr (8, [.ref a0, .ref a1, .ref a2, .ref a3, .int (iI (e4)), .ref a5, .int (iI (e6)), .ref a7, .int (iI (e8)), .int (iI (e9)), .int (iI (e10)), .ref a11, .int (iI (e12)), .int (iI (e13)), .int (iI (e14)), .ref a15])), (a0, fA cyI 54 m), (a1, fA cyI 54 m), (a3, fA cyI 216 d)]) hx hb hK hP hD hS 1 rfl (by omega) (by decide) dX8_choose_77 (fun H locs hP hD hS => ?_)
          have hP : va_P D vwCl [(v, .inr (8, [.ref a0, .ref a1, .ref a2, .ref a3, .int (iI (e4)), .ref a5, .int (iI (e6)), .ref a7, .int (iI (e8)), .int (iI (e9)), .int (iI (e10)), .ref a11, .int (iI (e12)), .int (iI (e13)), .int (iI (e14)), .ref a15])), (a0, fA cyI 54 (upI (m) (30 + k) (b))), (a1, fA cyI 54 m), (a3, fA cyI 216 d)] H := hP
          have hD : va_D (fp_A [(v, .inr (8, [.ref a0, .ref a1, .ref a2, .ref a3, .int (iI (e4)), .ref a5, .int (iI (e6)), .ref a7, .int (iI (e8)), .int (iI (e9)), .int (iI (e10)), .ref a11, .int (iI (e12)), .int (iI (e13)), .int (iI (e14)), .ref a15])), (a0, fA cyI 54 m), (a1, fA cyI 54 kc), (a3, fA cyI 216 d)]) [(v, .inr (8, [.ref a0, .ref a1, .ref a2, .ref a3, .int (iI (e4)), .ref a5, .int (iI (e6)), .ref a7, .int (iI (e8)), .int (iI (e9)), .int (iI (e10)), .ref a11, .int (iI (e12)), .int (iI (e13)), .int (iI (e14)), .ref a15])), (a0, fA cyI 54 (upI (m) (30 + k) (b))), (a1, fA cyI 54 m), (a3, fA cyI 216 d)] := hD
          refine lv_aload_n hx hb dX8_choose_78 rfl (lv_at hl 1 rfl) ?_
          refine va_get (D := D) (ci := 8) (ws := [(v, .inr (8, [.ref a0, .ref a1, .ref a2, .ref a3, .int (iI (e4)), .ref a5, .int (iI (e6)), .ref a7, .int (iI (e8)), .int (iI (e9)), .int (iI (e10)), .ref a11, .int (iI (e12)), .int (iI (e13)), .int (iI (e14)), .ref a15])), (a0, fA cyI 54 (upI (m) (30 + k) (b))), (a1, fA cyI 54 m), (a3, fA cyI 216 d)]) (v := .ref a0) (C := RX8) (T := TX8) (N := 16) hx hb hts (fun _ h => List.mem_cons_of_mem _ (List.mem_append_right _ h)) hown hK.1 hP 0 rfl rfl 0 (by decide) (hts _ fl_X8_choose_7) (fun _ h9 => h9) rfl dX8_choose_79 ?_
          refine fp_bipush hx hb dX8_choose_82 (by decide) ?_
          refine lv_iload_n hx hb dX8_choose_84 rfl (lv_at hl 2 rfl) ?_
          refine fp_iadd hx hb dX8_choose_85 ?_
          refine lv_iload_n hx hb dX8_choose_86 rfl (lv_at hl 4 rfl) ?_
          refine fp_iast (wsC := [(v, .inr (8, [.ref a0, .ref a1, .ref a2, .ref a3, .int (iI (e4)), .ref a5, .int (iI (e6)), .ref a7, .int (iI (e8)), .int (iI (e9)), .int (iI (e10)), .ref a11, .int (iI (e12)), .int (iI (e13)), .int (iI (e14)), .ref a15])), (a0, fA cyI 54 (upI (m) (30 + k) (b))), (a1, fA cyI 54 m), (a3, fA cyI 216 d)]) hx hb hK hP hD hS 1 rfl (by omega) (by decide) dX8_choose_87 (fun H locs hP hD hS => ?_)
          have hP : va_P D vwCl [(v, .inr (8, [.ref a0, .ref a1, .ref a2, .ref a3, .int (iI (e4)), .ref a5, .int (iI (e6)), .ref a7, .int (iI (e8)), .int (iI (e9)), .int (iI (e10)), .ref a11, .int (iI (e12)), .int (iI (e13)), .int (iI (e14)), .ref a15])), (a0, fA cyI 54 (upI (upI (m) (30 + k) (b)) (42 + k) (q))), (a1, fA cyI 54 m), (a3, fA cyI 216 d)] H := hP
          have hD : va_D (fp_A [(v, .inr (8, [.ref a0, .ref a1, .ref a2, .ref a3, .int (iI (e4)), .ref a5, .int (iI (e6)), .ref a7, .int (iI (e8)), .int (iI (e9)), .int (iI (e10)), .ref a11, .int (iI (e12)), .int (iI (e13)), .int (iI (e14)), .ref a15])), (a0, fA cyI 54 m), (a1, fA cyI 54 kc), (a3, fA cyI 216 d)]) [(v, .inr (8, [.ref a0, .ref a1, .ref a2, .ref a3, .int (iI (e4)), .ref a5, .int (iI (e6)), .ref a7, .int (iI (e8)), .int (iI (e9)), .int (iI (e10)), .ref a11, .int (iI (e12)), .int (iI (e13)), .int (iI (e14)), .ref a15])), (a0, fA cyI 54 (upI (upI (m) (30 + k) (b)) (42 + k) (q))), (a1, fA cyI 54 m), (a3, fA cyI 216 d)] := hD
          have hsm := cM_cho (m := m) (k := k) (b := b) (q := q) (by omega) hN.2
          have hC9 := Cat_cho hC (k := k) (b := b) (q := q) (by omega) (by omega) w16
          have hC8 := Same_Cat hsm hC9
          have hpe := Same_cs hsm hC9
          have hpos := cs_nn hC9
          refine lv_aload_n hx hb dX8_choose_88 rfl (lv_at hl 1 rfl) ?_
          refine lv_aload_n hx hb dX8_choose_89 rfl (lv_at hl 1 rfl) ?_
          refine fp_pV (As := []) (rest := [.ref v]) (wsC := [(v, .inr (8, [.ref a0, .ref a1, .ref a2, .ref a3, .int (iI (e4)), .ref a5, .int (iI (e6)), .ref a7, .int (iI (e8)), .int (iI (e9)), .int (iI (e10)), .ref a11, .int (iI (e12)), .int (iI (e13)), .int (iI (e14)), .ref a15])), (a0, fA cyI 54 (upI (upI (m) (30 + k) (b)) (42 + k) (q))), (a1, fA cyI 54 m), (a3, fA cyI 216 d)]) ⟨hx, hb, hml, hown, hts⟩ (c_X8_cost l D cyI v a0 a1 a2 a3 e4 a5 e6 a7 e8 e9 e10 a11 e12 e13 e14 a15 (upI (upI (m) (30 + k) (b)) (42 + k) (q)) hC8) (cwV 0 hts gX8_choose_X8_cost rfl rfl rfl (by decide +kernel) ⟨Nat.le_of_ble_eq_true rfl, Nat.le_of_ble_eq_true rfl⟩) hK hP hD [0, 1] (by decide) rfl rfl rfl rfl hl.1 rfl (Nat.le_of_ble_eq_true rfl) dX8_choose_90 ⟨Nat.zero_le _, Nat.zero_le _⟩ ?_
          rw [show (csC (cM (upI (upI (m) (30 + k) (b)) (42 + k) (q))) : Int) = csC (choL (cM m) k b q) from hpe.symm]
          refine fp_wV (As := [.int (iI (csC (choL (cM m) k b q)))]) (rest := []) (wsC := [(v, .inr (8, [.ref a0, .ref a1, .ref a2, .ref a3, .int (iI (e4)), .ref a5, .int (iI (e6)), .ref a7, .int (iI (e8)), .int (iI (e9)), .int (iI (e10)), .ref a11, .int (iI (e12)), .int (iI (e13)), .int (iI (e14)), .ref a15])), (a0, fA cyI 54 (upI (upI (m) (30 + k) (b)) (42 + k) (q))), (a1, fA cyI 54 m), (a3, fA cyI 216 d)]) ⟨hx, hb, hml, hown, hts⟩ (c_X8_acted l D cyI v a0 a1 a2 a3 e4 a5 e6 a7 e8 e9 e10 a11 e12 e13 e14 a15 m d (csC (choL (cM m) k b q)) (by omega)) (cwV 1 hts gX8_choose_X8_acted rfl rfl rfl (by decide +kernel) ⟨Nat.le_of_ble_eq_true rfl, Nat.le_of_ble_eq_true rfl⟩) (fun _ => rfl) hK hP hD hS [0, 2, 3] (by decide) rfl rfl rfl rfl hl.1 rfl (Nat.le_of_ble_eq_true rfl) dX8_choose_93 ⟨Nat.zero_le _, Nat.zero_le _⟩ (fun u9v H locs hu hP hD hS => ?_)
          refine W.eq (g2 := F0 mi 96 ls [.int (iI ((csC (choL (cM m) k b q))))]) rfl ?_
          have hP : va_P D vwCl [(v, .inr (8, [.ref a0, .ref a1, .ref a2, .ref a3, .int (iI (recN e4)), .ref a5, .int (iI (e6)), .ref a7, .int (iI (e8)), .int (iI (e9)), .int (iI (e10)), .ref a11, .int (iI (e12)), .int (iI (e13)), .int (iI (e14)), .ref a15])), (a0, fA cyI 54 (upI (upI (m) (30 + k) (b)) (42 + k) (q))), (a1, fA cyI 54 m), (a3, fA cyI 216 (recH d m e4))] H := hP
          have hD : va_D (fp_A [(v, .inr (8, [.ref a0, .ref a1, .ref a2, .ref a3, .int (iI (e4)), .ref a5, .int (iI (e6)), .ref a7, .int (iI (e8)), .int (iI (e9)), .int (iI (e10)), .ref a11, .int (iI (e12)), .int (iI (e13)), .int (iI (e14)), .ref a15])), (a0, fA cyI 54 m), (a1, fA cyI 54 kc), (a3, fA cyI 216 d)]) [(v, .inr (8, [.ref a0, .ref a1, .ref a2, .ref a3, .int (iI (recN e4)), .ref a5, .int (iI (e6)), .ref a7, .int (iI (e8)), .int (iI (e9)), .int (iI (e10)), .ref a11, .int (iI (e12)), .int (iI (e13)), .int (iI (e14)), .ref a15])), (a0, fA cyI 54 (upI (upI (m) (30 + k) (b)) (42 + k) (q))), (a1, fA cyI 54 m), (a3, fA cyI 216 (recH d m e4))] := hD
          have hR : coR (cM m) k b q = (csC (choL (cM m) k b q)) := by unfold coR; repeat (first | rw [if_pos (by omega)] | rw [if_neg (by omega)]); try (first | rfl | omega)
          have hP : va_P D vwCl [(v, .inr (8, [.ref a0, .ref a1, .ref a2, .ref a3, .int (iI (if 0 ≤ coR (cM m) k b q then recN e4 else e4)), .ref a5, .int (iI (e6)), .ref a7, .int (iI (e8)), .int (iI (e9)), .int (iI (e10)), .ref a11, .int (iI (e12)), .int (iI (e13)), .int (iI (e14)), .ref a15])), (a0, fA cyI 54 (upI (upI (m) (30 + k) (b)) (42 + k) (q))), (a1, fA cyI 54 m), (a3, fA cyI 216 (if 0 ≤ coR (cM m) k b q then recH d m e4 else d))] H := by
            rw [(show (recH d m e4 : Int → Int) = if 0 ≤ coR (cM m) k b q then recH d m e4 else d from (by first | rw [if_pos (by omega)] | rw [if_neg (by omega)])).symm]
            rw [(show (recN e4 : Int) = if 0 ≤ coR (cM m) k b q then recN e4 else e4 from (by first | rw [if_pos (by omega)] | rw [if_neg (by omega)])).symm]
            exact hP
          have hret : (coR (cM m) k b q : Int) = (csC (choL (cM m) k b q)) := (by exact hR)
          exact fp_wret (upI (upI (m) (30 + k) (b)) (42 + k) (q), m) hx hb hr hlocks hS (by dsimp only; exact hP) (by rw [if_pos (by omega)]; exact hsm) (congrArg (fun z : Int => some (Value.int (iI z))) hret) dX8_choose_96
        · skip
          refine lv_aload_n hx hb dX8_choose_47 rfl (lv_at hl 1 rfl) ?_
          refine va_get (D := D) (ci := 8) (ws := [(v, .inr (8, [.ref a0, .ref a1, .ref a2, .ref a3, .int (iI (e4)), .ref a5, .int (iI (e6)), .ref a7, .int (iI (e8)), .int (iI (e9)), .int (iI (e10)), .ref a11, .int (iI (e12)), .int (iI (e13)), .int (iI (e14)), .ref a15])), (a0, fA cyI 54 m), (a1, fA cyI 54 kc), (a3, fA cyI 216 d)]) (v := .ref a0) (C := RX8) (T := TX8) (N := 16) hx hb hts (fun _ h => List.mem_cons_of_mem _ (List.mem_append_right _ h)) hown hK.1 hP 0 rfl rfl 0 (by decide) (hts _ fl_X8_choose_7) (fun _ h9 => h9) rfl dX8_choose_48 ?_
          refine fp_bipush hx hb dX8_choose_51 (by decide) ?_
          refine lv_iload_n hx hb dX8_choose_53 rfl (lv_at hl 2 rfl) ?_
          refine fp_iadd hx hb dX8_choose_54 ?_
          refine fp_iald (wsC := [(v, .inr (8, [.ref a0, .ref a1, .ref a2, .ref a3, .int (iI (e4)), .ref a5, .int (iI (e6)), .ref a7, .int (iI (e8)), .int (iI (e9)), .int (iI (e10)), .ref a11, .int (iI (e12)), .int (iI (e13)), .int (iI (e14)), .ref a15])), (a0, fA cyI 54 m), (a1, fA cyI 54 kc), (a3, fA cyI 216 d)]) hx hb hK hP 1 rfl (by omega) (by decide) dX8_choose_55 ?_
          refine lv_iload_n hx hb dX8_choose_56 rfl (lv_at hl 4 rfl) ?_
          refine fp_icmp_ne (tgt := 63) hx hb (by omega) dX8_choose_57 (by decide) (fun q57 => ?_) (fun q57 => ?_)
          · skip
            refine lv_aload_n hx hb dX8_choose_63 rfl (lv_at hl 1 rfl) ?_
            refine fp_wV (As := []) (rest := []) (wsC := [(v, .inr (8, [.ref a0, .ref a1, .ref a2, .ref a3, .int (iI (e4)), .ref a5, .int (iI (e6)), .ref a7, .int (iI (e8)), .int (iI (e9)), .int (iI (e10)), .ref a11, .int (iI (e12)), .int (iI (e13)), .int (iI (e14)), .ref a15])), (a0, fA cyI 54 m), (a1, fA cyI 54 kc), (a3, fA cyI 216 d)]) ⟨hx, hb, hml, hown, hts⟩ (c_X8_remember l D cyI v a0 a1 a2 a3 e4 a5 e6 a7 e8 e9 e10 a11 e12 e13 e14 a15 m kc) (cwV 0 hts gX8_choose_X8_remember rfl rfl rfl (by decide +kernel) ⟨Nat.le_of_ble_eq_true rfl, Nat.le_of_ble_eq_true rfl⟩) (fun _ => rfl) hK hP hD hS [0, 1, 2] (by decide) rfl rfl rfl rfl hl.1 rfl (Nat.le_of_ble_eq_true rfl) dX8_choose_64 ⟨Nat.zero_le _, Nat.zero_le _⟩ (fun u9v H locs hu hP hD hS => ?_)
            refine W.eq (g2 := F0 mi 67 ls []) rfl ?_
            have hP : va_P D vwCl [(v, .inr (8, [.ref a0, .ref a1, .ref a2, .ref a3, .int (iI (e4)), .ref a5, .int (iI (e6)), .ref a7, .int (iI (e8)), .int (iI (e9)), .int (iI (e10)), .ref a11, .int (iI (e12)), .int (iI (e13)), .int (iI (e14)), .ref a15])), (a0, fA cyI 54 m), (a1, fA cyI 54 m), (a3, fA cyI 216 d)] H := hP
            have hD : va_D (fp_A [(v, .inr (8, [.ref a0, .ref a1, .ref a2, .ref a3, .int (iI (e4)), .ref a5, .int (iI (e6)), .ref a7, .int (iI (e8)), .int (iI (e9)), .int (iI (e10)), .ref a11, .int (iI (e12)), .int (iI (e13)), .int (iI (e14)), .ref a15])), (a0, fA cyI 54 m), (a1, fA cyI 54 kc), (a3, fA cyI 216 d)]) [(v, .inr (8, [.ref a0, .ref a1, .ref a2, .ref a3, .int (iI (e4)), .ref a5, .int (iI (e6)), .ref a7, .int (iI (e8)), .int (iI (e9)), .int (iI (e10)), .ref a11, .int (iI (e12)), .int (iI (e13)), .int (iI (e14)), .ref a15])), (a0, fA cyI 54 m), (a1, fA cyI 54 m), (a3, fA cyI 216 d)] := hD
            refine lv_aload_n hx hb dX8_choose_67 rfl (lv_at hl 1 rfl) ?_
            refine va_get (D := D) (ci := 8) (ws := [(v, .inr (8, [.ref a0, .ref a1, .ref a2, .ref a3, .int (iI (e4)), .ref a5, .int (iI (e6)), .ref a7, .int (iI (e8)), .int (iI (e9)), .int (iI (e10)), .ref a11, .int (iI (e12)), .int (iI (e13)), .int (iI (e14)), .ref a15])), (a0, fA cyI 54 m), (a1, fA cyI 54 m), (a3, fA cyI 216 d)]) (v := .ref a0) (C := RX8) (T := TX8) (N := 16) hx hb hts (fun _ h => List.mem_cons_of_mem _ (List.mem_append_right _ h)) hown hK.1 hP 0 rfl rfl 0 (by decide) (hts _ fl_X8_choose_7) (fun _ h9 => h9) rfl dX8_choose_68 ?_
            refine fp_bipush hx hb dX8_choose_71 (by decide) ?_
            refine lv_iload_n hx hb dX8_choose_73 rfl (lv_at hl 2 rfl) ?_
            refine fp_iadd hx hb dX8_choose_74 ?_
            refine lv_iload hx hb dX8_choose_75 (lv_at hl 0 rfl) ?_
            refine fp_iast (wsC := [(v, .inr (8, [.ref a0, .ref a1, .ref a2, .ref a3, .int (iI (e4)), .ref a5, .int (iI (e6)), .ref a7, .int (iI (e8)), .int (iI (e9)), .int (iI (e10)), .ref a11, .int (iI (e12)), .int (iI (e13)), .int (iI (e14)), .ref a15])), (a0, fA cyI 54 m), (a1, fA cyI 54 m), (a3, fA cyI 216 d)]) hx hb hK hP hD hS 1 rfl (by omega) (by decide) dX8_choose_77 (fun H locs hP hD hS => ?_)
            have hP : va_P D vwCl [(v, .inr (8, [.ref a0, .ref a1, .ref a2, .ref a3, .int (iI (e4)), .ref a5, .int (iI (e6)), .ref a7, .int (iI (e8)), .int (iI (e9)), .int (iI (e10)), .ref a11, .int (iI (e12)), .int (iI (e13)), .int (iI (e14)), .ref a15])), (a0, fA cyI 54 (upI (m) (30 + k) (b))), (a1, fA cyI 54 m), (a3, fA cyI 216 d)] H := hP
            have hD : va_D (fp_A [(v, .inr (8, [.ref a0, .ref a1, .ref a2, .ref a3, .int (iI (e4)), .ref a5, .int (iI (e6)), .ref a7, .int (iI (e8)), .int (iI (e9)), .int (iI (e10)), .ref a11, .int (iI (e12)), .int (iI (e13)), .int (iI (e14)), .ref a15])), (a0, fA cyI 54 m), (a1, fA cyI 54 kc), (a3, fA cyI 216 d)]) [(v, .inr (8, [.ref a0, .ref a1, .ref a2, .ref a3, .int (iI (e4)), .ref a5, .int (iI (e6)), .ref a7, .int (iI (e8)), .int (iI (e9)), .int (iI (e10)), .ref a11, .int (iI (e12)), .int (iI (e13)), .int (iI (e14)), .ref a15])), (a0, fA cyI 54 (upI (m) (30 + k) (b))), (a1, fA cyI 54 m), (a3, fA cyI 216 d)] := hD
            refine lv_aload_n hx hb dX8_choose_78 rfl (lv_at hl 1 rfl) ?_
            refine va_get (D := D) (ci := 8) (ws := [(v, .inr (8, [.ref a0, .ref a1, .ref a2, .ref a3, .int (iI (e4)), .ref a5, .int (iI (e6)), .ref a7, .int (iI (e8)), .int (iI (e9)), .int (iI (e10)), .ref a11, .int (iI (e12)), .int (iI (e13)), .int (iI (e14)), .ref a15])), (a0, fA cyI 54 (upI (m) (30 + k) (b))), (a1, fA cyI 54 m), (a3, fA cyI 216 d)]) (v := .ref a0) (C := RX8) (T := TX8) (N := 16) hx hb hts (fun _ h => List.mem_cons_of_mem _ (List.mem_append_right _ h)) hown hK.1 hP 0 rfl rfl 0 (by decide) (hts _ fl_X8_choose_7) (fun _ h9 => h9) rfl dX8_choose_79 ?_
            refine fp_bipush hx hb dX8_choose_82 (by decide) ?_
            refine lv_iload_n hx hb dX8_choose_84 rfl (lv_at hl 2 rfl) ?_
            refine fp_iadd hx hb dX8_choose_85 ?_
            refine lv_iload_n hx hb dX8_choose_86 rfl (lv_at hl 4 rfl) ?_
            refine fp_iast (wsC := [(v, .inr (8, [.ref a0, .ref a1, .ref a2, .ref a3, .int (iI (e4)), .ref a5, .int (iI (e6)), .ref a7, .int (iI (e8)), .int (iI (e9)), .int (iI (e10)), .ref a11, .int (iI (e12)), .int (iI (e13)), .int (iI (e14)), .ref a15])), (a0, fA cyI 54 (upI (m) (30 + k) (b))), (a1, fA cyI 54 m), (a3, fA cyI 216 d)]) hx hb hK hP hD hS 1 rfl (by omega) (by decide) dX8_choose_87 (fun H locs hP hD hS => ?_)
            have hP : va_P D vwCl [(v, .inr (8, [.ref a0, .ref a1, .ref a2, .ref a3, .int (iI (e4)), .ref a5, .int (iI (e6)), .ref a7, .int (iI (e8)), .int (iI (e9)), .int (iI (e10)), .ref a11, .int (iI (e12)), .int (iI (e13)), .int (iI (e14)), .ref a15])), (a0, fA cyI 54 (upI (upI (m) (30 + k) (b)) (42 + k) (q))), (a1, fA cyI 54 m), (a3, fA cyI 216 d)] H := hP
            have hD : va_D (fp_A [(v, .inr (8, [.ref a0, .ref a1, .ref a2, .ref a3, .int (iI (e4)), .ref a5, .int (iI (e6)), .ref a7, .int (iI (e8)), .int (iI (e9)), .int (iI (e10)), .ref a11, .int (iI (e12)), .int (iI (e13)), .int (iI (e14)), .ref a15])), (a0, fA cyI 54 m), (a1, fA cyI 54 kc), (a3, fA cyI 216 d)]) [(v, .inr (8, [.ref a0, .ref a1, .ref a2, .ref a3, .int (iI (e4)), .ref a5, .int (iI (e6)), .ref a7, .int (iI (e8)), .int (iI (e9)), .int (iI (e10)), .ref a11, .int (iI (e12)), .int (iI (e13)), .int (iI (e14)), .ref a15])), (a0, fA cyI 54 (upI (upI (m) (30 + k) (b)) (42 + k) (q))), (a1, fA cyI 54 m), (a3, fA cyI 216 d)] := hD
            have hsm := cM_cho (m := m) (k := k) (b := b) (q := q) (by omega) hN.2
            have hC9 := Cat_cho hC (k := k) (b := b) (q := q) (by omega) (by omega) w16
            have hC8 := Same_Cat hsm hC9
            have hpe := Same_cs hsm hC9
            have hpos := cs_nn hC9
            refine lv_aload_n hx hb dX8_choose_88 rfl (lv_at hl 1 rfl) ?_
            refine lv_aload_n hx hb dX8_choose_89 rfl (lv_at hl 1 rfl) ?_
            refine fp_pV (As := []) (rest := [.ref v]) (wsC := [(v, .inr (8, [.ref a0, .ref a1, .ref a2, .ref a3, .int (iI (e4)), .ref a5, .int (iI (e6)), .ref a7, .int (iI (e8)), .int (iI (e9)), .int (iI (e10)), .ref a11, .int (iI (e12)), .int (iI (e13)), .int (iI (e14)), .ref a15])), (a0, fA cyI 54 (upI (upI (m) (30 + k) (b)) (42 + k) (q))), (a1, fA cyI 54 m), (a3, fA cyI 216 d)]) ⟨hx, hb, hml, hown, hts⟩ (c_X8_cost l D cyI v a0 a1 a2 a3 e4 a5 e6 a7 e8 e9 e10 a11 e12 e13 e14 a15 (upI (upI (m) (30 + k) (b)) (42 + k) (q)) hC8) (cwV 0 hts gX8_choose_X8_cost rfl rfl rfl (by decide +kernel) ⟨Nat.le_of_ble_eq_true rfl, Nat.le_of_ble_eq_true rfl⟩) hK hP hD [0, 1] (by decide) rfl rfl rfl rfl hl.1 rfl (Nat.le_of_ble_eq_true rfl) dX8_choose_90 ⟨Nat.zero_le _, Nat.zero_le _⟩ ?_
            rw [show (csC (cM (upI (upI (m) (30 + k) (b)) (42 + k) (q))) : Int) = csC (choL (cM m) k b q) from hpe.symm]
            refine fp_wV (As := [.int (iI (csC (choL (cM m) k b q)))]) (rest := []) (wsC := [(v, .inr (8, [.ref a0, .ref a1, .ref a2, .ref a3, .int (iI (e4)), .ref a5, .int (iI (e6)), .ref a7, .int (iI (e8)), .int (iI (e9)), .int (iI (e10)), .ref a11, .int (iI (e12)), .int (iI (e13)), .int (iI (e14)), .ref a15])), (a0, fA cyI 54 (upI (upI (m) (30 + k) (b)) (42 + k) (q))), (a1, fA cyI 54 m), (a3, fA cyI 216 d)]) ⟨hx, hb, hml, hown, hts⟩ (c_X8_acted l D cyI v a0 a1 a2 a3 e4 a5 e6 a7 e8 e9 e10 a11 e12 e13 e14 a15 m d (csC (choL (cM m) k b q)) (by omega)) (cwV 1 hts gX8_choose_X8_acted rfl rfl rfl (by decide +kernel) ⟨Nat.le_of_ble_eq_true rfl, Nat.le_of_ble_eq_true rfl⟩) (fun _ => rfl) hK hP hD hS [0, 2, 3] (by decide) rfl rfl rfl rfl hl.1 rfl (Nat.le_of_ble_eq_true rfl) dX8_choose_93 ⟨Nat.zero_le _, Nat.zero_le _⟩ (fun u9v H locs hu hP hD hS => ?_)
            refine W.eq (g2 := F0 mi 96 ls [.int (iI ((csC (choL (cM m) k b q))))]) rfl ?_
            have hP : va_P D vwCl [(v, .inr (8, [.ref a0, .ref a1, .ref a2, .ref a3, .int (iI (recN e4)), .ref a5, .int (iI (e6)), .ref a7, .int (iI (e8)), .int (iI (e9)), .int (iI (e10)), .ref a11, .int (iI (e12)), .int (iI (e13)), .int (iI (e14)), .ref a15])), (a0, fA cyI 54 (upI (upI (m) (30 + k) (b)) (42 + k) (q))), (a1, fA cyI 54 m), (a3, fA cyI 216 (recH d m e4))] H := hP
            have hD : va_D (fp_A [(v, .inr (8, [.ref a0, .ref a1, .ref a2, .ref a3, .int (iI (e4)), .ref a5, .int (iI (e6)), .ref a7, .int (iI (e8)), .int (iI (e9)), .int (iI (e10)), .ref a11, .int (iI (e12)), .int (iI (e13)), .int (iI (e14)), .ref a15])), (a0, fA cyI 54 m), (a1, fA cyI 54 kc), (a3, fA cyI 216 d)]) [(v, .inr (8, [.ref a0, .ref a1, .ref a2, .ref a3, .int (iI (recN e4)), .ref a5, .int (iI (e6)), .ref a7, .int (iI (e8)), .int (iI (e9)), .int (iI (e10)), .ref a11, .int (iI (e12)), .int (iI (e13)), .int (iI (e14)), .ref a15])), (a0, fA cyI 54 (upI (upI (m) (30 + k) (b)) (42 + k) (q))), (a1, fA cyI 54 m), (a3, fA cyI 216 (recH d m e4))] := hD
            have hR : coR (cM m) k b q = (csC (choL (cM m) k b q)) := by unfold coR; repeat (first | rw [if_pos (by omega)] | rw [if_neg (by omega)]); try (first | rfl | omega)
            have hP : va_P D vwCl [(v, .inr (8, [.ref a0, .ref a1, .ref a2, .ref a3, .int (iI (if 0 ≤ coR (cM m) k b q then recN e4 else e4)), .ref a5, .int (iI (e6)), .ref a7, .int (iI (e8)), .int (iI (e9)), .int (iI (e10)), .ref a11, .int (iI (e12)), .int (iI (e13)), .int (iI (e14)), .ref a15])), (a0, fA cyI 54 (upI (upI (m) (30 + k) (b)) (42 + k) (q))), (a1, fA cyI 54 m), (a3, fA cyI 216 (if 0 ≤ coR (cM m) k b q then recH d m e4 else d))] H := by
              rw [(show (recH d m e4 : Int → Int) = if 0 ≤ coR (cM m) k b q then recH d m e4 else d from (by first | rw [if_pos (by omega)] | rw [if_neg (by omega)])).symm]
              rw [(show (recN e4 : Int) = if 0 ≤ coR (cM m) k b q then recN e4 else e4 from (by first | rw [if_pos (by omega)] | rw [if_neg (by omega)])).symm]
              exact hP
            have hret : (coR (cM m) k b q : Int) = (csC (choL (cM m) k b q)) := (by exact hR)
            exact fp_wret (upI (upI (m) (30 + k) (b)) (42 + k) (q), m) hx hb hr hlocks hS (by dsimp only; exact hP) (by rw [if_pos (by omega)]; exact hsm) (congrArg (fun z : Int => some (Value.int (iI z))) hret) dX8_choose_96
          · skip
            refine fp_bipush hx hb dX8_choose_60 (by decide) ?_
            have hR : coR (cM m) k b q = (-5) := by unfold coR; repeat (first | rw [if_pos (by omega)] | rw [if_neg (by omega)]); try (first | rfl | omega)
            have hP : va_P D vwCl [(v, .inr (8, [.ref a0, .ref a1, .ref a2, .ref a3, .int (iI (if 0 ≤ coR (cM m) k b q then recN e4 else e4)), .ref a5, .int (iI (e6)), .ref a7, .int (iI (e8)), .int (iI (e9)), .int (iI (e10)), .ref a11, .int (iI (e12)), .int (iI (e13)), .int (iI (e14)), .ref a15])), (a0, fA cyI 54 m), (a1, fA cyI 54 kc), (a3, fA cyI 216 (if 0 ≤ coR (cM m) k b q then recH d m e4 else d))] H := by
              rw [(show (d : Int → Int) = if 0 ≤ coR (cM m) k b q then recH d m e4 else d from (by first | rw [if_pos (by omega)] | rw [if_neg (by omega)])).symm]
              rw [(show (e4 : Int) = if 0 ≤ coR (cM m) k b q then recN e4 else e4 from (by first | rw [if_pos (by omega)] | rw [if_neg (by omega)])).symm]
              exact hP
            have hret : (coR (cM m) k b q : Int) = (-5) := (by exact hR)
            exact fp_wret (m, kc) hx hb hr hlocks hS (by dsimp only; exact hP) (by rw [if_neg (by omega)]; exact Same_rf _) (congrArg (fun z : Int => some (Value.int (iI z))) hret) dX8_choose_62
      refine fp_if_eq (tgt := 30) hx hb (by omega) dX8_choose_23 (by decide) (fun q23 => ?_) (fun q23 => ?_)
      · skip
        refine fp_iconst hx hb dX8_choose_30 ?_
        exact jn2 0 (by omega) sx.heap [] hP hD hS ls (lv_sub hl [0, 1, 2, 3] rfl)
      · skip
        refine fp_iconst hx hb dX8_choose_26 ?_
        refine lv_goto (tgt := 31) hx hb dX8_choose_27 (by decide) ?_
        exact jn2 1 (by omega) sx.heap [] hP hD hS ls (lv_sub hl [0, 1, 2, 3] rfl)
    · skip
      have w16 := bI_e q16
      refine fp_bipush hx hb dX8_choose_19 (by decide) ?_
      have hR : coR (cM m) k b q = (-2) := by unfold coR; repeat (first | rw [if_pos (by omega)] | rw [if_neg (by omega)]); try (first | rfl | omega)
      have hP : va_P D vwCl [(v, .inr (8, [.ref a0, .ref a1, .ref a2, .ref a3, .int (iI (if 0 ≤ coR (cM m) k b q then recN e4 else e4)), .ref a5, .int (iI (e6)), .ref a7, .int (iI (e8)), .int (iI (e9)), .int (iI (e10)), .ref a11, .int (iI (e12)), .int (iI (e13)), .int (iI (e14)), .ref a15])), (a0, fA cyI 54 m), (a1, fA cyI 54 kc), (a3, fA cyI 216 (if 0 ≤ coR (cM m) k b q then recH d m e4 else d))] sx.heap := by
        rw [(show (d : Int → Int) = if 0 ≤ coR (cM m) k b q then recH d m e4 else d from (by first | rw [if_pos (by omega)] | rw [if_neg (by omega)])).symm]
        rw [(show (e4 : Int) = if 0 ≤ coR (cM m) k b q then recN e4 else e4 from (by first | rw [if_pos (by omega)] | rw [if_neg (by omega)])).symm]
        exact hP
      have hret : (coR (cM m) k b q : Int) = (-2) := (by exact hR)
      exact fp_wret (m, kc) hx hb hr hlocks hS (by dsimp only; exact hP) (by rw [if_neg (by omega)]; exact Same_rf _) (congrArg (fun z : Int => some (Value.int (iI z))) hret) dX8_choose_21
  · skip
    have w5 := bI_e q5
    refine fp_iconst hx hb dX8_choose_8 ?_
    have hR : coR (cM m) k b q = (-1) := by unfold coR; repeat (first | rw [if_pos (by omega)] | rw [if_neg (by omega)]); try (first | rfl | omega)
    have hP : va_P D vwCl [(v, .inr (8, [.ref a0, .ref a1, .ref a2, .ref a3, .int (iI (if 0 ≤ coR (cM m) k b q then recN e4 else e4)), .ref a5, .int (iI (e6)), .ref a7, .int (iI (e8)), .int (iI (e9)), .int (iI (e10)), .ref a11, .int (iI (e12)), .int (iI (e13)), .int (iI (e14)), .ref a15])), (a0, fA cyI 54 m), (a1, fA cyI 54 kc), (a3, fA cyI 216 (if 0 ≤ coR (cM m) k b q then recH d m e4 else d))] sx.heap := by
      rw [(show (d : Int → Int) = if 0 ≤ coR (cM m) k b q then recH d m e4 else d from (by first | rw [if_pos (by omega)] | rw [if_neg (by omega)])).symm]
      rw [(show (e4 : Int) = if 0 ≤ coR (cM m) k b q then recN e4 else e4 from (by first | rw [if_pos (by omega)] | rw [if_neg (by omega)])).symm]
      exact hP
    have hret : (coR (cM m) k b q : Int) = (-1) := (by exact hR)
    exact fp_wret (m, kc) hx hb hr hlocks hS (by dsimp only; exact hP) (by rw [if_neg (by omega)]; exact Same_rf _) (congrArg (fun z : Int => some (Value.int (iI z))) hret) dX8_choose_9
theorem ck_X8_set_182 : Cond.constantLong RX8 182 (4) ∈ wsX8_set := by decide +kernel
theorem fl_X8_set_7 : Cond.fieldLink RX8 7 "FacingPlatesModel" "all" "[I" ∈ wsX8_set := by decide +kernel
set_option maxHeartbeats 4000000 in
set_option maxRecDepth 100000 in
theorem c_X8_set (l : Launch) (D : va_G) (cyI : ClassId) (v : Nat) (a0 : Nat) (a1 : Nat) (a2 : Nat) (a3 : Nat) (e4 : Int) (a5 : Nat) (e6 : Int) (a7 : Nat) (e8 : Int) (e9 : Int) (e10 : Int) (a11 : Nat) (e12 : Int) (e13 : Int) (e14 : Int) (a15 : Nat) (m : Int → Int) (kc : Int → Int) (d : Int → Int) (w : Int) (y : Int) (hC : CatOK (cM m)) (he4 : 0 ≤ e4 ∧ e4 ≤ 4) (hw9 : -2147483648 ≤ w ∧ w ≤ 2147483647) (hy9 : -2147483648 ≤ y ∧ y ≤ 2147483647) : fp_MW l yX8_set wsX8_set ({ frames := 2, cells := 0, slots := 0, locals := 46 } : Room) D cyI [(v, .inr (8, [.ref a0, .ref a1, .ref a2, .ref a3, .int (iI (e4)), .ref a5, .int (iI (e6)), .ref a7, .int (iI (e8)), .int (iI (e9)), .int (iI (e10)), .ref a11, .int (iI (e12)), .int (iI (e13)), .int (iI (e14)), .ref a15])), (a0, fA cyI 54 m), (a1, fA cyI 54 kc), (a3, fA cyI 216 d)] [.ref v, .int (iI (w)), .int (iI (y))] (fun (u9 : (Int → Int) × (Int → Int)) => (Same (if 0 ≤ stR (cM m) w y then upI (cM m) (49 + w) y else cM m) (cM u9.1))) (fun (u9 : (Int → Int) × (Int → Int)) => some (.int (iI (stR (cM m) w y)))) (fun (u9 : (Int → Int) × (Int → Int)) => [(v, .inr (8, [.ref a0, .ref a1, .ref a2, .ref a3, .int (iI (if 0 ≤ stR (cM m) w y then recN e4 else e4)), .ref a5, .int (iI (e6)), .ref a7, .int (iI (e8)), .int (iI (e9)), .int (iI (e10)), .ref a11, .int (iI (e12)), .int (iI (e13)), .int (iI (e14)), .ref a15])), (a0, fA cyI 54 u9.1), (a1, fA cyI 54 u9.2), (a3, fA cyI 216 (if 0 ≤ stR (cM m) w y then recH d m e4 else d))]) := by
  refine fp_start (cc := cX8_set) (maxL := 4) (ret := (some .int)) (by decide) rfl (Nat.le_of_ble_eq_true rfl) ?_
  intro pg en sx mi ar bl mt cd ls hx hb hr hts hown hlocks hml hnm hP hK hD hl
  have hown : sx.vm.findClass RX8 = some mi.cls := hown
  have hl : lv_has ls 4 [(0, .ref v), (1, .int (iI (w))), (2, .int (iI (y)))] := hl
  have hD := fp_self hD
  have hS : va_S (fp_A [(v, .inr (8, [.ref a0, .ref a1, .ref a2, .ref a3, .int (iI (e4)), .ref a5, .int (iI (e6)), .ref a7, .int (iI (e8)), .int (iI (e9)), .int (iI (e10)), .ref a11, .int (iI (e12)), .int (iI (e13)), .int (iI (e14)), .ref a15])), (a0, fA cyI 54 m), (a1, fA cyI 54 kc), (a3, fA cyI 216 d)]) sx.heap sx.heap [] := va_S.rf
  have hN := hC.1
  rw [cM_0] at hN
  have e0 : cM m 0 = m 5 := cM_0 m
  have hX := hC.2.2
  unfold SetOK at hX
  have eG : cM m (49 + 0) = m 0 := cM_s (by omega)
  rw [eG] at hX
  have hX0 := hX.1
  refine lv_iload_n hx hb dX8_set_0 rfl (lv_at hl 1 rfl) ?_
  refine fp_i2l hx hb (by omega) dX8_set_1 ?_
  refine fp_lconst hx hb 0 dX8_set_2 rfl ?_
  refine fp_ldc2 hx hb (4) rfl hown (hts _ ck_X8_set_182) dX8_set_3 ?_
  refine fp_pS (As := [.long (lI (w)), .long (lI (0)), .long (lI (4))]) (rest := []) (wsC := [(v, .inr (8, [.ref a0, .ref a1, .ref a2, .ref a3, .int (iI (e4)), .ref a5, .int (iI (e6)), .ref a7, .int (iI (e8)), .int (iI (e9)), .int (iI (e10)), .ref a11, .int (iI (e12)), .int (iI (e13)), .int (iI (e14)), .ref a15])), (a0, fA cyI 54 m), (a1, fA cyI 54 kc), (a3, fA cyI 216 d)]) ⟨hx, hb, hml, hown, hts⟩ (c_X8_in l D cyI w 0 4 (by omega)) (va_cwS 3 hts gX8_set_X8_in rfl rfl rfl (by decide +kernel) ⟨Nat.le_of_ble_eq_true rfl, Nat.le_of_ble_eq_true rfl⟩) hK hP hD [] (by decide) rfl rfl hl.1 rfl (Nat.le_of_ble_eq_true rfl) dX8_set_6 ⟨Nat.zero_le _, Nat.zero_le _⟩ ?_
  refine fp_if_ne (tgt := 14) hx hb (bI_r32 _) dX8_set_9 (by decide) (fun q9 => ?_) (fun q9 => ?_)
  · skip
    have w9 := bI_ne q9
    refine lv_iload_n hx hb dX8_set_14 rfl (lv_at hl 1 rfl) ?_
    refine lv_iload_n hx hb dX8_set_15 rfl (lv_at hl 2 rfl) ?_
    refine fp_pS (As := [.int (iI (w)), .int (iI (y))]) (rest := []) (wsC := [(v, .inr (8, [.ref a0, .ref a1, .ref a2, .ref a3, .int (iI (e4)), .ref a5, .int (iI (e6)), .ref a7, .int (iI (e8)), .int (iI (e9)), .int (iI (e10)), .ref a11, .int (iI (e12)), .int (iI (e13)), .int (iI (e14)), .ref a15])), (a0, fA cyI 54 m), (a1, fA cyI 54 kc), (a3, fA cyI 216 d)]) ⟨hx, hb, hml, hown, hts⟩ (c_X8_isSetting l D cyI w y (by omega) hy9) (va_cwS 2 hts gX8_set_X8_isSetting rfl rfl rfl (by decide +kernel) ⟨Nat.le_of_ble_eq_true rfl, Nat.le_of_ble_eq_true rfl⟩) hK hP hD [] (by decide) rfl rfl hl.1 rfl (Nat.le_of_ble_eq_true rfl) dX8_set_16 ⟨Nat.zero_le _, Nat.zero_le _⟩ ?_
    refine fp_if_ne (tgt := 25) hx hb (bI_r32 _) dX8_set_19 (by decide) (fun q19 => ?_) (fun q19 => ?_)
    · skip
      have w19 := bI_ne q19
      refine lv_aload_n hx hb dX8_set_25 rfl (lv_at hl 0 rfl) ?_
      refine va_get (D := D) (ci := 8) (ws := [(v, .inr (8, [.ref a0, .ref a1, .ref a2, .ref a3, .int (iI (e4)), .ref a5, .int (iI (e6)), .ref a7, .int (iI (e8)), .int (iI (e9)), .int (iI (e10)), .ref a11, .int (iI (e12)), .int (iI (e13)), .int (iI (e14)), .ref a15])), (a0, fA cyI 54 m), (a1, fA cyI 54 kc), (a3, fA cyI 216 d)]) (v := .ref a0) (C := RX8) (T := TX8) (N := 16) hx hb hts (fun _ h => List.mem_cons_of_mem _ (List.mem_append_right _ h)) hown hK.1 hP 0 rfl rfl 0 (by decide) (hts _ fl_X8_set_7) (fun _ h9 => h9) rfl dX8_set_26 ?_
      refine lv_iload_n hx hb dX8_set_29 rfl (lv_at hl 1 rfl) ?_
      refine fp_iald (wsC := [(v, .inr (8, [.ref a0, .ref a1, .ref a2, .ref a3, .int (iI (e4)), .ref a5, .int (iI (e6)), .ref a7, .int (iI (e8)), .int (iI (e9)), .int (iI (e10)), .ref a11, .int (iI (e12)), .int (iI (e13)), .int (iI (e14)), .ref a15])), (a0, fA cyI 54 m), (a1, fA cyI 54 kc), (a3, fA cyI 216 d)]) hx hb hK hP 1 rfl (by omega) (by decide) dX8_set_30 ?_
      refine lv_istore_n (lv' := [(3, .int (iI (m w))), (0, .ref v), (1, .int (iI (w))), (2, .int (iI (y)))]) hx hb dX8_set_31 rfl hl (by decide) rfl (fun ls hl => ?_)
      have ew : cM m (49 + w) = m w := cM_s (by omega)
      have hcw : 0 ≤ m w ∧ m w ≤ 999 := by
        have hX2 := hC.2.2
        unfold SetOK at hX2
        rw [← ew]
        have e : w = 0 ∨ w = 1 ∨ w = 2 ∨ w = 3 ∨ w = 4 := by omega
        rcases e with rfl | rfl | rfl | rfl | rfl <;> omega
      refine lv_iload_n hx hb dX8_set_32 rfl (lv_at hl 0 rfl) ?_
      refine lv_iload_n hx hb dX8_set_33 rfl (lv_at hl 3 rfl) ?_
      refine fp_icmp_ne (tgt := 40) hx hb (by omega) dX8_set_34 (by decide) (fun q34 => ?_) (fun q34 => ?_)
      · skip
        refine lv_aload_n hx hb dX8_set_40 rfl (lv_at hl 1 rfl) ?_
        refine fp_wV (As := []) (rest := []) (wsC := [(v, .inr (8, [.ref a0, .ref a1, .ref a2, .ref a3, .int (iI (e4)), .ref a5, .int (iI (e6)), .ref a7, .int (iI (e8)), .int (iI (e9)), .int (iI (e10)), .ref a11, .int (iI (e12)), .int (iI (e13)), .int (iI (e14)), .ref a15])), (a0, fA cyI 54 m), (a1, fA cyI 54 kc), (a3, fA cyI 216 d)]) ⟨hx, hb, hml, hown, hts⟩ (c_X8_remember l D cyI v a0 a1 a2 a3 e4 a5 e6 a7 e8 e9 e10 a11 e12 e13 e14 a15 m kc) (cwV 0 hts gX8_set_X8_remember rfl rfl rfl (by decide +kernel) ⟨Nat.le_of_ble_eq_true rfl, Nat.le_of_ble_eq_true rfl⟩) (fun _ => rfl) hK hP hD hS [0, 1, 2] (by decide) rfl rfl rfl rfl hl.1 rfl (Nat.le_of_ble_eq_true rfl) dX8_set_41 ⟨Nat.zero_le _, Nat.zero_le _⟩ (fun u9v H locs hu hP hD hS => ?_)
        refine W.eq (g2 := F0 mi 44 ls []) rfl ?_
        have hP : va_P D vwCl [(v, .inr (8, [.ref a0, .ref a1, .ref a2, .ref a3, .int (iI (e4)), .ref a5, .int (iI (e6)), .ref a7, .int (iI (e8)), .int (iI (e9)), .int (iI (e10)), .ref a11, .int (iI (e12)), .int (iI (e13)), .int (iI (e14)), .ref a15])), (a0, fA cyI 54 m), (a1, fA cyI 54 m), (a3, fA cyI 216 d)] H := hP
        have hD : va_D (fp_A [(v, .inr (8, [.ref a0, .ref a1, .ref a2, .ref a3, .int (iI (e4)), .ref a5, .int (iI (e6)), .ref a7, .int (iI (e8)), .int (iI (e9)), .int (iI (e10)), .ref a11, .int (iI (e12)), .int (iI (e13)), .int (iI (e14)), .ref a15])), (a0, fA cyI 54 m), (a1, fA cyI 54 kc), (a3, fA cyI 216 d)]) [(v, .inr (8, [.ref a0, .ref a1, .ref a2, .ref a3, .int (iI (e4)), .ref a5, .int (iI (e6)), .ref a7, .int (iI (e8)), .int (iI (e9)), .int (iI (e10)), .ref a11, .int (iI (e12)), .int (iI (e13)), .int (iI (e14)), .ref a15])), (a0, fA cyI 54 m), (a1, fA cyI 54 m), (a3, fA cyI 216 d)] := hD
        refine lv_aload_n hx hb dX8_set_44 rfl (lv_at hl 1 rfl) ?_
        refine va_get (D := D) (ci := 8) (ws := [(v, .inr (8, [.ref a0, .ref a1, .ref a2, .ref a3, .int (iI (e4)), .ref a5, .int (iI (e6)), .ref a7, .int (iI (e8)), .int (iI (e9)), .int (iI (e10)), .ref a11, .int (iI (e12)), .int (iI (e13)), .int (iI (e14)), .ref a15])), (a0, fA cyI 54 m), (a1, fA cyI 54 m), (a3, fA cyI 216 d)]) (v := .ref a0) (C := RX8) (T := TX8) (N := 16) hx hb hts (fun _ h => List.mem_cons_of_mem _ (List.mem_append_right _ h)) hown hK.1 hP 0 rfl rfl 0 (by decide) (hts _ fl_X8_set_7) (fun _ h9 => h9) rfl dX8_set_45 ?_
        refine lv_iload_n hx hb dX8_set_48 rfl (lv_at hl 2 rfl) ?_
        refine lv_iload_n hx hb dX8_set_49 rfl (lv_at hl 3 rfl) ?_
        refine fp_iast (wsC := [(v, .inr (8, [.ref a0, .ref a1, .ref a2, .ref a3, .int (iI (e4)), .ref a5, .int (iI (e6)), .ref a7, .int (iI (e8)), .int (iI (e9)), .int (iI (e10)), .ref a11, .int (iI (e12)), .int (iI (e13)), .int (iI (e14)), .ref a15])), (a0, fA cyI 54 m), (a1, fA cyI 54 m), (a3, fA cyI 216 d)]) hx hb hK hP hD hS 1 rfl (by omega) (by decide) dX8_set_50 (fun H locs hP hD hS => ?_)
        have hP : va_P D vwCl [(v, .inr (8, [.ref a0, .ref a1, .ref a2, .ref a3, .int (iI (e4)), .ref a5, .int (iI (e6)), .ref a7, .int (iI (e8)), .int (iI (e9)), .int (iI (e10)), .ref a11, .int (iI (e12)), .int (iI (e13)), .int (iI (e14)), .ref a15])), (a0, fA cyI 54 (upI (m) (w) (y))), (a1, fA cyI 54 m), (a3, fA cyI 216 d)] H := hP
        have hD : va_D (fp_A [(v, .inr (8, [.ref a0, .ref a1, .ref a2, .ref a3, .int (iI (e4)), .ref a5, .int (iI (e6)), .ref a7, .int (iI (e8)), .int (iI (e9)), .int (iI (e10)), .ref a11, .int (iI (e12)), .int (iI (e13)), .int (iI (e14)), .ref a15])), (a0, fA cyI 54 m), (a1, fA cyI 54 kc), (a3, fA cyI 216 d)]) [(v, .inr (8, [.ref a0, .ref a1, .ref a2, .ref a3, .int (iI (e4)), .ref a5, .int (iI (e6)), .ref a7, .int (iI (e8)), .int (iI (e9)), .int (iI (e10)), .ref a11, .int (iI (e12)), .int (iI (e13)), .int (iI (e14)), .ref a15])), (a0, fA cyI 54 (upI (m) (w) (y))), (a1, fA cyI 54 m), (a3, fA cyI 216 d)] := hD
        refine lv_aload_n hx hb dX8_set_51 rfl (lv_at hl 1 rfl) ?_
        refine lv_iload_n hx hb dX8_set_52 rfl (lv_at hl 0 rfl) ?_
        refine fp_wV (As := [.int (iI (m w))]) (rest := []) (wsC := [(v, .inr (8, [.ref a0, .ref a1, .ref a2, .ref a3, .int (iI (e4)), .ref a5, .int (iI (e6)), .ref a7, .int (iI (e8)), .int (iI (e9)), .int (iI (e10)), .ref a11, .int (iI (e12)), .int (iI (e13)), .int (iI (e14)), .ref a15])), (a0, fA cyI 54 (upI (m) (w) (y))), (a1, fA cyI 54 m), (a3, fA cyI 216 d)]) ⟨hx, hb, hml, hown, hts⟩ (c_X8_acted l D cyI v a0 a1 a2 a3 e4 a5 e6 a7 e8 e9 e10 a11 e12 e13 e14 a15 m d (m w) (by omega)) (cwV 1 hts gX8_set_X8_acted rfl rfl rfl (by decide +kernel) ⟨Nat.le_of_ble_eq_true rfl, Nat.le_of_ble_eq_true rfl⟩) (fun _ => rfl) hK hP hD hS [0, 2, 3] (by decide) rfl rfl rfl rfl hl.1 rfl (Nat.le_of_ble_eq_true rfl) dX8_set_53 ⟨Nat.zero_le _, Nat.zero_le _⟩ (fun u9v H locs hu hP hD hS => ?_)
        refine W.eq (g2 := F0 mi 56 ls [.int (iI ((m w)))]) rfl ?_
        have hP : va_P D vwCl [(v, .inr (8, [.ref a0, .ref a1, .ref a2, .ref a3, .int (iI (recN e4)), .ref a5, .int (iI (e6)), .ref a7, .int (iI (e8)), .int (iI (e9)), .int (iI (e10)), .ref a11, .int (iI (e12)), .int (iI (e13)), .int (iI (e14)), .ref a15])), (a0, fA cyI 54 (upI (m) (w) (y))), (a1, fA cyI 54 m), (a3, fA cyI 216 (recH d m e4))] H := hP
        have hD : va_D (fp_A [(v, .inr (8, [.ref a0, .ref a1, .ref a2, .ref a3, .int (iI (e4)), .ref a5, .int (iI (e6)), .ref a7, .int (iI (e8)), .int (iI (e9)), .int (iI (e10)), .ref a11, .int (iI (e12)), .int (iI (e13)), .int (iI (e14)), .ref a15])), (a0, fA cyI 54 m), (a1, fA cyI 54 kc), (a3, fA cyI 216 d)]) [(v, .inr (8, [.ref a0, .ref a1, .ref a2, .ref a3, .int (iI (recN e4)), .ref a5, .int (iI (e6)), .ref a7, .int (iI (e8)), .int (iI (e9)), .int (iI (e10)), .ref a11, .int (iI (e12)), .int (iI (e13)), .int (iI (e14)), .ref a15])), (a0, fA cyI 54 (upI (m) (w) (y))), (a1, fA cyI 54 m), (a3, fA cyI 216 (recH d m e4))] := hD
        have hsm := Same_se (m := m) (w := w) (v := y) hN.2 (by omega)
        have hR : stR (cM m) w y = (m w) := by unfold stR; repeat (first | rw [if_pos (by omega)] | rw [if_neg (by omega)]); try (first | rfl | omega)
        have hP : va_P D vwCl [(v, .inr (8, [.ref a0, .ref a1, .ref a2, .ref a3, .int (iI (if 0 ≤ stR (cM m) w y then recN e4 else e4)), .ref a5, .int (iI (e6)), .ref a7, .int (iI (e8)), .int (iI (e9)), .int (iI (e10)), .ref a11, .int (iI (e12)), .int (iI (e13)), .int (iI (e14)), .ref a15])), (a0, fA cyI 54 (upI (m) (w) (y))), (a1, fA cyI 54 m), (a3, fA cyI 216 (if 0 ≤ stR (cM m) w y then recH d m e4 else d))] H := by
          rw [(show (recH d m e4 : Int → Int) = if 0 ≤ stR (cM m) w y then recH d m e4 else d from (by first | rw [if_pos (by omega)] | rw [if_neg (by omega)])).symm]
          rw [(show (recN e4 : Int) = if 0 ≤ stR (cM m) w y then recN e4 else e4 from (by first | rw [if_pos (by omega)] | rw [if_neg (by omega)])).symm]
          exact hP
        have hret : (stR (cM m) w y : Int) = (m w) := (by exact hR)
        exact fp_wret (upI (m) (w) (y), m) hx hb hr hlocks hS (by dsimp only; exact hP) (by rw [if_pos (by omega)]; exact hsm) (congrArg (fun z : Int => some (Value.int (iI z))) hret) dX8_set_56
      · skip
        refine fp_bipush hx hb dX8_set_37 (by decide) ?_
        have hR : stR (cM m) w y = (-5) := by unfold stR; repeat (first | rw [if_pos (by omega)] | rw [if_neg (by omega)]); try (first | rfl | omega)
        have hP : va_P D vwCl [(v, .inr (8, [.ref a0, .ref a1, .ref a2, .ref a3, .int (iI (if 0 ≤ stR (cM m) w y then recN e4 else e4)), .ref a5, .int (iI (e6)), .ref a7, .int (iI (e8)), .int (iI (e9)), .int (iI (e10)), .ref a11, .int (iI (e12)), .int (iI (e13)), .int (iI (e14)), .ref a15])), (a0, fA cyI 54 m), (a1, fA cyI 54 kc), (a3, fA cyI 216 (if 0 ≤ stR (cM m) w y then recH d m e4 else d))] sx.heap := by
          rw [(show (d : Int → Int) = if 0 ≤ stR (cM m) w y then recH d m e4 else d from (by first | rw [if_pos (by omega)] | rw [if_neg (by omega)])).symm]
          rw [(show (e4 : Int) = if 0 ≤ stR (cM m) w y then recN e4 else e4 from (by first | rw [if_pos (by omega)] | rw [if_neg (by omega)])).symm]
          exact hP
        have hret : (stR (cM m) w y : Int) = (-5) := (by exact hR)
        exact fp_wret (m, kc) hx hb hr hlocks hS (by dsimp only; exact hP) (by rw [if_neg (by omega)]; exact Same_rf _) (congrArg (fun z : Int => some (Value.int (iI z))) hret) dX8_set_39
    · skip
      have w19 := bI_e q19
      refine fp_bipush hx hb dX8_set_22 (by decide) ?_
      have hR : stR (cM m) w y = (-2) := by unfold stR; repeat (first | rw [if_pos (by omega)] | rw [if_neg (by omega)]); try (first | rfl | omega)
      have hP : va_P D vwCl [(v, .inr (8, [.ref a0, .ref a1, .ref a2, .ref a3, .int (iI (if 0 ≤ stR (cM m) w y then recN e4 else e4)), .ref a5, .int (iI (e6)), .ref a7, .int (iI (e8)), .int (iI (e9)), .int (iI (e10)), .ref a11, .int (iI (e12)), .int (iI (e13)), .int (iI (e14)), .ref a15])), (a0, fA cyI 54 m), (a1, fA cyI 54 kc), (a3, fA cyI 216 (if 0 ≤ stR (cM m) w y then recH d m e4 else d))] sx.heap := by
        rw [(show (d : Int → Int) = if 0 ≤ stR (cM m) w y then recH d m e4 else d from (by first | rw [if_pos (by omega)] | rw [if_neg (by omega)])).symm]
        rw [(show (e4 : Int) = if 0 ≤ stR (cM m) w y then recN e4 else e4 from (by first | rw [if_pos (by omega)] | rw [if_neg (by omega)])).symm]
        exact hP
      have hret : (stR (cM m) w y : Int) = (-2) := (by exact hR)
      exact fp_wret (m, kc) hx hb hr hlocks hS (by dsimp only; exact hP) (by rw [if_neg (by omega)]; exact Same_rf _) (congrArg (fun z : Int => some (Value.int (iI z))) hret) dX8_set_24
  · skip
    have w9 := bI_e q9
    refine fp_iconst hx hb dX8_set_12 ?_
    have hR : stR (cM m) w y = (-1) := by unfold stR; repeat (first | rw [if_pos (by omega)] | rw [if_neg (by omega)]); try (first | rfl | omega)
    have hP : va_P D vwCl [(v, .inr (8, [.ref a0, .ref a1, .ref a2, .ref a3, .int (iI (if 0 ≤ stR (cM m) w y then recN e4 else e4)), .ref a5, .int (iI (e6)), .ref a7, .int (iI (e8)), .int (iI (e9)), .int (iI (e10)), .ref a11, .int (iI (e12)), .int (iI (e13)), .int (iI (e14)), .ref a15])), (a0, fA cyI 54 m), (a1, fA cyI 54 kc), (a3, fA cyI 216 (if 0 ≤ stR (cM m) w y then recH d m e4 else d))] sx.heap := by
      rw [(show (d : Int → Int) = if 0 ≤ stR (cM m) w y then recH d m e4 else d from (by first | rw [if_pos (by omega)] | rw [if_neg (by omega)])).symm]
      rw [(show (e4 : Int) = if 0 ≤ stR (cM m) w y then recN e4 else e4 from (by first | rw [if_pos (by omega)] | rw [if_neg (by omega)])).symm]
      exact hP
    have hret : (stR (cM m) w y : Int) = (-1) := (by exact hR)
    exact fp_wret (m, kc) hx hb hr hlocks hS (by dsimp only; exact hP) (by rw [if_neg (by omega)]; exact Same_rf _) (congrArg (fun z : Int => some (Value.int (iI z))) hret) dX8_set_13
