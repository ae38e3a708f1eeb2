/-! the reference's reader -/
def rdM (x : Int → Int) (n i r : Int) (y : Int → Int) : Int → Int := if rK x n i = 0 ∨ 12 ≤ r then y else upI (upI (upI (upI y (4 * r) (rT x n i)) (4 * r + 1) (rP x n i)) (4 * r + 2) (rB x n i)) (4 * r + 3) (rV x n i)
def flM (x : Int → Int) (n : Int) : Nat → Int → Int → (Int → Int) → Int → Int
  | 0, _, _, y => y
  | m + 1, i, r, y => if rK x n i = 0 then y else if rE x n i = n then rdM x n i r y else if chI x n (rE x n i) = 44 then flM x n m (rE x n i + 1) (r + 1) (rdM x n i r y) else rdM x n i r y
/-- the lots read, told as a catalogue and as a row of numbers -/
def RdR (c y : Int → Int) (r : Int) : Prop := (0 ≤ r ∧ c 0 = min r 12) ∧ ∀ k : Int, 0 ≤ k → k < c 0 → c (k * 4 + 1) = y (4 * k) ∧ c (k * 4 + 2) = y (4 * k + 1) ∧ c (k * 4 + 3) = y (4 * k + 2) ∧ c (k * 4 + 4) = y (4 * k + 3)
theorem RdR_s {x : Int → Int} {n i r : Int} {c y : Int → Int} (h : RdR c y r) (hk : rK x n i = 1) : RdR (rL x n i c) (rdM x n i r y) (r + 1) := by
  have h0 := h.1
  unfold rL rdM
  rw [if_neg (by omega)]
  unfold appL
  by_cases q : 12 ≤ r
  · rw [if_pos (Or.inr q), if_neg (by omega)]
    exact ⟨⟨by omega, by omega⟩, h.2⟩
  · rw [if_neg (c := rK x n i = 0 ∨ 12 ≤ r) (by omega), if_pos (by omega)]
    have ec : c 0 = r := by omega
    refine ⟨⟨by omega, by rw [upI_s rfl]; omega⟩, fun k a b => ?_⟩
    rw [upI_s rfl] at b
    have hu : ∀ j : Int, 1 ≤ j → upI (putL c (c 0) (rT x n i) (rP x n i) (rB x n i) (rV x n i)) 0 (c 0 + 1) j = putL c (c 0) (rT x n i) (rP x n i) (rB x n i) (rV x n i) j := fun j a => upI_n (by omega)
    rw [hu _ (by omega), hu _ (by omega), hu _ (by omega), hu _ (by omega)]
    by_cases e : k = c 0
    · rw [e, put_at.1, put_at.2.1, put_at.2.2.1, put_at.2.2.2, ec]
      refine ⟨?_, ?_, ?_, ?_⟩
      · rw [upI_n (by omega), upI_n (by omega), upI_n (by omega), upI_s rfl]
      · rw [upI_n (by omega), upI_n (by omega), upI_s rfl]
      · rw [upI_n (by omega), upI_s rfl]
      · rw [upI_s rfl]
    · have h1 := h.2 k a (by omega)
      rw [put_n (j := k * 4 + 1) (by omega), put_n (j := k * 4 + 2) (by omega), put_n (j := k * 4 + 3) (by omega), put_n (j := k * 4 + 4) (by omega)]
      refine ⟨?_, ?_, ?_, ?_⟩
      · rw [upI_n (by omega), upI_n (by omega), upI_n (by omega), upI_n (by omega)]; exact h1.1
      · rw [upI_n (by omega), upI_n (by omega), upI_n (by omega), upI_n (by omega)]; exact h1.2.1
      · rw [upI_n (by omega), upI_n (by omega), upI_n (by omega), upI_n (by omega)]; exact h1.2.2.1
      · rw [upI_n (by omega), upI_n (by omega), upI_n (by omega), upI_n (by omega)]; exact h1.2.2.2
theorem RdR_f {x : Int → Int} {n : Int} : ∀ (m : Nat) (i r : Int) (c y : Int → Int), RdR c y r → RdR (flC x n m i c) (flM x n m i r y) (flK x n m i r) := by
  intro m
  induction m with
  | zero => intro i r c y h; exact h
  | succ m ih =>
    intro i r c y h
    show RdR (if rK x n i = 0 then c else if rE x n i = n then rL x n i c else if chI x n (rE x n i) = 44 then flC x n m (rE x n i + 1) (rL x n i c) else rL x n i c)
      (if rK x n i = 0 then y else if rE x n i = n then rdM x n i r y else if chI x n (rE x n i) = 44 then flM x n m (rE x n i + 1) (r + 1) (rdM x n i r y) else rdM x n i r y)
      (if rK x n i = 0 then r else if rE x n i = n then r + 1 else if chI x n (rE x n i) = 44 then flK x n m (rE x n i + 1) (r + 1) else r + 1)
    have h01 : rK x n i = 0 ∨ rK x n i = 1 := bI_01 _
    by_cases q : rK x n i = 0
    · rw [if_pos q, if_pos q, if_pos q]; exact h
    · rw [if_neg q, if_neg q, if_neg q]
      have h1 := RdR_s (x := x) (n := n) (i := i) h (by omega)
      by_cases s : rE x n i = n
      · rw [if_pos s, if_pos s, if_pos s]; exact h1
      · rw [if_neg s, if_neg s, if_neg s]
        by_cases t : chI x n (rE x n i) = 44
        · rw [if_pos t, if_pos t, if_pos t]; exact ih _ _ _ _ h1
        · rw [if_neg t, if_neg t, if_neg t]; exact h1
theorem RdR_0 (c y : Int → Int) : RdR (upI c 0 0) y 0 := ⟨⟨by omega, by rw [upI_s rfl]; rfl⟩, fun k a b => by rw [upI_s rfl] at b; omega⟩
def RowsL (g y : Int → Int) (k : Int) : Prop := ∀ j : Int, 0 ≤ j → j < k → cM g (j * 4 + 1) = y (4 * j) ∧ cM g (j * 4 + 2) = y (4 * j + 1) ∧ cM g (j * 4 + 3) = y (4 * j + 2) ∧ cM g (j * 4 + 4) = y (4 * j + 3)
theorem RowsL_s {g y : Int → Int} {k r t p b q : Int} (hk : 0 ≤ k ∧ k < 12) (hr : r ≤ 12) (h : RowsL g y (min k r)) (h1 : k < r → t = y (4 * k) ∧ p = y (4 * k + 1) ∧ b = y (4 * k + 2) ∧ q = y (4 * k + 3)) : RowsL (puM g k t p b q) y (min (k + 1) r) := by
  intro j a b'
  rw [pu_row hk (by omega) (Or.inl rfl), pu_row hk (by omega) (Or.inr (Or.inl rfl)), pu_row hk (by omega) (Or.inr (Or.inr (Or.inl rfl))), pu_row hk (by omega) (Or.inr (Or.inr (Or.inr rfl)))]
  by_cases e : j = k
  · subst e
    rw [if_pos rfl, if_pos rfl, if_pos rfl, if_pos rfl, if_pos rfl, if_neg (by omega), if_pos rfl, if_neg (by omega), if_neg (by omega), if_pos rfl, if_neg (by omega), if_neg (by omega), if_neg (by omega)]
    exact h1 (by omega)
  · rw [if_neg e, if_neg e, if_neg e, if_neg e]
    exact h j a (by omega)
theorem Same_ldM {m g y c : Int → Int} {r : Int} (hr : 0 ≤ r ∧ r ≤ 12) (hR : RdR c y r) (h : RowsL g y r) (hs : SetsM m g) : Same (cpI (cM m) c 0 0 49) (cM (upI g 5 r)) := by
  have e0 : cpI (cM m) c 0 0 49 0 = r := by
    rw [cp_lo (by omega)]
    have := hR.1
    omega
  have ec : c 0 = r := by
    have := hR.1
    omega
  refine Same_of (by rw [e0, upI_s rfl]) (by rw [e0]; omega) (fun j o a1 a2 a3 => ?_) (fun j a1 a2 => ?_)
  · rw [e0] at a2
    rw [cp_lo (by omega), up_row (by omega) a3 (by omega)]
    have h1 := hR.2 j a1 (by omega)
    have h2 := h j a1 a2
    rcases a3 with rfl | rfl | rfl | rfl
    · rw [h1.1, h2.1]
    · rw [h1.2.1, h2.2.1]
    · rw [h1.2.2.1, h2.2.2.1]
    · rw [h1.2.2.2, h2.2.2.2]
  · rw [cp_hi (by omega), cM_s ⟨a1, a2⟩, upI_n (by omega), hs j a1 a2]
theorem fl_X8_isHere_190 : Cond.fieldLink RX8 190 "FacingPlatesModel" "spot" "I" ∈ wsX8_isHere := by decide +kernel
theorem fl_X8_isHere_187 : Cond.fieldLink RX8 187 "FacingPlatesModel" "textLong" "I" ∈ wsX8_isHere := by decide +kernel
theorem fl_X8_isHere_28 : Cond.fieldLink RX8 28 "FacingPlatesModel" "text" "[I" ∈ wsX8_isHere := by decide +kernel
set_option maxHeartbeats 4000000 in
set_option maxRecDepth 100000 in
theorem c_X8_isHere (l : Launch) (D : va_G) (cyI : ClassId) (v : Nat) (a0 : Nat) (a1 : Nat) (a2 : Nat) (a3 : Nat) (e4 : Int) (a5 : Nat) (e6 : Int) (a7 : Nat) (e8 : Int) (e9 : Int) (e10 : Int) (a11 : Nat) (e12 : Int) (e13 : Int) (e14 : Int) (a15 : Nat) (x : Int → Int) (lo : Int) (hi : Int) (hx0 : TextOK x) (hn60 : 0 ≤ e12 ∧ e12 ≤ 60) (hai : 0 ≤ e13 ∧ e13 ≤ 1000) (hlo : 0 ≤ lo ∧ lo ≤ 65535) (hhi : 0 ≤ hi ∧ hi ≤ 65535) : fp_M l yX8_isHere wsX8_isHere ({ frames := 1, cells := 0, slots := 0, locals := 25 } : Room) D cyI [(v, .inr (8, [.ref a0, .ref a1, .ref a2, .ref a3, .int (iI (e4)), .ref a5, .int (iI (e6)), .ref a7, .int (iI (e8)), .int (iI (e9)), .int (iI (e10)), .ref a11, .int (iI (e12)), .int (iI (e13)), .int (iI (e14)), .ref a15])), (a11, fA cyI 60 x)] [.ref v, .int (iI (lo)), .int (iI (hi))] (some (.int (iI (bI (lo ≤ chI x e12 e13 ∧ chI x e12 e13 ≤ hi))))) := by
  refine fp_start (cc := cX8_isHere) (maxL := 3) (ret := (some .boolean)) (by decide) rfl (Nat.le_of_ble_eq_true rfl) ?_
  intro pg en sx mi ar bl mt cd ls hx hb hr hts hown hlocks hml hnm hP hK hD hl
  have hown : sx.vm.findClass RX8 = some mi.cls := hown
  have hl : lv_has ls 3 [(0, .ref v), (1, .int (iI (lo))), (2, .int (iI (hi)))] := hl
  have hch := hx0 e13
  refine lv_aload_n hx hb dX8_isHere_0 rfl (lv_at hl 0 rfl) ?_
  refine va_get (D := D) (ci := 8) (ws := [(v, .inr (8, [.ref a0, .ref a1, .ref a2, .ref a3, .int (iI (e4)), .ref a5, .int (iI (e6)), .ref a7, .int (iI (e8)), .int (iI (e9)), .int (iI (e10)), .ref a11, .int (iI (e12)), .int (iI (e13)), .int (iI (e14)), .ref a15])), (a11, fA cyI 60 x)]) (v := .int (iI (e13))) (C := RX8) (T := TX8) (N := 16) hx hb hts (fun _ h => List.mem_cons_of_mem _ (List.mem_append_right _ h)) hown hK.1 hP 0 rfl rfl 13 (by decide) (hts _ fl_X8_isHere_190) (fun _ h9 => h9) rfl dX8_isHere_1 ?_
  refine lv_aload_n hx hb dX8_isHere_4 rfl (lv_at hl 0 rfl) ?_
  refine va_get (D := D) (ci := 8) (ws := [(v, .inr (8, [.ref a0, .ref a1, .ref a2, .ref a3, .int (iI (e4)), .ref a5, .int (iI (e6)), .ref a7, .int (iI (e8)), .int (iI (e9)), .int (iI (e10)), .ref a11, .int (iI (e12)), .int (iI (e13)), .int (iI (e14)), .ref a15])), (a11, fA cyI 60 x)]) (v := .int (iI (e12))) (C := RX8) (T := TX8) (N := 16) hx hb hts (fun _ h => List.mem_cons_of_mem _ (List.mem_append_right _ h)) hown hK.1 hP 0 rfl rfl 12 (by decide) (hts _ fl_X8_isHere_187) (fun _ h9 => h9) rfl dX8_isHere_5 ?_
  refine fp_icmp_ge (tgt := 35) hx hb (by omega) dX8_isHere_8 (by decide) (fun q8 => ?_) (fun q8 => ?_)
  · skip
    have ec : chI x e12 e13 = -1 := if_neg (by omega)
    refine fp_iconst hx hb dX8_isHere_35 ?_
    have hret : (bI (lo ≤ chI x e12 e13 ∧ chI x e12 e13 ≤ hi) : Int) = 0 := (by first | rw [bI_t (by omega)] | rw [bI_f (by omega)])
    exact fp_zret hx hb hr hlocks (by first | exact Or.inl rfl | exact Or.inr rfl | exact bI_01 _ | omega) dX8_isHere_36 (congrArg (fun z : Int => Value.int (iI z)) hret)
  · skip
    have ec : chI x e12 e13 = x e13 := if_pos (by omega)
    refine lv_aload_n hx hb dX8_isHere_11 rfl (lv_at hl 0 rfl) ?_
    refine va_get (D := D) (ci := 8) (ws := [(v, .inr (8, [.ref a0, .ref a1, .ref a2, .ref a3, .int (iI (e4)), .ref a5, .int (iI (e6)), .ref a7, .int (iI (e8)), .int (iI (e9)), .int (iI (e10)), .ref a11, .int (iI (e12)), .int (iI (e13)), .int (iI (e14)), .ref a15])), (a11, fA cyI 60 x)]) (v := .ref a11) (C := RX8) (T := TX8) (N := 16) hx hb hts (fun _ h => List.mem_cons_of_mem _ (List.mem_append_right _ h)) hown hK.1 hP 0 rfl rfl 11 (by decide) (hts _ fl_X8_isHere_28) (fun _ h9 => h9) rfl dX8_isHere_12 ?_
    refine lv_aload_n hx hb dX8_isHere_15 rfl (lv_at hl 0 rfl) ?_
    refine va_get (D := D) (ci := 8) (ws := [(v, .inr (8, [.ref a0, .ref a1, .ref a2, .ref a3, .int (iI (e4)), .ref a5, .int (iI (e6)), .ref a7, .int (iI (e8)), .int (iI (e9)), .int (iI (e10)), .ref a11, .int (iI (e12)), .int (iI (e13)), .int (iI (e14)), .ref a15])), (a11, fA cyI 60 x)]) (v := .int (iI (e13))) (C := RX8) (T := TX8) (N := 16) hx hb hts (fun _ h => List.mem_cons_of_mem _ (List.mem_append_right _ h)) hown hK.1 hP 0 rfl rfl 13 (by decide) (hts _ fl_X8_isHere_190) (fun _ h9 => h9) rfl dX8_isHere_16 ?_
    refine fp_iald (wsC := [(v, .inr (8, [.ref a0, .ref a1, .ref a2, .ref a3, .int (iI (e4)), .ref a5, .int (iI (e6)), .ref a7, .int (iI (e8)), .int (iI (e9)), .int (iI (e10)), .ref a11, .int (iI (e12)), .int (iI (e13)), .int (iI (e14)), .ref a15])), (a11, fA cyI 60 x)]) hx hb hK hP 1 rfl (by omega) (by decide) dX8_isHere_19 ?_
    refine fp_i2l hx hb (by omega) dX8_isHere_20 ?_
    refine lv_iload_n hx hb dX8_isHere_21 rfl (lv_at hl 1 rfl) ?_
    refine fp_i2l hx hb (by omega) dX8_isHere_22 ?_
    refine lv_iload_n hx hb dX8_isHere_23 rfl (lv_at hl 2 rfl) ?_
    refine fp_i2l hx hb (by omega) dX8_isHere_24 ?_
    refine fp_pS (As := [.long (lI (x e13)), .long (lI (lo)), .long (lI (hi))]) (rest := []) (wsC := [(v, .inr (8, [.ref a0, .ref a1, .ref a2, .ref a3, .int (iI (e4)), .ref a5, .int (iI (e6)), .ref a7, .int (iI (e8)), .int (iI (e9)), .int (iI (e10)), .ref a11, .int (iI (e12)), .int (iI (e13)), .int (iI (e14)), .ref a15])), (a11, fA cyI 60 x)]) ⟨hx, hb, hml, hown, hts⟩ (c_X8_in l D cyI (x e13) lo hi (by omega)) (va_cwS 3 hts gX8_isHere_X8_in rfl rfl rfl (by decide +kernel) ⟨Nat.le_of_ble_eq_true rfl, Nat.le_of_ble_eq_true rfl⟩) hK hP hD [] (by decide) rfl rfl hl.1 rfl (Nat.le_of_ble_eq_true rfl) dX8_isHere_25 ⟨Nat.zero_le _, Nat.zero_le _⟩ ?_
    refine fp_if_eq (tgt := 35) hx hb (bI_r32 _) dX8_isHere_28 (by decide) (fun q28 => ?_) (fun q28 => ?_)
    · skip
      have w28 := bI_e q28
      refine fp_iconst hx hb dX8_isHere_35 ?_
      have hret : (bI (lo ≤ chI x e12 e13 ∧ chI x e12 e13 ≤ hi) : Int) = 0 := (by first | rw [bI_t (by omega)] | rw [bI_f (by omega)])
      exact fp_zret hx hb hr hlocks (by first | exact Or.inl rfl | exact Or.inr rfl | exact bI_01 _ | omega) dX8_isHere_36 (congrArg (fun z : Int => Value.int (iI z)) hret)
    · skip
      have w28 := bI_ne q28
      refine fp_iconst hx hb dX8_isHere_31 ?_
      refine lv_goto (tgt := 36) hx hb dX8_isHere_32 (by decide) ?_
      have hret : (bI (lo ≤ chI x e12 e13 ∧ chI x e12 e13 ≤ hi) : Int) = 1 := (by first | rw [bI_t (by omega)] | rw [bI_f (by omega)])
      exact fp_zret hx hb hr hlocks (by first | exact Or.inl rfl | exact Or.inr rfl | exact bI_01 _ | omega) dX8_isHere_36 (congrArg (fun z : Int => Value.int (iI z)) hret)
theorem fl_X8_takes_190 : Cond.fieldLink RX8 190 "FacingPlatesModel" "spot" "I" ∈ wsX8_takes := by decide +kernel
set_option maxHeartbeats 4000000 in
set_option maxRecDepth 100000 in
theorem c_X8_takes (l : Launch) (D : va_G) (cyI : ClassId) (v : Nat) (a0 : Nat) (a1 : Nat) (a2 : Nat) (a3 : Nat) (e4 : Int) (a5 : Nat) (e6 : Int) (a7 : Nat) (e8 : Int) (e9 : Int) (e10 : Int) (a11 : Nat) (e12 : Int) (e13 : Int) (e14 : Int) (a15 : Nat) (x : Int → Int) (z : Int) (hx0 : TextOK x) (hn60 : 0 ≤ e12 ∧ e12 ≤ 60) (hai : 0 ≤ e13 ∧ e13 ≤ 1000) (hz9 : 0 ≤ z ∧ z ≤ 65535) : fp_MW l yX8_takes wsX8_takes ({ frames := 2, cells := 0, slots := 0, locals := 47 } : Room) D cyI [(v, .inr (8, [.ref a0, .ref a1, .ref a2, .ref a3, .int (iI (e4)), .ref a5, .int (iI (e6)), .ref a7, .int (iI (e8)), .int (iI (e9)), .int (iI (e10)), .ref a11, .int (iI (e12)), .int (iI (e13)), .int (iI (e14)), .ref a15])), (a11, fA cyI 60 x)] [.ref v, .int (iI (z))] (fun (u9 : Unit) => True) (fun (u9 : Unit) => some (.int (iI (bI (chI x e12 e13 = z))))) (fun (u9 : Unit) => [(v, .inr (8, [.ref a0, .ref a1, .ref a2, .ref a3, .int (iI (e4)), .ref a5, .int (iI (e6)), .ref a7, .int (iI (e8)), .int (iI (e9)), .int (iI (e10)), .ref a11, .int (iI (e12)), .int (iI (e13 + bI (chI x e12 e13 = z))), .int (iI (e14)), .ref a15])), (a11, fA cyI 60 x)]) := by
  refine fp_start (cc := cX8_takes) (maxL := 3) (ret := (some .boolean)) (by decide) rfl (Nat.le_of_ble_eq_true rfl) ?_
  intro pg en sx mi ar bl mt cd ls hx hb hr hts hown hlocks hml hnm hP hK hD hl
  have hown : sx.vm.findClass RX8 = some mi.cls := hown
  have hl : lv_has ls 3 [(0, .ref v), (1, .int (iI (z)))] := hl
  have hD := fp_self hD
  have hS : va_S (fp_A [(v, .inr (8, [.ref a0, .ref a1, .ref a2, .ref a3, .int (iI (e4)), .ref a5, .int (iI (e6)), .ref a7, .int (iI (e8)), .int (iI (e9)), .int (iI (e10)), .ref a11, .int (iI (e12)), .int (iI (e13)), .int (iI (e14)), .ref a15])), (a11, fA cyI 60 x)]) sx.heap sx.heap [] := va_S.rf
  refine lv_aload_n hx hb dX8_takes_0 rfl (lv_at hl 0 rfl) ?_
  refine lv_iload_n hx hb dX8_takes_1 rfl (lv_at hl 1 rfl) ?_
  refine lv_iload_n hx hb dX8_takes_2 rfl (lv_at hl 1 rfl) ?_
  refine fp_pV (As := [.int (iI (z)), .int (iI (z))]) (rest := []) (wsC := [(v, .inr (8, [.ref a0, .ref a1, .ref a2, .ref a3, .int (iI (e4)), .ref a5, .int (iI (e6)), .ref a7, .int (iI (e8)), .int (iI (e9)), .int (iI (e10)), .ref a11, .int (iI (e12)), .int (iI (e13)), .int (iI (e14)), .ref a15])), (a11, fA cyI 60 x)]) ⟨hx, hb, hml, hown, hts⟩ (c_X8_isHere l D cyI v a0 a1 a2 a3 e4 a5 e6 a7 e8 e9 e10 a11 e12 e13 e14 a15 x z z hx0 (by omega) (by omega) (by omega) (by omega)) (cwV 2 hts gX8_takes_X8_isHere rfl rfl rfl (by decide +kernel) ⟨Nat.le_of_ble_eq_true rfl, Nat.le_of_ble_eq_true rfl⟩) hK hP hD [0, 1] (by decide) rfl rfl rfl rfl hl.1 rfl (Nat.le_of_ble_eq_true rfl) dX8_takes_3 ⟨Nat.zero_le _, Nat.zero_le _⟩ ?_
  rw [show (bI (z ≤ chI x e12 e13 ∧ chI x e12 e13 ≤ z) : Int) = bI (chI x e12 e13 = z) from (bI_c (by omega))]
  refine lv_istore_n (lv' := [(2, .int (iI (bI (chI x e12 e13 = z)))), (0, .ref v), (1, .int (iI (z)))]) hx hb dX8_takes_6 rfl hl (by decide) rfl (fun ls hl => ?_)
  have h01 := bI_01 (chI x e12 e13 = z)
  refine lv_aload_n hx hb dX8_takes_7 rfl (lv_at hl 1 rfl) ?_
  refine lv_dup hx hb dX8_takes_8 rfl ?_
  refine va_get (D := D) (ci := 8) (ws := [(v, .inr (8, [.ref a0, .ref a1, .ref a2, .ref a3, .int (iI (e4)), .ref a5, .int (iI (e6)), .ref a7, .int (iI (e8)), .int (iI (e9)), .int (iI (e10)), .ref a11, .int (iI (e12)), .int (iI (e13)), .int (iI (e14)), .ref a15])), (a11, fA cyI 60 x)]) (v := .int (iI (e13))) (C := RX8) (T := TX8) (N := 16) hx hb hts (fun _ h => List.mem_cons_of_mem _ (List.mem_append_right _ h)) hown hK.1 hP 0 rfl rfl 13 (by decide) (hts _ fl_X8_takes_190) (fun _ h9 => h9) rfl dX8_takes_9 ?_
  have jn0 : ∀ (ad : Int), (ad = bI (chI x e12 e13 = z)) → ∀ (H : Heap) (locs : List Loc), va_P D vwCl [(v, .inr (8, [.ref a0, .ref a1, .ref a2, .ref a3, .int (iI (e4)), .ref a5, .int (iI (e6)), .ref a7, .int (iI (e8)), .int (iI (e9)), .int (iI (e10)), .ref a11, .int (iI (e12)), .int (iI (e13)), .int (iI (e14)), .ref a15])), (a11, fA cyI 60 x)] H → va_D (fp_A [(v, .inr (8, [.ref a0, .ref a1, .ref a2, .ref a3, .int (iI (e4)), .ref a5, .int (iI (e6)), .ref a7, .int (iI (e8)), .int (iI (e9)), .int (iI (e10)), .ref a11, .int (iI (e12)), .int (iI (e13)), .int (iI (e14)), .ref a15])), (a11, fA cyI 60 x)]) [(v, .inr (8, [.ref a0, .ref a1, .ref a2, .ref a3, .int (iI (e4)), .ref a5, .int (iI (e6)), .ref a7, .int (iI (e8)), .int (iI (e9)), .int (iI (e10)), .ref a11, .int (iI (e12)), .int (iI (e13)), .int (iI (e14)), .ref a15])), (a11, fA cyI 60 x)] → va_S (fp_A [(v, .inr (8, [.ref a0, .ref a1, .ref a2, .ref a3, .int (iI (e4)), .ref a5, .int (iI (e6)), .ref a7, .int (iI (e8)), .int (iI (e9)), .int (iI (e10)), .ref a11, .int (iI (e12)), .int (iI (e13)), .int (iI (e14)), .ref a15])), (a11, fA cyI 60 x)]) sx.heap H locs → ∀ (ls : Array Slot), lv_has ls 3 [(0, .ref v), (1, .int (iI (z))), (2, .int (iI (bI (chI x e12 e13 = z))))] → W pg l en ({ frames := 2, cells := 0, slots := 0, locals := 47 } : Room) sx mi ar bl mt cd H locs 0 0 (MQ bl (fp_Qw D [(v, .inr (8, [.ref a0, .ref a1, .ref a2, .ref a3, .int (iI (e4)), .ref a5, .int (iI (e6)), .ref a7, .int (iI (e8)), .int (iI (e9)), .int (iI (e10)), .ref a11, .int (iI (e12)), .int (iI (e13)), .int (iI (e14)), .ref a15])), (a11, fA cyI 60 x)] (fun (u9 : Unit) => True) (fun (u9 : Unit) => some (.int (iI (bI (chI x e12 e13 = z))))) (fun (u9 : Unit) => [(v, .inr (8, [.ref a0, .ref a1, .ref a2, .ref a3, .int (iI (e4)), .ref a5, .int (iI (e6)), .ref a7, .int (iI (e8)), .int (iI (e9)), .int (iI (e10)), .ref a11, .int (iI (e12)), .int (iI (e13 + bI (chI x e12 e13 = z))), .int (iI (e14)), .ref a15])), (a11, fA cyI 60 x)])) ar sx 0 0 (fp_A [(v, .inr (8, [.ref a0, .ref a1, .ref a2, .ref a3, .int (iI (e4)), .ref a5, .int (iI (e6)), .ref a7, .int (iI (e8)), .int (iI (e9)), .int (iI (e10)), .ref a11, .int (iI (e12)), .int (iI (e13)), .int (iI (e14)), .ref a15])), (a11, fA cyI 60 x)])) (F0 mi 21 ls [.int (iI (ad)), .int (iI (e13)), .ref v]) := by
    intro ad jad H locs hP hD hS ls hl
    rw [show (ad : Int) = bI (chI x e12 e13 = z) from jad]
    refine fp_iadd hx hb dX8_takes_21 ?_
    refine va_put (D := D) (ci := 8) (ws := [(v, .inr (8, [.ref a0, .ref a1, .ref a2, .ref a3, .int (iI (e4)), .ref a5, .int (iI (e6)), .ref a7, .int (iI (e8)), .int (iI (e9)), .int (iI (e10)), .ref a11, .int (iI (e12)), .int (iI (e13)), .int (iI (e14)), .ref a15])), (a11, fA cyI 60 x)]) (v := .int (iI (e13 + (bI (chI x e12 e13 = z))))) (ty := .int) (C := RX8) (T := TX8) (N := 16) hx hb hts (fun _ h => List.mem_cons_of_mem _ (List.mem_append_right _ h)) tyX8 tyX8_ok nmX8 hown hK.1 hP hD hS 0 rfl rfl 13 (by decide) (hts _ fl_X8_takes_190) (fun _ h9 => h9) rfl (by decide +kernel) rfl rfl (Nat.le_of_ble_eq_true rfl) dX8_takes_22 (fun H locs hP hD hS => ?_)
    have hP : va_P D vwCl [(v, .inr (8, [.ref a0, .ref a1, .ref a2, .ref a3, .int (iI (e4)), .ref a5, .int (iI (e6)), .ref a7, .int (iI (e8)), .int (iI (e9)), .int (iI (e10)), .ref a11, .int (iI (e12)), .int (iI (e13 + (bI (chI x e12 e13 = z)))), .int (iI (e14)), .ref a15])), (a11, fA cyI 60 x)] H := hP
    have hD : va_D (fp_A [(v, .inr (8, [.ref a0, .ref a1, .ref a2, .ref a3, .int (iI (e4)), .ref a5, .int (iI (e6)), .ref a7, .int (iI (e8)), .int (iI (e9)), .int (iI (e10)), .ref a11, .int (iI (e12)), .int (iI (e13)), .int (iI (e14)), .ref a15])), (a11, fA cyI 60 x)]) [(v, .inr (8, [.ref a0, .ref a1, .ref a2, .ref a3, .int (iI (e4)), .ref a5, .int (iI (e6)), .ref a7, .int (iI (e8)), .int (iI (e9)), .int (iI (e10)), .ref a11, .int (iI (e12)), .int (iI (e13 + (bI (chI x e12 e13 = z)))), .int (iI (e14)), .ref a15])), (a11, fA cyI 60 x)] := hD
    refine lv_iload_n hx hb dX8_takes_25 rfl (lv_at hl 2 rfl) ?_
    have hP : va_P D vwCl [(v, .inr (8, [.ref a0, .ref a1, .ref a2, .ref a3, .int (iI (e4)), .ref a5, .int (iI (e6)), .ref a7, .int (iI (e8)), .int (iI (e9)), .int (iI (e10)), .ref a11, .int (iI (e12)), .int (iI (e13 + bI (chI x e12 e13 = z))), .int (iI (e14)), .ref a15])), (a11, fA cyI 60 x)] H := by
      rw [(show (e13 + (bI (chI x e12 e13 = z)) : Int) = e13 + bI (chI x e12 e13 = z) from (by first | rfl | omega)).symm]
      exact hP
    have hret : (bI (chI x e12 e13 = z) : Int) = bI (chI x e12 e13 = z) := rfl
    exact fp_wzret () hx hb hr hlocks (by first | exact Or.inl rfl | exact Or.inr rfl | exact bI_01 _ | omega) hS hP trivial (congrArg (fun z : Int => some (Value.int (iI z))) hret) dX8_takes_26
  refine lv_iload_n hx hb dX8_takes_12 rfl (lv_at hl 0 rfl) ?_
  refine fp_if_eq (tgt := 20) hx hb (bI_r32 _) dX8_takes_13 (by decide) (fun q13 => ?_) (fun q13 => ?_)
  · skip
    have w13 := bI_e q13
    refine fp_iconst hx hb dX8_takes_20 ?_
    exact jn0 0 (by omega) sx.heap [] hP hD hS ls (lv_sub hl [1, 2, 0] rfl)
  · skip
    have w13 := bI_ne q13
    refine fp_iconst hx hb dX8_takes_16 ?_
    refine lv_goto (tgt := 21) hx hb dX8_takes_17 (by decide) ?_
    exact jn0 1 (by omega) sx.heap [] hP hD hS ls (lv_sub hl [1, 2, 0] rfl)
theorem fl_X8_readsLot_28 : Cond.fieldLink RX8 28 "FacingPlatesModel" "text" "[I" ∈ wsX8_readsLot := by decide +kernel
theorem fl_X8_readsLot_190 : Cond.fieldLink RX8 190 "FacingPlatesModel" "spot" "I" ∈ wsX8_readsLot := by decide +kernel
theorem fl_X8_readsLot_199 : Cond.fieldLink RX8 199 "FacingPlatesModel" "readLots" "I" ∈ wsX8_readsLot := by decide +kernel
theorem fl_X8_readsLot_31 : Cond.fieldLink RX8 31 "FacingPlatesModel" "read" "[I" ∈ wsX8_readsLot := by decide +kernel
set_option maxHeartbeats 4000000 in
set_option maxRecDepth 100000 in
theorem c_X8_readsLot (l : Launch) (D : va_G) (cyI : ClassId) (v : Nat) (a0 : Nat) (a1 : Nat) (a2 : Nat) (a3 : Nat) (e4 : Int) (a5 : Nat) (e6 : Int) (a7 : Nat) (e8 : Int) (e9 : Int) (e10 : Int) (a11 : Nat) (e12 : Int) (e13 : Int) (e14 : Int) (a15 : Nat) (x : Int → Int) (y : Int → Int) (hx0 : TextOK x) (hn60 : 0 ≤ e12 ∧ e12 ≤ 60) (hai : 0 ≤ e13 ∧ e13 ≤ 1000) (he14 : 0 ≤ e14 ∧ e14 ≤ 1000) : fp_MW l yX8_readsLot wsX8_readsLot ({ frames := 3, cells := 0, slots := 0, locals := 69 } : Room) D cyI [(v, .inr (8, [.ref a0, .ref a1, .ref a2, .ref a3, .int (iI (e4)), .ref a5, .int (iI (e6)), .ref a7, .int (iI (e8)), .int (iI (e9)), .int (iI (e10)), .ref a11, .int (iI (e12)), .int (iI (e13)), .int (iI (e14)), .ref a15])), (a11, fA cyI 60 x), (a15, fA cyI 48 y)] [.ref v] (fun (u9 : Unit) => True) (fun (u9 : Unit) => some (.int (iI (rK x e12 e13)))) (fun (u9 : Unit) => [(v, .inr (8, [.ref a0, .ref a1, .ref a2, .ref a3, .int (iI (e4)), .ref a5, .int (iI (e6)), .ref a7, .int (iI (e8)), .int (iI (e9)), .int (iI (e10)), .ref a11, .int (iI (e12)), .int (iI (if rK x e12 e13 = 0 then rF x e12 e13 else rE x e12 e13)), .int (iI (e14 + rK x e12 e13)), .ref a15])), (a11, fA cyI 60 x), (a15, fA cyI 48 (rdM x e12 e13 e14 y))]) := by
  refine fp_start (cc := cX8_readsLot) (maxL := 5) (ret := (some .boolean)) (by decide) rfl (Nat.le_of_ble_eq_true rfl) ?_
  intro pg en sx mi ar bl mt cd ls hx hb hr hts hown hlocks hml hnm hP hK hD hl
  have hown : sx.vm.findClass RX8 = some mi.cls := hown
  have hl : lv_has ls 5 [(0, .ref v)] := hl
  have hD := fp_self hD
  have hS : va_S (fp_A [(v, .inr (8, [.ref a0, .ref a1, .ref a2, .ref a3, .int (iI (e4)), .ref a5, .int (iI (e6)), .ref a7, .int (iI (e8)), .int (iI (e9)), .int (iI (e10)), .ref a11, .int (iI (e12)), .int (iI (e13)), .int (iI (e14)), .ref a15])), (a11, fA cyI 60 x), (a15, fA cyI 48 y)]) sx.heap sx.heap [] := va_S.rf
  have hch := chI_rg hx0 e12 e13
  have hc1 := chI_rg hx0 e12 (e13 + 1)
  have hc2 := chI_rg hx0 e12 (rA x e12 e13)
  have hc3 := chI_rg hx0 e12 (rA x e12 e13 + 1)
  have hc4 := chI_rg hx0 e12 (rC x e12 e13)
  have hrA := rA_rg x e12 e13
  have hrC := rC_rg x e12 e13
  have eT : chI x e12 e13 - 48 = rT x e12 e13 := rfl
  have hrP := rP_rg x e12 e13
  refine lv_aload_n hx hb dX8_readsLot_0 rfl (lv_at hl 0 rfl) ?_
  refine fp_bipush hx hb dX8_readsLot_1 (by decide) ?_
  refine fp_bipush hx hb dX8_readsLot_3 (by decide) ?_
  refine fp_pV (As := [.int (iI (49)), .int (iI (51))]) (rest := []) (wsC := [(v, .inr (8, [.ref a0, .ref a1, .ref a2, .ref a3, .int (iI (e4)), .ref a5, .int (iI (e6)), .ref a7, .int (iI (e8)), .int (iI (e9)), .int (iI (e10)), .ref a11, .int (iI (e12)), .int (iI (e13)), .int (iI (e14)), .ref a15])), (a11, fA cyI 60 x), (a15, fA cyI 48 y)]) ⟨hx, hb, hml, hown, hts⟩ (c_X8_isHere l D cyI v a0 a1 a2 a3 e4 a5 e6 a7 e8 e9 e10 a11 e12 e13 e14 a15 x 49 51 hx0 (by omega) (by omega) (by omega) (by omega)) (cwV 2 hts gX8_readsLot_X8_isHere rfl rfl rfl (by decide +kernel) ⟨Nat.le_of_ble_eq_true rfl, Nat.le_of_ble_eq_true rfl⟩) hK hP hD [0, 1] (by decide) rfl rfl rfl rfl hl.1 rfl (Nat.le_of_ble_eq_true rfl) dX8_readsLot_5 ⟨Nat.zero_le _, Nat.zero_le _⟩ ?_
  refine fp_if_ne (tgt := 13) hx hb (bI_r32 _) dX8_readsLot_8 (by decide) (fun q8 => ?_) (fun q8 => ?_)
  · skip
    have w8 := bI_ne q8
    have hT : 1 ≤ rT x e12 e13 ∧ rT x e12 e13 ≤ 3 := by omega
    have hlt := chI_lt (x := x) (n := e12) (i := e13) rfl (by omega)
    have exi : x e13 = chI x e12 e13 := (if_pos ⟨hai.1, hlt⟩).symm
    refine lv_aload_n hx hb dX8_readsLot_13 rfl (lv_at hl 0 rfl) ?_
    refine va_get (D := D) (ci := 8) (ws := [(v, .inr (8, [.ref a0, .ref a1, .ref a2, .ref a3, .int (iI (e4)), .ref a5, .int (iI (e6)), .ref a7, .int (iI (e8)), .int (iI (e9)), .int (iI (e10)), .ref a11, .int (iI (e12)), .int (iI (e13)), .int (iI (e14)), .ref a15])), (a11, fA cyI 60 x), (a15, fA cyI 48 y)]) (v := .ref a11) (C := RX8) (T := TX8) (N := 16) hx hb hts (fun _ h => List.mem_cons_of_mem _ (List.mem_append_right _ h)) hown hK.1 hP 0 rfl rfl 11 (by decide) (hts _ fl_X8_readsLot_28) (fun _ h9 => h9) rfl dX8_readsLot_14 ?_
    refine lv_aload_n hx hb dX8_readsLot_17 rfl (lv_at hl 0 rfl) ?_
    refine va_get (D := D) (ci := 8) (ws := [(v, .inr (8, [.ref a0, .ref a1, .ref a2, .ref a3, .int (iI (e4)), .ref a5, .int (iI (e6)), .ref a7, .int (iI (e8)), .int (iI (e9)), .int (iI (e10)), .ref a11, .int (iI (e12)), .int (iI (e13)), .int (iI (e14)), .ref a15])), (a11, fA cyI 60 x), (a15, fA cyI 48 y)]) (v := .int (iI (e13))) (C := RX8) (T := TX8) (N := 16) hx hb hts (fun _ h => List.mem_cons_of_mem _ (List.mem_append_right _ h)) hown hK.1 hP 0 rfl rfl 13 (by decide) (hts _ fl_X8_readsLot_190) (fun _ h9 => h9) rfl dX8_readsLot_18 ?_
    refine fp_iald (wsC := [(v, .inr (8, [.ref a0, .ref a1, .ref a2, .ref a3, .int (iI (e4)), .ref a5, .int (iI (e6)), .ref a7, .int (iI (e8)), .int (iI (e9)), .int (iI (e10)), .ref a11, .int (iI (e12)), .int (iI (e13)), .int (iI (e14)), .ref a15])), (a11, fA cyI 60 x), (a15, fA cyI 48 y)]) hx hb hK hP 1 rfl (by omega) (by decide) dX8_readsLot_21 ?_
    rw [show (x e13 : Int) = chI x e12 e13 from exi]
    refine fp_bipush hx hb dX8_readsLot_22 (by decide) ?_
    refine fp_isub hx hb dX8_readsLot_24 ?_
    refine lv_istore_n (lv' := [(1, .int (iI ((chI x e12 e13) - 48))), (0, .ref v)]) hx hb dX8_readsLot_25 rfl hl (by decide) rfl (fun ls hl => ?_)
    rw [show ((chI x e12 e13) - 48 : Int) = rT x e12 e13 from eT] at hl
    refine lv_aload_n hx hb dX8_readsLot_26 rfl (lv_at hl 1 rfl) ?_
    refine lv_dup hx hb dX8_readsLot_27 rfl ?_
    refine va_get (D := D) (ci := 8) (ws := [(v, .inr (8, [.ref a0, .ref a1, .ref a2, .ref a3, .int (iI (e4)), .ref a5, .int (iI (e6)), .ref a7, .int (iI (e8)), .int (iI (e9)), .int (iI (e10)), .ref a11, .int (iI (e12)), .int (iI (e13)), .int (iI (e14)), .ref a15])), (a11, fA cyI 60 x), (a15, fA cyI 48 y)]) (v := .int (iI (e13))) (C := RX8) (T := TX8) (N := 16) hx hb hts (fun _ h => List.mem_cons_of_mem _ (List.mem_append_right _ h)) hown hK.1 hP 0 rfl rfl 13 (by decide) (hts _ fl_X8_readsLot_190) (fun _ h9 => h9) rfl dX8_readsLot_28 ?_
    refine fp_iconst hx hb dX8_readsLot_31 ?_
    refine fp_iadd hx hb dX8_readsLot_32 ?_
    refine va_put (D := D) (ci := 8) (ws := [(v, .inr (8, [.ref a0, .ref a1, .ref a2, .ref a3, .int (iI (e4)), .ref a5, .int (iI (e6)), .ref a7, .int (iI (e8)), .int (iI (e9)), .int (iI (e10)), .ref a11, .int (iI (e12)), .int (iI (e13)), .int (iI (e14)), .ref a15])), (a11, fA cyI 60 x), (a15, fA cyI 48 y)]) (v := .int (iI (e13 + 1))) (ty := .int) (C := RX8) (T := TX8) (N := 16) hx hb hts (fun _ h => List.mem_cons_of_mem _ (List.mem_append_right _ h)) tyX8 tyX8_ok nmX8 hown hK.1 hP hD hS 0 rfl rfl 13 (by decide) (hts _ fl_X8_readsLot_190) (fun _ h9 => h9) rfl (by decide +kernel) rfl rfl (Nat.le_of_ble_eq_true rfl) dX8_readsLot_33 (fun H locs hP hD hS => ?_)
    have hP : va_P D vwCl [(v, .inr (8, [.ref a0, .ref a1, .ref a2, .ref a3, .int (iI (e4)), .ref a5, .int (iI (e6)), .ref a7, .int (iI (e8)), .int (iI (e9)), .int (iI (e10)), .ref a11, .int (iI (e12)), .int (iI (e13 + 1)), .int (iI (e14)), .ref a15])), (a11, fA cyI 60 x), (a15, fA cyI 48 y)] H := hP
    have hD : va_D (fp_A [(v, .inr (8, [.ref a0, .ref a1, .ref a2, .ref a3, .int (iI (e4)), .ref a5, .int (iI (e6)), .ref a7, .int (iI (e8)), .int (iI (e9)), .int (iI (e10)), .ref a11, .int (iI (e12)), .int (iI (e13)), .int (iI (e14)), .ref a15])), (a11, fA cyI 60 x), (a15, fA cyI 48 y)]) [(v, .inr (8, [.ref a0, .ref a1, .ref a2, .ref a3, .int (iI (e4)), .ref a5, .int (iI (e6)), .ref a7, .int (iI (e8)), .int (iI (e9)), .int (iI (e10)), .ref a11, .int (iI (e12)), .int (iI (e13 + 1)), .int (iI (e14)), .ref a15])), (a11, fA cyI 60 x), (a15, fA cyI 48 y)] := hD
    have jn1 : ∀ (pl : Int) (b2 : Int), (pl = rP x e12 e13) → (b2 = rA x e12 e13) → ∀ (H : Heap) (locs : List Loc), va_P D vwCl [(v, .inr (8, [.ref a0, .ref a1, .ref a2, .ref a3, .int (iI (e4)), .ref a5, .int (iI (e6)), .ref a7, .int (iI (e8)), .int (iI (e9)), .int (iI (e10)), .ref a11, .int (iI (e12)), .int (iI (b2)), .int (iI (e14)), .ref a15])), (a11, fA cyI 60 x), (a15, fA cyI 48 y)] H → va_D (fp_A [(v, .inr (8, [.ref a0, .ref a1, .ref a2, .ref a3, .int (iI (e4)), .ref a5, .int (iI (e6)), .ref a7, .int (iI (e8)), .int (iI (e9)), .int (iI (e10)), .ref a11, .int (iI (e12)), .int (iI (e13)), .int (iI (e14)), .ref a15])), (a11, fA cyI 60 x), (a15, fA cyI 48 y)]) [(v, .inr (8, [.ref a0, .ref a1, .ref a2, .ref a3, .int (iI (e4)), .ref a5, .int (iI (e6)), .ref a7, .int (iI (e8)), .int (iI (e9)), .int (iI (e10)), .ref a11, .int (iI (e12)), .int (iI (b2)), .int (iI (e14)), .ref a15])), (a11, fA cyI 60 x), (a15, fA cyI 48 y)] → va_S (fp_A [(v, .inr (8, [.ref a0, .ref a1, .ref a2, .ref a3, .int (iI (e4)), .ref a5, .int (iI (e6)), .ref a7, .int (iI (e8)), .int (iI (e9)), .int (iI (e10)), .ref a11, .int (iI (e12)), .int (iI (e13)), .int (iI (e14)), .ref a15])), (a11, fA cyI 60 x), (a15, fA cyI 48 y)]) sx.heap H locs → ∀ (ls : Array Slot), lv_has ls 5 [(0, .ref v), (1, .int (iI (rT x e12 e13)))] → W pg l en ({ frames := 3, cells := 0, slots := 0, locals := 69 } : Room) sx mi ar bl mt cd H locs 0 0 (MQ bl (fp_Qw D [(v, .inr (8, [.ref a0, .ref a1, .ref a2, .ref a3, .int (iI (e4)), .ref a5, .int (iI (e6)), .ref a7, .int (iI (e8)), .int (iI (e9)), .int (iI (e10)), .ref a11, .int (iI (e12)), .int (iI (e13)), .int (iI (e14)), .ref a15])), (a11, fA cyI 60 x), (a15, fA cyI 48 y)] (fun (u9 : Unit) => True) (fun (u9 : Unit) => some (.int (iI (rK x e12 e13)))) (fun (u9 : Unit) => [(v, .inr (8, [.ref a0, .ref a1, .ref a2, .ref a3, .int (iI (e4)), .ref a5, .int (iI (e6)), .ref a7, .int (iI (e8)), .int (iI (e9)), .int (iI (e10)), .ref a11, .int (iI (e12)), .int (iI (if rK x e12 e13 = 0 then rF x e12 e13 else rE x e12 e13)), .int (iI (e14 + rK x e12 e13)), .ref a15])), (a11, fA cyI 60 x), (a15, fA cyI 48 (rdM x e12 e13 e14 y))])) ar sx 0 0 (fp_A [(v, .inr (8, [.ref a0, .ref a1, .ref a2, .ref a3, .int (iI (e4)), .ref a5, .int (iI (e6)), .ref a7, .int (iI (e8)), .int (iI (e9)), .int (iI (e10)), .ref a11, .int (iI (e12)), .int (iI (e13)), .int (iI (e14)), .ref a15])), (a11, fA cyI 60 x), (a15, fA cyI 48 y)])) (F0 mi 63 ls [.int (iI (pl))]) := by
      intro pl b2 jp jA H locs hP hD hS ls hl
      rw [show (pl : Int) = rP x e12 e13 from jp]
      rw [show (b2 : Int) = rA x e12 e13 from jA] at hP hD
      refine lv_istore_n (lv' := [(2, .int (iI (rP x e12 e13))), (0, .ref v), (1, .int (iI (rT x e12 e13)))]) hx hb dX8_readsLot_63 rfl hl (by decide) rfl (fun ls hl => ?_)
      refine fp_iconst hx hb dX8_readsLot_64 ?_
      refine lv_istore_n (lv' := [(3, .int (iI (0))), (2, .int (iI (rP x e12 e13))), (0, .ref v), (1, .int (iI (rT x e12 e13)))]) hx hb dX8_readsLot_65 rfl hl (by decide) rfl (fun ls hl => ?_)
      have jn2 : ∀ (pv : Int) (b3 : Int), (pv = rV x e12 e13) → (b3 = rC x e12 e13) → (0 ≤ rV x e12 e13 ∧ rV x e12 e13 ≤ rT x e12 e13) → ∀ (H : Heap) (locs : List Loc), va_P D vwCl [(v, .inr (8, [.ref a0, .ref a1, .ref a2, .ref a3, .int (iI (e4)), .ref a5, .int (iI (e6)), .ref a7, .int (iI (e8)), .int (iI (e9)), .int (iI (e10)), .ref a11, .int (iI (e12)), .int (iI (b3)), .int (iI (e14)), .ref a15])), (a11, fA cyI 60 x), (a15, fA cyI 48 y)] H → va_D (fp_A [(v, .inr (8, [.ref a0, .ref a1, .ref a2, .ref a3, .int (iI (e4)), .ref a5, .int (iI (e6)), .ref a7, .int (iI (e8)), .int (iI (e9)), .int (iI (e10)), .ref a11, .int (iI (e12)), .int (iI (e13)), .int (iI (e14)), .ref a15])), (a11, fA cyI 60 x), (a15, fA cyI 48 y)]) [(v, .inr (8, [.ref a0, .ref a1, .ref a2, .ref a3, .int (iI (e4)), .ref a5, .int (iI (e6)), .ref a7, .int (iI (e8)), .int (iI (e9)), .int (iI (e10)), .ref a11, .int (iI (e12)), .int (iI (b3)), .int (iI (e14)), .ref a15])), (a11, fA cyI 60 x), (a15, fA cyI 48 y)] → va_S (fp_A [(v, .inr (8, [.ref a0, .ref a1, .ref a2, .ref a3, .int (iI (e4)), .ref a5, .int (iI (e6)), .ref a7, .int (iI (e8)), .int (iI (e9)), .int (iI (e10)), .ref a11, .int (iI (e12)), .int (iI (e13)), .int (iI (e14)), .ref a15])), (a11, fA cyI 60 x), (a15, fA cyI 48 y)]) sx.heap H locs → ∀ (ls : Array Slot), lv_has ls 5 [(0, .ref v), (1, .int (iI (rT x e12 e13))), (2, .int (iI (rP x e12 e13))), (3, .int (iI (pv)))] → W pg l en ({ frames := 3, cells := 0, slots := 0, locals := 69 } : Room) sx mi ar bl mt cd H locs 0 0 (MQ bl (fp_Qw D [(v, .inr (8, [.ref a0, .ref a1, .ref a2, .ref a3, .int (iI (e4)), .ref a5, .int (iI (e6)), .ref a7, .int (iI (e8)), .int (iI (e9)), .int (iI (e10)), .ref a11, .int (iI (e12)), .int (iI (e13)), .int (iI (e14)), .ref a15])), (a11, fA cyI 60 x), (a15, fA cyI 48 y)] (fun (u9 : Unit) => True) (fun (u9 : Unit) => some (.int (iI (rK x e12 e13)))) (fun (u9 : Unit) => [(v, .inr (8, [.ref a0, .ref a1, .ref a2, .ref a3, .int (iI (e4)), .ref a5, .int (iI (e6)), .ref a7, .int (iI (e8)), .int (iI (e9)), .int (iI (e10)), .ref a11, .int (iI (e12)), .int (iI (if rK x e12 e13 = 0 then rF x e12 e13 else rE x e12 e13)), .int (iI (e14 + rK x e12 e13)), .ref a15])), (a11, fA cyI 60 x), (a15, fA cyI 48 (rdM x e12 e13 e14 y))])) ar sx 0 0 (fp_A [(v, .inr (8, [.ref a0, .ref a1, .ref a2, .ref a3, .int (iI (e4)), .ref a5, .int (iI (e6)), .ref a7, .int (iI (e8)), .int (iI (e9)), .int (iI (e10)), .ref a11, .int (iI (e12)), .int (iI (e13)), .int (iI (e14)), .ref a15])), (a11, fA cyI 60 x), (a15, fA cyI 48 y)])) (F0 mi 117 ls []) := by
        intro pv b3 jv jC jr H locs hP hD hS ls hl
        have hK1 : rK x e12 e13 = 1 := by unfold rK; exact bI_t ⟨hT, jr⟩
        rw [show (pv : Int) = rV x e12 e13 from jv] at hl
        rw [show (b3 : Int) = rC x e12 e13 from jC] at hP hD
        refine lv_aload_n hx hb dX8_readsLot_117 rfl (lv_at hl 0 rfl) ?_
        have jn3 : ∀ (bl9 : Int) (b4 : Int), (bl9 = rB x e12 e13) → (b4 = rE x e12 e13) → ∀ (H : Heap) (locs : List Loc), va_P D vwCl [(v, .inr (8, [.ref a0, .ref a1, .ref a2, .ref a3, .int (iI (e4)), .ref a5, .int (iI (e6)), .ref a7, .int (iI (e8)), .int (iI (e9)), .int (iI (e10)), .ref a11, .int (iI (e12)), .int (iI (b4)), .int (iI (e14)), .ref a15])), (a11, fA cyI 60 x), (a15, fA cyI 48 y)] H → va_D (fp_A [(v, .inr (8, [.ref a0, .ref a1, .ref a2, .ref a3, .int (iI (e4)), .ref a5, .int (iI (e6)), .ref a7, .int (iI (e8)), .int (iI (e9)), .int (iI (e10)), .ref a11, .int (iI (e12)), .int (iI (e13)), .int (iI (e14)), .ref a15])), (a11, fA cyI 60 x), (a15, fA cyI 48 y)]) [(v, .inr (8, [.ref a0, .ref a1, .ref a2, .ref a3, .int (iI (e4)), .ref a5, .int (iI (e6)), .ref a7, .int (iI (e8)), .int (iI (e9)), .int (iI (e10)), .ref a11, .int (iI (e12)), .int (iI (b4)), .int (iI (e14)), .ref a15])), (a11, fA cyI 60 x), (a15, fA cyI 48 y)] → va_S (fp_A [(v, .inr (8, [.ref a0, .ref a1, .ref a2, .ref a3, .int (iI (e4)), .ref a5, .int (iI (e6)), .ref a7, .int (iI (e8)), .int (iI (e9)), .int (iI (e10)), .ref a11, .int (iI (e12)), .int (iI (e13)), .int (iI (e14)), .ref a15])), (a11, fA cyI 60 x), (a15, fA cyI 48 y)]) sx.heap H locs → ∀ (ls : Array Slot), lv_has ls 5 [(0, .ref v), (1, .int (iI (rT x e12 e13))), (2, .int (iI (rP x e12 e13))), (3, .int (iI (rV x e12 e13)))] → W pg l en ({ frames := 3, cells := 0, slots := 0, locals := 69 } : Room) sx mi ar bl mt cd H locs 0 0 (MQ bl (fp_Qw D [(v, .inr (8, [.ref a0, .ref a1, .ref a2, .ref a3, .int (iI (e4)), .ref a5, .int (iI (e6)), .ref a7, .int (iI (e8)), .int (iI (e9)), .int (iI (e10)), .ref a11, .int (iI (e12)), .int (iI (e13)), .int (iI (e14)), .ref a15])), (a11, fA cyI 60 x), (a15, fA cyI 48 y)] (fun (u9 : Unit) => True) (fun (u9 : Unit) => some (.int (iI (rK x e12 e13)))) (fun (u9 : Unit) => [(v, .inr (8, [.ref a0, .ref a1, .ref a2, .ref a3, .int (iI (e4)), .ref a5, .int (iI (e6)), .ref a7, .int (iI (e8)), .int (iI (e9)), .int (iI (e10)), .ref a11, .int (iI (e12)), .int (iI (if rK x e12 e13 = 0 then rF x e12 e13 else rE x e12 e13)), .int (iI (e14 + rK x e12 e13)), .ref a15])), (a11, fA cyI 60 x), (a15, fA cyI 48 (rdM x e12 e13 e14 y))])) ar sx 0 0 (fp_A [(v, .inr (8, [.ref a0, .ref a1, .ref a2, .ref a3, .int (iI (e4)), .ref a5, .int (iI (e6)), .ref a7, .int (iI (e8)), .int (iI (e9)), .int (iI (e10)), .ref a11, .int (iI (e12)), .int (iI (e13)), .int (iI (e14)), .ref a15])), (a11, fA cyI 60 x), (a15, fA cyI 48 y)])) (F0 mi 131 ls [.int (iI (bl9))]) := by
          intro bl9 b4 jb jE H locs hP hD hS ls hl
          rw [show (bl9 : Int) = rB x e12 e13 from jb]
          rw [show (b4 : Int) = rE x e12 e13 from jE] at hP hD
          refine lv_istore (lv' := [(4, .int (iI (rB x e12 e13))), (0, .ref v), (1, .int (iI (rT x e12 e13))), (2, .int (iI (rP x e12 e13))), (3, .int (iI (rV x e12 e13)))]) hx hb dX8_readsLot_131 hl (by decide) rfl (fun ls hl => ?_)
          refine lv_aload_n hx hb dX8_readsLot_133 rfl (lv_at hl 1 rfl) ?_
          refine va_get (D := D) (ci := 8) (ws := [(v, .inr (8, [.ref a0, .ref a1, .ref a2, .ref a3, .int (iI (e4)), .ref a5, .int (iI (e6)), .ref a7, .int (iI (e8)), .int (iI (e9)), .int (iI (e10)), .ref a11, .int (iI (e12)), .int (iI (rE x e12 e13)), .int (iI (e14)), .ref a15])), (a11, fA cyI 60 x), (a15, fA cyI 48 y)]) (v := .int (iI (e14))) (C := RX8) (T := TX8) (N := 16) hx hb hts (fun _ h => List.mem_cons_of_mem _ (List.mem_append_right _ h)) hown hK.1 hP 0 rfl rfl 14 (by decide) (hts _ fl_X8_readsLot_199) (fun _ h9 => h9) rfl dX8_readsLot_134 ?_
          refine fp_bipush hx hb dX8_readsLot_137 (by decide) ?_
          have jn4 : ∀ (y2 : Int → Int), (y2 = rdM x e12 e13 e14 y) → ∀ (H : Heap) (locs : List Loc), va_P D vwCl [(v, .inr (8, [.ref a0, .ref a1, .ref a2, .ref a3, .int (iI (e4)), .ref a5, .int (iI (e6)), .ref a7, .int (iI (e8)), .int (iI (e9)), .int (iI (e10)), .ref a11, .int (iI (e12)), .int (iI (rE x e12 e13)), .int (iI (e14)), .ref a15])), (a11, fA cyI 60 x), (a15, fA cyI 48 y2)] H → va_D (fp_A [(v, .inr (8, [.ref a0, .ref a1, .ref a2, .ref a3, .int (iI (e4)), .ref a5, .int (iI (e6)), .ref a7, .int (iI (e8)), .int (iI (e9)), .int (iI (e10)), .ref a11, .int (iI (e12)), .int (iI (e13)), .int (iI (e14)), .ref a15])), (a11, fA cyI 60 x), (a15, fA cyI 48 y)]) [(v, .inr (8, [.ref a0, .ref a1, .ref a2, .ref a3, .int (iI (e4)), .ref a5, .int (iI (e6)), .ref a7, .int (iI (e8)), .int (iI (e9)), .int (iI (e10)), .ref a11, .int (iI (e12)), .int (iI (rE x e12 e13)), .int (iI (e14)), .ref a15])), (a11, fA cyI 60 x), (a15, fA cyI 48 y2)] → va_S (fp_A [(v, .inr (8, [.ref a0, .ref a1, .ref a2, .ref a3, .int (iI (e4)), .ref a5, .int (iI (e6)), .ref a7, .int (iI (e8)), .int (iI (e9)), .int (iI (e10)), .ref a11, .int (iI (e12)), .int (iI (e13)), .int (iI (e14)), .ref a15])), (a11, fA cyI 60 x), (a15, fA cyI 48 y)]) sx.heap H locs → ∀ (ls : Array Slot), lv_has ls 5 [(0, .ref v), (1, .int (iI (rT x e12 e13))), (2, .int (iI (rP x e12 e13))), (3, .int (iI (rV x e12 e13))), (4, .int (iI (rB x e12 e13)))] → W pg l en ({ frames := 3, cells := 0, slots := 0, locals := 69 } : Room) sx mi ar bl mt cd H locs 0 0 (MQ bl (fp_Qw D [(v, .inr (8, [.ref a0, .ref a1, .ref a2, .ref a3, .int (iI (e4)), .ref a5, .int (iI (e6)), .ref a7, .int (iI (e8)), .int (iI (e9)), .int (iI (e10)), .ref a11, .int (iI (e12)), .int (iI (e13)), .int (iI (e14)), .ref a15])), (a11, fA cyI 60 x), (a15, fA cyI 48 y)] (fun (u9 : Unit) => True) (fun (u9 : Unit) => some (.int (iI (rK x e12 e13)))) (fun (u9 : Unit) => [(v, .inr (8, [.ref a0, .ref a1, .ref a2, .ref a3, .int (iI (e4)), .ref a5, .int (iI (e6)), .ref a7, .int (iI (e8)), .int (iI (e9)), .int (iI (e10)), .ref a11, .int (iI (e12)), .int (iI (if rK x e12 e13 = 0 then rF x e12 e13 else rE x e12 e13)), .int (iI (e14 + rK x e12 e13)), .ref a15])), (a11, fA cyI 60 x), (a15, fA cyI 48 (rdM x e12 e13 e14 y))])) ar sx 0 0 (fp_A [(v, .inr (8, [.ref a0, .ref a1, .ref a2, .ref a3, .int (iI (e4)), .ref a5, .int (iI (e6)), .ref a7, .int (iI (e8)), .int (iI (e9)), .int (iI (e10)), .ref a11, .int (iI (e12)), .int (iI (e13)), .int (iI (e14)), .ref a15])), (a11, fA cyI 60 x), (a15, fA cyI 48 y)])) (F0 mi 197 ls []) := by
            intro y2 jy H locs hP hD hS ls hl
            rw [show (y2 : Int → Int) = rdM x e12 e13 e14 y from jy] at hP hD
            refine lv_aload_n hx hb dX8_readsLot_197 rfl (lv_at hl 0 rfl) ?_
            refine lv_dup hx hb dX8_readsLot_198 rfl ?_
            refine va_get (D := D) (ci := 8) (ws := [(v, .inr (8, [.ref a0, .ref a1, .ref a2, .ref a3, .int (iI (e4)), .ref a5, .int (iI (e6)), .ref a7, .int (iI (e8)), .int (iI (e9)), .int (iI (e10)), .ref a11, .int (iI (e12)), .int (iI (rE x e12 e13)), .int (iI (e14)), .ref a15])), (a11, fA cyI 60 x), (a15, fA cyI 48 (rdM x e12 e13 e14 y))]) (v := .int (iI (e14))) (C := RX8) (T := TX8) (N := 16) hx hb hts (fun _ h => List.mem_cons_of_mem _ (List.mem_append_right _ h)) hown hK.1 hP 0 rfl rfl 14 (by decide) (hts _ fl_X8_readsLot_199) (fun _ h9 => h9) rfl dX8_readsLot_199 ?_
            refine fp_iconst hx hb dX8_readsLot_202 ?_
            refine fp_iadd hx hb dX8_readsLot_203 ?_
            refine va_put (D := D) (ci := 8) (ws := [(v, .inr (8, [.ref a0, .ref a1, .ref a2, .ref a3, .int (iI (e4)), .ref a5, .int (iI (e6)), .ref a7, .int (iI (e8)), .int (iI (e9)), .int (iI (e10)), .ref a11, .int (iI (e12)), .int (iI (rE x e12 e13)), .int (iI (e14)), .ref a15])), (a11, fA cyI 60 x), (a15, fA cyI 48 (rdM x e12 e13 e14 y))]) (v := .int (iI (e14 + 1))) (ty := .int) (C := RX8) (T := TX8) (N := 16) hx hb hts (fun _ h => List.mem_cons_of_mem _ (List.mem_append_right _ h)) tyX8 tyX8_ok nmX8 hown hK.1 hP hD hS 0 rfl rfl 14 (by decide) (hts _ fl_X8_readsLot_199) (fun _ h9 => h9) rfl (by decide +kernel) rfl rfl (Nat.le_of_ble_eq_true rfl) dX8_readsLot_204 (fun H locs hP hD hS => ?_)
            have hP : va_P D vwCl [(v, .inr (8, [.ref a0, .ref a1, .ref a2, .ref a3, .int (iI (e4)), .ref a5, .int (iI (e6)), .ref a7, .int (iI (e8)), .int (iI (e9)), .int (iI (e10)), .ref a11, .int (iI (e12)), .int (iI (rE x e12 e13)), .int (iI (e14 + 1)), .ref a15])), (a11, fA cyI 60 x), (a15, fA cyI 48 (rdM x e12 e13 e14 y))] H := hP
            have hD : va_D (fp_A [(v, .inr (8, [.ref a0, .ref a1, .ref a2, .ref a3, .int (iI (e4)), .ref a5, .int (iI (e6)), .ref a7, .int (iI (e8)), .int (iI (e9)), .int (iI (e10)), .ref a11, .int (iI (e12)), .int (iI (e13)), .int (iI (e14)), .ref a15])), (a11, fA cyI 60 x), (a15, fA cyI 48 y)]) [(v, .inr (8, [.ref a0, .ref a1, .ref a2, .ref a3, .int (iI (e4)), .ref a5, .int (iI (e6)), .ref a7, .int (iI (e8)), .int (iI (e9)), .int (iI (e10)), .ref a11, .int (iI (e12)), .int (iI (rE x e12 e13)), .int (iI (e14 + 1)), .ref a15])), (a11, fA cyI 60 x), (a15, fA cyI 48 (rdM x e12 e13 e14 y))] := hD
            refine fp_iconst hx hb dX8_readsLot_207 ?_
            have hP : va_P D vwCl [(v, .inr (8, [.ref a0, .ref a1, .ref a2, .ref a3, .int (iI (e4)), .ref a5, .int (iI (e6)), .ref a7, .int (iI (e8)), .int (iI (e9)), .int (iI (e10)), .ref a11, .int (iI (e12)), .int (iI (if rK x e12 e13 = 0 then rF x e12 e13 else rE x e12 e13)), .int (iI (e14 + rK x e12 e13)), .ref a15])), (a11, fA cyI 60 x), (a15, fA cyI 48 (rdM x e12 e13 e14 y))] H := by
              rw [(show (rE x e12 e13 : Int) = if rK x e12 e13 = 0 then rF x e12 e13 else rE x e12 e13 from (by first | rw [if_pos hK0, hF0] | rw [if_neg (by omega)])).symm]
              rw [(show (e14 + 1 : Int) = e14 + rK x e12 e13 from (by first | rw [hK0, Int.add_zero] | rw [hK1])).symm]
              exact hP
            have hret : (rK x e12 e13 : Int) = 1 := (by first | exact hK0 | exact hK1)
            exact fp_wzret () hx hb hr hlocks (by first | exact Or.inl rfl | exact Or.inr rfl | exact bI_01 _ | omega) hS hP trivial (congrArg (fun z : Int => some (Value.int (iI z))) hret) dX8_readsLot_208
          refine fp_icmp_ge (tgt := 197) hx hb (by omega) dX8_readsLot_139 (by decide) (fun q139 => ?_) (fun q139 => ?_)
          · skip
            exact jn4 y (by unfold rdM; first | rw [if_pos (by omega)] | rw [if_neg (by omega)]) H locs hP hD hS ls (lv_sub hl [1, 2, 3, 4, 0] rfl)
          · skip
            refine lv_aload_n hx hb dX8_readsLot_142 rfl (lv_at hl 1 rfl) ?_
            refine va_get (D := D) (ci := 8) (ws := [(v, .inr (8, [.ref a0, .ref a1, .ref a2, .ref a3, .int (iI (e4)), .ref a5, .int (iI (e6)), .ref a7, .int (iI (e8)), .int (iI (e9)), .int (iI (e10)), .ref a11, .int (iI (e12)), .int (iI (rE x e12 e13)), .int (iI (e14)), .ref a15])), (a11, fA cyI 60 x), (a15, fA cyI 48 y)]) (v := .ref a15) (C := RX8) (T := TX8) (N := 16) hx hb hts (fun _ h => List.mem_cons_of_mem _ (List.mem_append_right _ h)) hown hK.1 hP 0 rfl rfl 15 (by decide) (hts _ fl_X8_readsLot_31) (fun _ h9 => h9) rfl dX8_readsLot_143 ?_
            refine fp_iconst hx hb dX8_readsLot_146 ?_
            refine lv_aload_n hx hb dX8_readsLot_147 rfl (lv_at hl 1 rfl) ?_
            refine va_get (D := D) (ci := 8) (ws := [(v, .inr (8, [.ref a0, .ref a1, .ref a2, .ref a3, .int (iI (e4)), .ref a5, .int (iI (e6)), .ref a7, .int (iI (e8)), .int (iI (e9)), .int (iI (e10)), .ref a11, .int (iI (e12)), .int (iI (rE x e12 e13)), .int (iI (e14)), .ref a15])), (a11, fA cyI 60 x), (a15, fA cyI 48 y)]) (v := .int (iI (e14))) (C := RX8) (T := TX8) (N := 16) hx hb hts (fun _ h => List.mem_cons_of_mem _ (List.mem_append_right _ h)) hown hK.1 hP 0 rfl rfl 14 (by decide) (hts _ fl_X8_readsLot_199) (fun _ h9 => h9) rfl dX8_readsLot_148 ?_
            refine fp_imul hx hb dX8_readsLot_151 ?_
            refine lv_iload_n hx hb dX8_readsLot_152 rfl (lv_at hl 2 rfl) ?_
            refine fp_iast (wsC := [(v, .inr (8, [.ref a0, .ref a1, .ref a2, .ref a3, .int (iI (e4)), .ref a5, .int (iI (e6)), .ref a7, .int (iI (e8)), .int (iI (e9)), .int (iI (e10)), .ref a11, .int (iI (e12)), .int (iI (rE x e12 e13)), .int (iI (e14)), .ref a15])), (a11, fA cyI 60 x), (a15, fA cyI 48 y)]) hx hb hK hP hD hS 2 rfl (by omega) (by decide) dX8_readsLot_153 (fun H locs hP hD hS => ?_)
            have hP : va_P D vwCl [(v, .inr (8, [.ref a0, .ref a1, .ref a2, .ref a3, .int (iI (e4)), .ref a5, .int (iI (e6)), .ref a7, .int (iI (e8)), .int (iI (e9)), .int (iI (e10)), .ref a11, .int (iI (e12)), .int (iI (rE x e12 e13)), .int (iI (e14)), .ref a15])), (a11, fA cyI 60 x), (a15, fA cyI 48 (upI (y) (4 * e14) (rT x e12 e13)))] H := hP
            have hD : va_D (fp_A [(v, .inr (8, [.ref a0, .ref a1, .ref a2, .ref a3, .int (iI (e4)), .ref a5, .int (iI (e6)), .ref a7, .int (iI (e8)), .int (iI (e9)), .int (iI (e10)), .ref a11, .int (iI (e12)), .int (iI (e13)), .int (iI (e14)), .ref a15])), (a11, fA cyI 60 x), (a15, fA cyI 48 y)]) [(v, .inr (8, [.ref a0, .ref a1, .ref a2, .ref a3, .int (iI (e4)), .ref a5, .int (iI (e6)), .ref a7, .int (iI (e8)), .int (iI (e9)), .int (iI (e10)), .ref a11, .int (iI (e12)), .int (iI (rE x e12 e13)), .int (iI (e14)), .ref a15])), (a11, fA cyI 60 x), (a15, fA cyI 48 (upI (y) (4 * e14) (rT x e12 e13)))] := hD
            refine lv_aload_n hx hb dX8_readsLot_154 rfl (lv_at hl 1 rfl) ?_
            refine va_get (D := D) (ci := 8) (ws := [(v, .inr (8, [.ref a0, .ref a1, .ref a2, .ref a3, .int (iI (e4)), .ref a5, .int (iI (e6)), .ref a7, .int (iI (e8)), .int (iI (e9)), .int (iI (e10)), .ref a11, .int (iI (e12)), .int (iI (rE x e12 e13)), .int (iI (e14)), .ref a15])), (a11, fA cyI 60 x), (a15, fA cyI 48 (upI (y) (4 * e14) (rT x e12 e13)))]) (v := .ref a15) (C := RX8) (T := TX8) (N := 16) hx hb hts (fun _ h => List.mem_cons_of_mem _ (List.mem_append_right _ h)) hown hK.1 hP 0 rfl rfl 15 (by decide) (hts _ fl_X8_readsLot_31) (fun _ h9 => h9) rfl dX8_readsLot_155 ?_
            refine fp_iconst hx hb dX8_readsLot_158 ?_
            refine lv_aload_n hx hb dX8_readsLot_159 rfl (lv_at hl 1 rfl) ?_
            refine va_get (D := D) (ci := 8) (ws := [(v, .inr (8, [.ref a0, .ref a1, .ref a2, .ref a3, .int (iI (e4)), .ref a5, .int (iI (e6)), .ref a7, .int (iI (e8)), .int (iI (e9)), .int (iI (e10)), .ref a11, .int (iI (e12)), .int (iI (rE x e12 e13)), .int (iI (e14)), .ref a15])), (a11, fA cyI 60 x), (a15, fA cyI 48 (upI (y) (4 * e14) (rT x e12 e13)))]) (v := .int (iI (e14))) (C := RX8) (T := TX8) (N := 16) hx hb hts (fun _ h => List.mem_cons_of_mem _ (List.mem_append_right _ h)) hown hK.1 hP 0 rfl rfl 14 (by decide) (hts _ fl_X8_readsLot_199) (fun _ h9 => h9) rfl dX8_readsLot_160 ?_
            refine fp_imul hx hb dX8_readsLot_163 ?_
            refine fp_iconst hx hb dX8_readsLot_164 ?_
            refine fp_iadd hx hb dX8_readsLot_165 ?_
            refine lv_iload_n hx hb dX8_readsLot_166 rfl (lv_at hl 3 rfl) ?_
            refine fp_iast (wsC := [(v, .inr (8, [.ref a0, .ref a1, .ref a2, .ref a3, .int (iI (e4)), .ref a5, .int (iI (e6)), .ref a7, .int (iI (e8)), .int (iI (e9)), .int (iI (e10)), .ref a11, .int (iI (e12)), .int (iI (rE x e12 e13)), .int (iI (e14)), .ref a15])), (a11, fA cyI 60 x), (a15, fA cyI 48 (upI (y) (4 * e14) (rT x e12 e13)))]) hx hb hK hP hD hS 2 rfl (by omega) (by decide) dX8_readsLot_167 (fun H locs hP hD hS => ?_)
            have hP : va_P D vwCl [(v, .inr (8, [.ref a0, .ref a1, .ref a2, .ref a3, .int (iI (e4)), .ref a5, .int (iI (e6)), .ref a7, .int (iI (e8)), .int (iI (e9)), .int (iI (e10)), .ref a11, .int (iI (e12)), .int (iI (rE x e12 e13)), .int (iI (e14)), .ref a15])), (a11, fA cyI 60 x), (a15, fA cyI 48 (upI (upI (y) (4 * e14) (rT x e12 e13)) ((4 * e14) + 1) (rP x e12 e13)))] H := hP
            have hD : va_D (fp_A [(v, .inr (8, [.ref a0, .ref a1, .ref a2, .ref a3, .int (iI (e4)), .ref a5, .int (iI (e6)), .ref a7, .int (iI (e8)), .int (iI (e9)), .int (iI (e10)), .ref a11, .int (iI (e12)), .int (iI (e13)), .int (iI (e14)), .ref a15])), (a11, fA cyI 60 x), (a15, fA cyI 48 y)]) [(v, .inr (8, [.ref a0, .ref a1, .ref a2, .ref a3, .int (iI (e4)), .ref a5, .int (iI (e6)), .ref a7, .int (iI (e8)), .int (iI (e9)), .int (iI (e10)), .ref a11, .int (iI (e12)), .int (iI (rE x e12 e13)), .int (iI (e14)), .ref a15])), (a11, fA cyI 60 x), (a15, fA cyI 48 (upI (upI (y) (4 * e14) (rT x e12 e13)) ((4 * e14) + 1) (rP x e12 e13)))] := hD
            refine lv_aload_n hx hb dX8_readsLot_168 rfl (lv_at hl 1 rfl) ?_
            refine va_get (D := D) (ci := 8) (ws := [(v, .inr (8, [.ref a0, .ref a1, .ref a2, .ref a3, .int (iI (e4)), .ref a5, .int (iI (e6)), .ref a7, .int (iI (e8)), .int (iI (e9)), .int (iI (e10)), .ref a11, .int (iI (e12)), .int (iI (rE x e12 e13)), .int (iI (e14)), .ref a15])), (a11, fA cyI 60 x), (a15, fA cyI 48 (upI (upI (y) (4 * e14) (rT x e12 e13)) ((4 * e14) + 1) (rP x e12 e13)))]) (v := .ref a15) (C := RX8) (T := TX8) (N := 16) hx hb hts (fun _ h => List.mem_cons_of_mem _ (List.mem_append_right _ h)) hown hK.1 hP 0 rfl rfl 15 (by decide) (hts _ fl_X8_readsLot_31) (fun _ h9 => h9) rfl dX8_readsLot_169 ?_
            refine fp_iconst hx hb dX8_readsLot_172 ?_
            refine lv_aload_n hx hb dX8_readsLot_173 rfl (lv_at hl 1 rfl) ?_
            refine va_get (D := D) (ci := 8) (ws := [(v, .inr (8, [.ref a0, .ref a1, .ref a2, .ref a3, .int (iI (e4)), .ref a5, .int (iI (e6)), .ref a7, .int (iI (e8)), .int (iI (e9)), .int (iI (e10)), .ref a11, .int (iI (e12)), .int (iI (rE x e12 e13)), .int (iI (e14)), .ref a15])), (a11, fA cyI 60 x), (a15, fA cyI 48 (upI (upI (y) (4 * e14) (rT x e12 e13)) ((4 * e14) + 1) (rP x e12 e13)))]) (v := .int (iI (e14))) (C := RX8) (T := TX8) (N := 16) hx hb hts (fun _ h => List.mem_cons_of_mem _ (List.mem_append_right _ h)) hown hK.1 hP 0 rfl rfl 14 (by decide) (hts _ fl_X8_readsLot_199) (fun _ h9 => h9) rfl dX8_readsLot_174 ?_
            refine fp_imul hx hb dX8_readsLot_177 ?_
            refine fp_iconst hx hb dX8_readsLot_178 ?_
            refine fp_iadd hx hb dX8_readsLot_179 ?_
            refine lv_iload hx hb dX8_readsLot_180 (lv_at hl 0 rfl) ?_
            refine fp_iast (wsC := [(v, .inr (8, [.ref a0, .ref a1, .ref a2, .ref a3, .int (iI (e4)), .ref a5, .int (iI (e6)), .ref a7, .int (iI (e8)), .int (iI (e9)), .int (iI (e10)), .ref a11, .int (iI (e12)), .int (iI (rE x e12 e13)), .int (iI (e14)), .ref a15])), (a11, fA cyI 60 x), (a15, fA cyI 48 (upI (upI (y) (4 * e14) (rT x e12 e13)) ((4 * e14) + 1) (rP x e12 e13)))]) hx hb hK hP hD hS 2 rfl (by omega) (by decide) dX8_readsLot_182 (fun H locs hP hD hS => ?_)
            have hP : va_P D vwCl [(v, .inr (8, [.ref a0, .ref a1, .ref a2, .ref a3, .int (iI (e4)), .ref a5, .int (iI (e6)), .ref a7, .int (iI (e8)), .int (iI (e9)), .int (iI (e10)), .ref a11, .int (iI (e12)), .int (iI (rE x e12 e13)), .int (iI (e14)), .ref a15])), (a11, fA cyI 60 x), (a15, fA cyI 48 (upI (upI (upI (y) (4 * e14) (rT x e12 e13)) ((4 * e14) + 1) (rP x e12 e13)) ((4 * e14) + 2) (rB x e12 e13)))] H := hP
            have hD : va_D (fp_A [(v, .inr (8, [.ref a0, .ref a1, .ref a2, .ref a3, .int (iI (e4)), .ref a5, .int (iI (e6)), .ref a7, .int (iI (e8)), .int (iI (e9)), .int (iI (e10)), .ref a11, .int (iI (e12)), .int (iI (e13)), .int (iI (e14)), .ref a15])), (a11, fA cyI 60 x), (a15, fA cyI 48 y)]) [(v, .inr (8, [.ref a0, .ref a1, .ref a2, .ref a3, .int (iI (e4)), .ref a5, .int (iI (e6)), .ref a7, .int (iI (e8)), .int (iI (e9)), .int (iI (e10)), .ref a11, .int (iI (e12)), .int (iI (rE x e12 e13)), .int (iI (e14)), .ref a15])), (a11, fA cyI 60 x), (a15, fA cyI 48 (upI (upI (upI (y) (4 * e14) (rT x e12 e13)) ((4 * e14) + 1) (rP x e12 e13)) ((4 * e14) + 2) (rB x e12 e13)))] := hD
            refine lv_aload_n hx hb dX8_readsLot_183 rfl (lv_at hl 1 rfl) ?_
            refine va_get (D := D) (ci := 8) (ws := [(v, .inr (8, [.ref a0, .ref a1, .ref a2, .ref a3, .int (iI (e4)), .ref a5, .int (iI (e6)), .ref a7, .int (iI (e8)), .int (iI (e9)), .int (iI (e10)), .ref a11, .int (iI (e12)), .int (iI (rE x e12 e13)), .int (iI (e14)), .ref a15])), (a11, fA cyI 60 x), (a15, fA cyI 48 (upI (upI (upI (y) (4 * e14) (rT x e12 e13)) ((4 * e14) + 1) (rP x e12 e13)) ((4 * e14) + 2) (rB x e12 e13)))]) (v := .ref a15) (C := RX8) (T := TX8) (N := 16) hx hb hts (fun _ h => List.mem_cons_of_mem _ (List.mem_append_right _ h)) hown hK.1 hP 0 rfl rfl 15 (by decide) (hts _ fl_X8_readsLot_31) (fun _ h9 => h9) rfl dX8_readsLot_184 ?_
            refine fp_iconst hx hb dX8_readsLot_187 ?_
            refine lv_aload_n hx hb dX8_readsLot_188 rfl (lv_at hl 1 rfl) ?_
            refine va_get (D := D) (ci := 8) (ws := [(v, .inr (8, [.ref a0, .ref a1, .ref a2, .ref a3, .int (iI (e4)), .ref a5, .int (iI (e6)), .ref a7, .int (iI (e8)), .int (iI (e9)), .int (iI (e10)), .ref a11, .int (iI (e12)), .int (iI (rE x e12 e13)), .int (iI (e14)), .ref a15])), (a11, fA cyI 60 x), (a15, fA cyI 48 (upI (upI (upI (y) (4 * e14) (rT x e12 e13)) ((4 * e14) + 1) (rP x e12 e13)) ((4 * e14) + 2) (rB x e12 e13)))]) (v := .int (iI (e14))) (C := RX8) (T := TX8) (N := 16) hx hb hts (fun _ h => List.mem_cons_of_mem _ (List.mem_append_right _ h)) hown hK.1 hP 0 rfl rfl 14 (by decide) (hts _ fl_X8_readsLot_199) (fun _ h9 => h9) rfl dX8_readsLot_189 ?_
            refine fp_imul hx hb dX8_readsLot_192 ?_
            refine fp_iconst hx hb dX8_readsLot_193 ?_
            refine fp_iadd hx hb dX8_readsLot_194 ?_
            refine lv_iload_n hx hb dX8_readsLot_195 rfl (lv_at hl 4 rfl) ?_
            refine fp_iast (wsC := [(v, .inr (8, [.ref a0, .ref a1, .ref a2, .ref a3, .int (iI (e4)), .ref a5, .int (iI (e6)), .ref a7, .int (iI (e8)), .int (iI (e9)), .int (iI (e10)), .ref a11, .int (iI (e12)), .int (iI (rE x e12 e13)), .int (iI (e14)), .ref a15])), (a11, fA cyI 60 x), (a15, fA cyI 48 (upI (upI (upI (y) (4 * e14) (rT x e12 e13)) ((4 * e14) + 1) (rP x e12 e13)) ((4 * e14) + 2) (rB x e12 e13)))]) hx hb hK hP hD hS 2 rfl (by omega) (by decide) dX8_readsLot_196 (fun H locs hP hD hS => ?_)
            have hP : va_P D vwCl [(v, .inr (8, [.ref a0, .ref a1, .ref a2, .ref a3, .int (iI (e4)), .ref a5, .int (iI (e6)), .ref a7, .int (iI (e8)), .int (iI (e9)), .int (iI (e10)), .ref a11, .int (iI (e12)), .int (iI (rE x e12 e13)), .int (iI (e14)), .ref a15])), (a11, fA cyI 60 x), (a15, fA cyI 48 (upI (upI (upI (upI (y) (4 * e14) (rT x e12 e13)) ((4 * e14) + 1) (rP x e12 e13)) ((4 * e14) + 2) (rB x e12 e13)) ((4 * e14) + 3) (rV x e12 e13)))] H := hP
            have hD : va_D (fp_A [(v, .inr (8, [.ref a0, .ref a1, .ref a2, .ref a3, .int (iI (e4)), .ref a5, .int (iI (e6)), .ref a7, .int (iI (e8)), .int (iI (e9)), .int (iI (e10)), .ref a11, .int (iI (e12)), .int (iI (e13)), .int (iI (e14)), .ref a15])), (a11, fA cyI 60 x), (a15, fA cyI 48 y)]) [(v, .inr (8, [.ref a0, .ref a1, .ref a2, .ref a3, .int (iI (e4)), .ref a5, .int (iI (e6)), .ref a7, .int (iI (e8)), .int (iI (e9)), .int (iI (e10)), .ref a11, .int (iI (e12)), .int (iI (rE x e12 e13)), .int (iI (e14)), .ref a15])), (a11, fA cyI 60 x), (a15, fA cyI 48 (upI (upI (upI (upI (y) (4 * e14) (rT x e12 e13)) ((4 * e14) + 1) (rP x e12 e13)) ((4 * e14) + 2) (rB x e12 e13)) ((4 * e14) + 3) (rV x e12 e13)))] := hD
            exact jn4 (upI (upI (upI (upI (y) (4 * e14) (rT x e12 e13)) ((4 * e14) + 1) (rP x e12 e13)) ((4 * e14) + 2) (rB x e12 e13)) ((4 * e14) + 3) (rV x e12 e13)) (by unfold rdM; first | rw [if_pos (by omega)] | rw [if_neg (by omega)]) H locs hP hD hS ls (lv_sub hl [1, 2, 3, 4, 0] rfl)
        refine fp_bipush hx hb dX8_readsLot_118 (by decide) ?_
        refine fp_wV (As := [.int (iI (43))]) (rest := []) (wsC := [(v, .inr (8, [.ref a0, .ref a1, .ref a2, .ref a3, .int (iI (e4)), .ref a5, .int (iI (e6)), .ref a7, .int (iI (e8)), .int (iI (e9)), .int (iI (e10)), .ref a11, .int (iI (e12)), .int (iI (rC x e12 e13)), .int (iI (e14)), .ref a15])), (a11, fA cyI 60 x), (a15, fA cyI 48 y)]) ⟨hx, hb, hml, hown, hts⟩ (c_X8_takes l D cyI v a0 a1 a2 a3 e4 a5 e6 a7 e8 e9 e10 a11 e12 (rC x e12 e13) e14 a15 x 43 hx0 (by omega) (by omega) (by omega)) (cwV 1 hts gX8_readsLot_X8_takes rfl rfl rfl (by decide +kernel) ⟨Nat.le_of_ble_eq_true rfl, Nat.le_of_ble_eq_true rfl⟩) (fun _ => rfl) hK hP hD hS [0, 1] (by decide) rfl rfl rfl rfl hl.1 rfl (Nat.le_of_ble_eq_true rfl) dX8_readsLot_120 ⟨Nat.zero_le _, Nat.zero_le _⟩ (fun u9v H locs hu hP hD hS => ?_)
        refine W.eq (g2 := F0 mi 123 ls [.int (iI (bI (chI x e12 (rC x e12 e13) = 43)))]) rfl ?_
        have hP : va_P D vwCl [(v, .inr (8, [.ref a0, .ref a1, .ref a2, .ref a3, .int (iI (e4)), .ref a5, .int (iI (e6)), .ref a7, .int (iI (e8)), .int (iI (e9)), .int (iI (e10)), .ref a11, .int (iI (e12)), .int (iI ((rC x e12 e13) + bI (chI x e12 (rC x e12 e13) = 43))), .int (iI (e14)), .ref a15])), (a11, fA cyI 60 x), (a15, fA cyI 48 y)] H := hP
        have hD : va_D (fp_A [(v, .inr (8, [.ref a0, .ref a1, .ref a2, .ref a3, .int (iI (e4)), .ref a5, .int (iI (e6)), .ref a7, .int (iI (e8)), .int (iI (e9)), .int (iI (e10)), .ref a11, .int (iI (e12)), .int (iI (e13)), .int (iI (e14)), .ref a15])), (a11, fA cyI 60 x), (a15, fA cyI 48 y)]) [(v, .inr (8, [.ref a0, .ref a1, .ref a2, .ref a3, .int (iI (e4)), .ref a5, .int (iI (e6)), .ref a7, .int (iI (e8)), .int (iI (e9)), .int (iI (e10)), .ref a11, .int (iI (e12)), .int (iI ((rC x e12 e13) + bI (chI x e12 (rC x e12 e13) = 43))), .int (iI (e14)), .ref a15])), (a11, fA cyI 60 x), (a15, fA cyI 48 y)] := hD
        refine fp_if_eq (tgt := 130) hx hb (bI_r32 _) dX8_readsLot_123 (by decide) (fun q123 => ?_) (fun q123 => ?_)
        · skip
          have w123 := bI_e q123
          have e5 : (0 : Int) = rB x e12 e13 := by unfold rB; rw [bI_f w123]
          refine fp_iconst hx hb dX8_readsLot_130 ?_
          exact jn3 0 ((rC x e12 e13) + bI (chI x e12 (rC x e12 e13) = 43)) e5 rfl H locs hP hD hS ls (lv_sub hl [0, 1, 2, 3] rfl)
        · skip
          have w123 := bI_ne q123
          have e5 : (1 : Int) = rB x e12 e13 := by unfold rB; rw [bI_t w123]
          refine fp_iconst hx hb dX8_readsLot_126 ?_
          refine lv_goto (tgt := 131) hx hb dX8_readsLot_127 (by decide) ?_
          exact jn3 1 ((rC x e12 e13) + bI (chI x e12 (rC x e12 e13) = 43)) e5 rfl H locs hP hD hS ls (lv_sub hl [0, 1, 2, 3] rfl)
      refine lv_iload_n hx hb dX8_readsLot_66 rfl (lv_at hl 1 rfl) ?_
      refine fp_if_le (tgt := 117) hx hb (by omega) dX8_readsLot_67 (by decide) (fun q67 => ?_) (fun q67 => ?_)
      · skip
        have hH : rH x e12 e13 = 0 := by unfold rH; rw [if_pos (by omega)]
        have e3 : (0 : Int) = rV x e12 e13 := by unfold rV; rw [if_pos hH]
        have u4 : rC x e12 e13 = rA x e12 e13 := by unfold rC; rw [if_pos hH]
        exact jn2 0 (rA x e12 e13) e3 (by first | exact u4.symm | exact u6 | exact e7) (by omega) H locs hP hD hS ls (lv_sub hl [2, 3, 1, 0] rfl)
      · skip
        refine lv_aload_n hx hb dX8_readsLot_70 rfl (lv_at hl 2 rfl) ?_
        refine fp_bipush hx hb dX8_readsLot_71 (by decide) ?_
        refine fp_wV (As := [.int (iI (64))]) (rest := []) (wsC := [(v, .inr (8, [.ref a0, .ref a1, .ref a2, .ref a3, .int (iI (e4)), .ref a5, .int (iI (e6)), .ref a7, .int (iI (e8)), .int (iI (e9)), .int (iI (e10)), .ref a11, .int (iI (e12)), .int (iI (rA x e12 e13)), .int (iI (e14)), .ref a15])), (a11, fA cyI 60 x), (a15, fA cyI 48 y)]) ⟨hx, hb, hml, hown, hts⟩ (c_X8_takes l D cyI v a0 a1 a2 a3 e4 a5 e6 a7 e8 e9 e10 a11 e12 (rA x e12 e13) e14 a15 x 64 hx0 (by omega) (by omega) (by omega)) (cwV 1 hts gX8_readsLot_X8_takes rfl rfl rfl (by decide +kernel) ⟨Nat.le_of_ble_eq_true rfl, Nat.le_of_ble_eq_true rfl⟩) (fun _ => rfl) hK hP hD hS [0, 1] (by decide) rfl rfl rfl rfl hl.1 rfl (Nat.le_of_ble_eq_true rfl) dX8_readsLot_73 ⟨Nat.zero_le _, Nat.zero_le _⟩ (fun u9v H locs hu hP hD hS => ?_)
        refine W.eq (g2 := F0 mi 76 ls [.int (iI (bI (chI x e12 (rA x e12 e13) = 64)))]) rfl ?_
        have hP : va_P D vwCl [(v, .inr (8, [.ref a0, .ref a1, .ref a2, .ref a3, .int (iI (e4)), .ref a5, .int (iI (e6)), .ref a7, .int (iI (e8)), .int (iI (e9)), .int (iI (e10)), .ref a11, .int (iI (e12)), .int (iI ((rA x e12 e13) + bI (chI x e12 (rA x e12 e13) = 64))), .int (iI (e14)), .ref a15])), (a11, fA cyI 60 x), (a15, fA cyI 48 y)] H := hP
        have hD : va_D (fp_A [(v, .inr (8, [.ref a0, .ref a1, .ref a2, .ref a3, .int (iI (e4)), .ref a5, .int (iI (e6)), .ref a7, .int (iI (e8)), .int (iI (e9)), .int (iI (e10)), .ref a11, .int (iI (e12)), .int (iI (e13)), .int (iI (e14)), .ref a15])), (a11, fA cyI 60 x), (a15, fA cyI 48 y)]) [(v, .inr (8, [.ref a0, .ref a1, .ref a2, .ref a3, .int (iI (e4)), .ref a5, .int (iI (e6)), .ref a7, .int (iI (e8)), .int (iI (e9)), .int (iI (e10)), .ref a11, .int (iI (e12)), .int (iI ((rA x e12 e13) + bI (chI x e12 (rA x e12 e13) = 64))), .int (iI (e14)), .ref a15])), (a11, fA cyI 60 x), (a15, fA cyI 48 y)] := hD
        refine fp_if_eq (tgt := 117) hx hb (bI_r32 _) dX8_readsLot_76 (by decide) (fun q76 => ?_) (fun q76 => ?_)
        · skip
          have w76 := bI_e q76
          have n64 := w76
          have hH : rH x e12 e13 = 0 := by unfold rH; rw [if_neg (by omega), bI_f n64]
          have e3 : (0 : Int) = rV x e12 e13 := by unfold rV; rw [if_pos hH]
          have u4 : rC x e12 e13 = rA x e12 e13 := by unfold rC; rw [if_pos hH]
          have u6 : rA x e12 e13 + bI (chI x e12 (rA x e12 e13) = 64) = rC x e12 e13 := by rw [bI_f n64, u4]; omega
          exact jn2 0 ((rA x e12 e13) + bI (chI x e12 (rA x e12 e13) = 64)) e3 (by first | exact u4.symm | exact u6 | exact e7) (by omega) H locs hP hD hS ls (lv_sub hl [2, 3, 1, 0] rfl)
        · skip
          have w76 := bI_ne q76
          have c64 := w76
          have hH : rH x e12 e13 = 1 := by unfold rH; rw [if_neg (by omega), bI_t c64]
          have e3 : chI x e12 (rA x e12 e13 + 1) - 48 = rV x e12 e13 := by unfold rV; rw [if_neg (by omega)]
          have u4 : rC x e12 e13 = rA x e12 e13 + 1 + 1 := by unfold rC; rw [if_neg (by omega)]
          rw [show ((rA x e12 e13) + bI (chI x e12 (rA x e12 e13) = 64) : Int) = rA x e12 e13 + 1 from (by rw [bI_t c64])] at hP hD
          refine lv_aload_n hx hb dX8_readsLot_79 rfl (lv_at hl 2 rfl) ?_
          refine fp_bipush hx hb dX8_readsLot_80 (by decide) ?_
          refine fp_bipush hx hb dX8_readsLot_82 (by decide) ?_
          refine lv_iload_n hx hb dX8_readsLot_84 rfl (lv_at hl 3 rfl) ?_
          refine fp_iadd hx hb dX8_readsLot_85 ?_
          refine fp_pV (As := [.int (iI (48)), .int (iI (48 + (rT x e12 e13)))]) (rest := []) (wsC := [(v, .inr (8, [.ref a0, .ref a1, .ref a2, .ref a3, .int (iI (e4)), .ref a5, .int (iI (e6)), .ref a7, .int (iI (e8)), .int (iI (e9)), .int (iI (e10)), .ref a11, .int (iI (e12)), .int (iI (rA x e12 e13 + 1)), .int (iI (e14)), .ref a15])), (a11, fA cyI 60 x), (a15, fA cyI 48 y)]) ⟨hx, hb, hml, hown, hts⟩ (c_X8_isHere l D cyI v a0 a1 a2 a3 e4 a5 e6 a7 e8 e9 e10 a11 e12 (rA x e12 e13 + 1) e14 a15 x 48 (48 + (rT x e12 e13)) hx0 (by omega) (by omega) (by omega) (by omega)) (cwV 2 hts gX8_readsLot_X8_isHere rfl rfl rfl (by decide +kernel) ⟨Nat.le_of_ble_eq_true rfl, Nat.le_of_ble_eq_true rfl⟩) hK hP hD [0, 1] (by decide) rfl rfl rfl rfl hl.1 rfl (Nat.le_of_ble_eq_true rfl) dX8_readsLot_86 ⟨Nat.zero_le _, Nat.zero_le _⟩ ?_
          refine fp_if_ne (tgt := 94) hx hb (bI_r32 _) dX8_readsLot_89 (by decide) (fun q89 => ?_) (fun q89 => ?_)
          · skip
            have w89 := bI_ne q89
            have hlt2 := chI_lt (x := x) (n := e12) (i := rA x e12 e13 + 1) rfl (by omega)
            have exi2 : x (rA x e12 e13 + 1) = chI x e12 (rA x e12 e13 + 1) := (if_pos ⟨by omega, hlt2⟩).symm
            refine lv_aload_n hx hb dX8_readsLot_94 rfl (lv_at hl 2 rfl) ?_
            refine va_get (D := D) (ci := 8) (ws := [(v, .inr (8, [.ref a0, .ref a1, .ref a2, .ref a3, .int (iI (e4)), .ref a5, .int (iI (e6)), .ref a7, .int (iI (e8)), .int (iI (e9)), .int (iI (e10)), .ref a11, .int (iI (e12)), .int (iI (rA x e12 e13 + 1)), .int (iI (e14)), .ref a15])), (a11, fA cyI 60 x), (a15, fA cyI 48 y)]) (v := .ref a11) (C := RX8) (T := TX8) (N := 16) hx hb hts (fun _ h => List.mem_cons_of_mem _ (List.mem_append_right _ h)) hown hK.1 hP 0 rfl rfl 11 (by decide) (hts _ fl_X8_readsLot_28) (fun _ h9 => h9) rfl dX8_readsLot_95 ?_
            refine lv_aload_n hx hb dX8_readsLot_98 rfl (lv_at hl 2 rfl) ?_
            refine va_get (D := D) (ci := 8) (ws := [(v, .inr (8, [.ref a0, .ref a1, .ref a2, .ref a3, .int (iI (e4)), .ref a5, .int (iI (e6)), .ref a7, .int (iI (e8)), .int (iI (e9)), .int (iI (e10)), .ref a11, .int (iI (e12)), .int (iI (rA x e12 e13 + 1)), .int (iI (e14)), .ref a15])), (a11, fA cyI 60 x), (a15, fA cyI 48 y)]) (v := .int (iI (rA x e12 e13 + 1))) (C := RX8) (T := TX8) (N := 16) hx hb hts (fun _ h => List.mem_cons_of_mem _ (List.mem_append_right _ h)) hown hK.1 hP 0 rfl rfl 13 (by decide) (hts _ fl_X8_readsLot_190) (fun _ h9 => h9) rfl dX8_readsLot_99 ?_
            refine fp_iald (wsC := [(v, .inr (8, [.ref a0, .ref a1, .ref a2, .ref a3, .int (iI (e4)), .ref a5, .int (iI (e6)), .ref a7, .int (iI (e8)), .int (iI (e9)), .int (iI (e10)), .ref a11, .int (iI (e12)), .int (iI (rA x e12 e13 + 1)), .int (iI (e14)), .ref a15])), (a11, fA cyI 60 x), (a15, fA cyI 48 y)]) hx hb hK hP 1 rfl (by omega) (by decide) dX8_readsLot_102 ?_
            rw [show (x (rA x e12 e13 + 1) : Int) = chI x e12 (rA x e12 e13 + 1) from exi2]
            refine fp_bipush hx hb dX8_readsLot_103 (by decide) ?_
            refine fp_isub hx hb dX8_readsLot_105 ?_
            refine lv_istore_n (lv' := [(3, .int (iI ((chI x e12 (rA x e12 e13 + 1)) - 48))), (2, .int (iI (rP x e12 e13))), (0, .ref v), (1, .int (iI (rT x e12 e13)))]) hx hb dX8_readsLot_106 rfl hl (by decide) rfl (fun ls hl => ?_)
            rw [show ((chI x e12 (rA x e12 e13 + 1)) - 48 : Int) = rV x e12 e13 from e3] at hl
            refine lv_aload_n hx hb dX8_readsLot_107 rfl (lv_at hl 2 rfl) ?_
            refine lv_dup hx hb dX8_readsLot_108 rfl ?_
            refine va_get (D := D) (ci := 8) (ws := [(v, .inr (8, [.ref a0, .ref a1, .ref a2, .ref a3, .int (iI (e4)), .ref a5, .int (iI (e6)), .ref a7, .int (iI (e8)), .int (iI (e9)), .int (iI (e10)), .ref a11, .int (iI (e12)), .int (iI (rA x e12 e13 + 1)), .int (iI (e14)), .ref a15])), (a11, fA cyI 60 x), (a15, fA cyI 48 y)]) (v := .int (iI (rA x e12 e13 + 1))) (C := RX8) (T := TX8) (N := 16) hx hb hts (fun _ h => List.mem_cons_of_mem _ (List.mem_append_right _ h)) hown hK.1 hP 0 rfl rfl 13 (by decide) (hts _ fl_X8_readsLot_190) (fun _ h9 => h9) rfl dX8_readsLot_109 ?_
            refine fp_iconst hx hb dX8_readsLot_112 ?_
            refine fp_iadd hx hb dX8_readsLot_113 ?_
            have e3 : rV x e12 e13 = rV x e12 e13 := rfl
            have e7 : rA x e12 e13 + 1 + 1 = rC x e12 e13   := u4.symm
            refine va_put (D := D) (ci := 8) (ws := [(v, .inr (8, [.ref a0, .ref a1, .ref a2, .ref a3, .int (iI (e4)), .ref a5, .int (iI (e6)), .ref a7, .int (iI (e8)), .int (iI (e9)), .int (iI (e10)), .ref a11, .int (iI (e12)), .int (iI (rA x e12 e13 + 1)), .int (iI (e14)), .ref a15])), (a11, fA cyI 60 x), (a15, fA cyI 48 y)]) (v := .int (iI ((rA x e12 e13 + 1) + 1))) (ty := .int) (C := RX8) (T := TX8) (N := 16) hx hb hts (fun _ h => List.mem_cons_of_mem _ (List.mem_append_right _ h)) tyX8 tyX8_ok nmX8 hown hK.1 hP hD hS 0 rfl rfl 13 (by decide) (hts _ fl_X8_readsLot_190) (fun _ h9 => h9) rfl (by decide +kernel) rfl rfl (Nat.le_of_ble_eq_true rfl) dX8_readsLot_114 (fun H locs hP hD hS => ?_)
            have hP : va_P D vwCl [(v, .inr (8, [.ref a0, .ref a1, .ref a2, .ref a3, .int (iI (e4)), .ref a5, .int (iI (e6)), .ref a7, .int (iI (e8)), .int (iI (e9)), .int (iI (e10)), .ref a11, .int (iI (e12)), .int (iI ((rA x e12 e13 + 1) + 1)), .int (iI (e14)), .ref a15])), (a11, fA cyI 60 x), (a15, fA cyI 48 y)] H := hP
            have hD : va_D (fp_A [(v, .inr (8, [.ref a0, .ref a1, .ref a2, .ref a3, .int (iI (e4)), .ref a5, .int (iI (e6)), .ref a7, .int (iI (e8)), .int (iI (e9)), .int (iI (e10)), .ref a11, .int (iI (e12)), .int (iI (e13)), .int (iI (e14)), .ref a15])), (a11, fA cyI 60 x), (a15, fA cyI 48 y)]) [(v, .inr (8, [.ref a0, .ref a1, .ref a2, .ref a3, .int (iI (e4)), .ref a5, .int (iI (e6)), .ref a7, .int (iI (e8)), .int (iI (e9)), .int (iI (e10)), .ref a11, .int (iI (e12)), .int (iI ((rA x e12 e13 + 1) + 1)), .int (iI (e14)), .ref a15])), (a11, fA cyI 60 x), (a15, fA cyI 48 y)] := hD
            exact jn2 (rV x e12 e13) ((rA x e12 e13 + 1) + 1) e3 (by first | exact u4.symm | exact u6 | exact e7) (by omega) H locs hP hD hS ls (lv_sub hl [2, 3, 1, 0] rfl)
          · skip
            have w89 := bI_e q89
            have hK0 : rK x e12 e13 = 0 := by unfold rK; exact bI_f (fun z => by omega)
            have hF0 : rF x e12 e13 = rA x e12 e13 + 1 := by unfold rF; exact if_pos hT
            refine fp_iconst hx hb dX8_readsLot_92 ?_
            have hP : va_P D vwCl [(v, .inr (8, [.ref a0, .ref a1, .ref a2, .ref a3, .int (iI (e4)), .ref a5, .int (iI (e6)), .ref a7, .int (iI (e8)), .int (iI (e9)), .int (iI (e10)), .ref a11, .int (iI (e12)), .int (iI (if rK x e12 e13 = 0 then rF x e12 e13 else rE x e12 e13)), .int (iI (e14 + rK x e12 e13)), .ref a15])), (a11, fA cyI 60 x), (a15, fA cyI 48 (rdM x e12 e13 e14 y))] H := by
              rw [(show (rA x e12 e13 + 1 : Int) = if rK x e12 e13 = 0 then rF x e12 e13 else rE x e12 e13 from (by first | rw [if_pos hK0, hF0] | rw [if_neg (by omega)])).symm]
              rw [(show (y : Int → Int) = rdM x e12 e13 e14 y from (by unfold rdM; exact (if_pos (Or.inl hK0)).symm)).symm]
              rw [(show (e14 : Int) = e14 + rK x e12 e13 from (by first | rw [hK0, Int.add_zero] | rw [hK1])).symm]
              exact hP
            have hret : (rK x e12 e13 : Int) = 0 := (by first | exact hK0 | exact hK1)
            exact fp_wzret () hx hb hr hlocks (by first | exact Or.inl rfl | exact Or.inr rfl | exact bI_01 _ | omega) hS hP trivial (congrArg (fun z : Int => some (Value.int (iI z))) hret) dX8_readsLot_93
    refine lv_aload_n hx hb dX8_readsLot_36 rfl (lv_at hl 1 rfl) ?_
    refine fp_bipush hx hb dX8_readsLot_37 (by decide) ?_
    refine fp_wV (As := [.int (iI (98))]) (rest := []) (wsC := [(v, .inr (8, [.ref a0, .ref a1, .ref a2, .ref a3, .int (iI (e4)), .ref a5, .int (iI (e6)), .ref a7, .int (iI (e8)), .int (iI (e9)), .int (iI (e10)), .ref a11, .int (iI (e12)), .int (iI (e13 + 1)), .int (iI (e14)), .ref a15])), (a11, fA cyI 60 x), (a15, fA cyI 48 y)]) ⟨hx, hb, hml, hown, hts⟩ (c_X8_takes l D cyI v a0 a1 a2 a3 e4 a5 e6 a7 e8 e9 e10 a11 e12 (e13 + 1) e14 a15 x 98 hx0 (by omega) (by omega) (by omega)) (cwV 1 hts gX8_readsLot_X8_takes rfl rfl rfl (by decide +kernel) ⟨Nat.le_of_ble_eq_true rfl, Nat.le_of_ble_eq_true rfl⟩) (fun _ => rfl) hK hP hD hS [0, 1] (by decide) rfl rfl rfl rfl hl.1 rfl (Nat.le_of_ble_eq_true rfl) dX8_readsLot_39 ⟨Nat.zero_le _, Nat.zero_le _⟩ (fun u9v H locs hu hP hD hS => ?_)
    refine W.eq (g2 := F0 mi 42 ls [.int (iI (bI (chI x e12 (e13 + 1) = 98)))]) rfl ?_
    have hP : va_P D vwCl [(v, .inr (8, [.ref a0, .ref a1, .ref a2, .ref a3, .int (iI (e4)), .ref a5, .int (iI (e6)), .ref a7, .int (iI (e8)), .int (iI (e9)), .int (iI (e10)), .ref a11, .int (iI (e12)), .int (iI ((e13 + 1) + bI (chI x e12 (e13 + 1) = 98))), .int (iI (e14)), .ref a15])), (a11, fA cyI 60 x), (a15, fA cyI 48 y)] H := hP
    have hD : va_D (fp_A [(v, .inr (8, [.ref a0, .ref a1, .ref a2, .ref a3, .int (iI (e4)), .ref a5, .int (iI (e6)), .ref a7, .int (iI (e8)), .int (iI (e9)), .int (iI (e10)), .ref a11, .int (iI (e12)), .int (iI (e13)), .int (iI (e14)), .ref a15])), (a11, fA cyI 60 x), (a15, fA cyI 48 y)]) [(v, .inr (8, [.ref a0, .ref a1, .ref a2, .ref a3, .int (iI (e4)), .ref a5, .int (iI (e6)), .ref a7, .int (iI (e8)), .int (iI (e9)), .int (iI (e10)), .ref a11, .int (iI (e12)), .int (iI ((e13 + 1) + bI (chI x e12 (e13 + 1) = 98))), .int (iI (e14)), .ref a15])), (a11, fA cyI 60 x), (a15, fA cyI 48 y)] := hD
    refine fp_if_eq (tgt := 49) hx hb (bI_r32 _) dX8_readsLot_42 (by decide) (fun q42 => ?_) (fun q42 => ?_)
    · skip
      have w42 := bI_e q42
      have n98 : ¬ chI x e12 (e13 + 1) = 98 := w42
      rw [show ((e13 + 1) + bI (chI x e12 (e13 + 1) = 98) : Int) = e13 + 1 from (by rw [bI_f n98, Int.add_zero])] at hP hD
      refine lv_aload_n hx hb dX8_readsLot_49 rfl (lv_at hl 1 rfl) ?_
      refine fp_bipush hx hb dX8_readsLot_50 (by decide) ?_
      refine fp_wV (As := [.int (iI (99))]) (rest := []) (wsC := [(v, .inr (8, [.ref a0, .ref a1, .ref a2, .ref a3, .int (iI (e4)), .ref a5, .int (iI (e6)), .ref a7, .int (iI (e8)), .int (iI (e9)), .int (iI (e10)), .ref a11, .int (iI (e12)), .int (iI (e13 + 1)), .int (iI (e14)), .ref a15])), (a11, fA cyI 60 x), (a15, fA cyI 48 y)]) ⟨hx, hb, hml, hown, hts⟩ (c_X8_takes l D cyI v a0 a1 a2 a3 e4 a5 e6 a7 e8 e9 e10 a11 e12 (e13 + 1) e14 a15 x 99 hx0 (by omega) (by omega) (by omega)) (cwV 1 hts gX8_readsLot_X8_takes rfl rfl rfl (by decide +kernel) ⟨Nat.le_of_ble_eq_true rfl, Nat.le_of_ble_eq_true rfl⟩) (fun _ => rfl) hK hP hD hS [0, 1] (by decide) rfl rfl rfl rfl hl.1 rfl (Nat.le_of_ble_eq_true rfl) dX8_readsLot_52 ⟨Nat.zero_le _, Nat.zero_le _⟩ (fun u9v H locs hu hP hD hS => ?_)
      refine W.eq (g2 := F0 mi 55 ls [.int (iI (bI (chI x e12 (e13 + 1) = 99)))]) rfl ?_
      have hP : va_P D vwCl [(v, .inr (8, [.ref a0, .ref a1, .ref a2, .ref a3, .int (iI (e4)), .ref a5, .int (iI (e6)), .ref a7, .int (iI (e8)), .int (iI (e9)), .int (iI (e10)), .ref a11, .int (iI (e12)), .int (iI ((e13 + 1) + bI (chI x e12 (e13 + 1) = 99))), .int (iI (e14)), .ref a15])), (a11, fA cyI 60 x), (a15, fA cyI 48 y)] H := hP
      have hD : va_D (fp_A [(v, .inr (8, [.ref a0, .ref a1, .ref a2, .ref a3, .int (iI (e4)), .ref a5, .int (iI (e6)), .ref a7, .int (iI (e8)), .int (iI (e9)), .int (iI (e10)), .ref a11, .int (iI (e12)), .int (iI (e13)), .int (iI (e14)), .ref a15])), (a11, fA cyI 60 x), (a15, fA cyI 48 y)]) [(v, .inr (8, [.ref a0, .ref a1, .ref a2, .ref a3, .int (iI (e4)), .ref a5, .int (iI (e6)), .ref a7, .int (iI (e8)), .int (iI (e9)), .int (iI (e10)), .ref a11, .int (iI (e12)), .int (iI ((e13 + 1) + bI (chI x e12 (e13 + 1) = 99))), .int (iI (e14)), .ref a15])), (a11, fA cyI 60 x), (a15, fA cyI 48 y)] := hD
      refine fp_if_eq (tgt := 62) hx hb (bI_r32 _) dX8_readsLot_55 (by decide) (fun q55 => ?_) (fun q55 => ?_)
      · skip
        have w55 := bI_e q55
        have n99 : ¬ chI x e12 (e13 + 1) = 99 := w55
        have e1 : (0 : Int) = rP x e12 e13 := by unfold rP; rw [if_neg n98, if_neg n99]
        have e2 : rA x e12 e13 = e13 + 1 := by unfold rA; rw [if_pos (by omega)]
        rw [show ((e13 + 1) + bI (chI x e12 (e13 + 1) = 99) : Int) = rA x e12 e13 from (by rw [bI_f n99, e2, Int.add_zero])] at hP hD
        refine fp_iconst hx hb dX8_readsLot_62 ?_
        exact jn1 0 (rA x e12 e13) e1 rfl H locs hP hD hS ls (lv_sub hl [1, 0] rfl)
      · skip
        have w55 := bI_ne q55
        have c99 : chI x e12 (e13 + 1) = 99 := w55
        have e1 : (2 : Int) = rP x e12 e13 := by unfold rP; rw [if_neg n98, if_pos c99]
        have e2 : rA x e12 e13 = e13 + 1 + 1 := by unfold rA; rw [if_neg (by omega)]
        rw [show ((e13 + 1) + bI (chI x e12 (e13 + 1) = 99) : Int) = rA x e12 e13 from (by rw [bI_t c99, e2])] at hP hD
        refine fp_iconst hx hb dX8_readsLot_58 ?_
        refine lv_goto (tgt := 63) hx hb dX8_readsLot_59 (by decide) ?_
        exact jn1 2 (rA x e12 e13) e1 rfl H locs hP hD hS ls (lv_sub hl [1, 0] rfl)
    · skip
      have w42 := bI_ne q42
      have c98 : chI x e12 (e13 + 1) = 98 := w42
      have e1 : (1 : Int) = rP x e12 e13 := by unfold rP; rw [if_pos c98]
      have e2 : rA x e12 e13 = e13 + 1 + 1 := by unfold rA; rw [if_neg (by omega)]
      rw [show ((e13 + 1) + bI (chI x e12 (e13 + 1) = 98) : Int) = rA x e12 e13 from (by rw [bI_t c98, e2])] at hP hD
      refine fp_iconst hx hb dX8_readsLot_45 ?_
      refine lv_goto (tgt := 63) hx hb dX8_readsLot_46 (by decide) ?_
      exact jn1 1 (rA x e12 e13) e1 rfl H locs hP hD hS ls (lv_sub hl [1, 0] rfl)
  · skip
    have w8 := bI_e q8
    have n16 : ¬ (1 ≤ rT x e12 e13 ∧ rT x e12 e13 ≤ 3) := by omega
    have hK0 : rK x e12 e13 = 0 := by unfold rK; exact bI_f (fun z => n16 z.1)
    have hF0 : rF x e12 e13 = e13 := by unfold rF; exact if_neg n16
    refine fp_iconst hx hb dX8_readsLot_11 ?_
    have hP : va_P D vwCl [(v, .inr (8, [.ref a0, .ref a1, .ref a2, .ref a3, .int (iI (e4)), .ref a5, .int (iI (e6)), .ref a7, .int (iI (e8)), .int (iI (e9)), .int (iI (e10)), .ref a11, .int (iI (e12)), .int (iI (if rK x e12 e13 = 0 then rF x e12 e13 else rE x e12 e13)), .int (iI (e14 + rK x e12 e13)), .ref a15])), (a11, fA cyI 60 x), (a15, fA cyI 48 (rdM x e12 e13 e14 y))] sx.heap := by
      rw [(show (e13 : Int) = if rK x e12 e13 = 0 then rF x e12 e13 else rE x e12 e13 from (by first | rw [if_pos hK0, hF0] | rw [if_neg (by omega)])).symm]
      rw [(show (y : Int → Int) = rdM x e12 e13 e14 y from (by unfold rdM; exact (if_pos (Or.inl hK0)).symm)).symm]
      rw [(show (e14 : Int) = e14 + rK x e12 e13 from (by first | rw [hK0, Int.add_zero] | rw [hK1])).symm]
      exact hP
    have hret : (rK x e12 e13 : Int) = 0 := (by first | exact hK0 | exact hK1)
    exact fp_wzret () hx hb hr hlocks (by first | exact Or.inl rfl | exact Or.inr rfl | exact bI_01 _ | omega) hS hP trivial (congrArg (fun z : Int => some (Value.int (iI z))) hret) dX8_readsLot_12
