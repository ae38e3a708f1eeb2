/-! the reference: its row of numbers as a catalogue -/
def cM (m : Int → Int) : Int → Int := fun j => if j = 0 then m 5 else if 1 ≤ j ∧ j ≤ 48 then m (6 + 12 * ((j - 1) % 4) + (j - 1) / 4) else m (j - 49)
theorem cM_0 (m : Int → Int) : cM m 0 = m 5 := if_pos rfl
theorem cM_f {m : Int → Int} {k o : Int} (hk : 0 ≤ k ∧ k < 12) (ho : 1 ≤ o ∧ o ≤ 4) : cM m (k * 4 + o) = m (6 + 12 * (o - 1) + k) := by
  unfold cM
  rw [if_neg (by omega), if_pos (by omega)]
  congr 1
  omega
theorem cM_t {m : Int → Int} {k : Int} (hk : 0 ≤ k ∧ k < 12) : cM m (k * 4 + 1) = m (6 + k) := by rw [cM_f hk (by omega)]; congr 1
theorem cM_p {m : Int → Int} {k : Int} (hk : 0 ≤ k ∧ k < 12) : cM m (k * 4 + 2) = m (18 + k) := by rw [cM_f hk (by omega)]; congr 1
theorem cM_b {m : Int → Int} {k : Int} (hk : 0 ≤ k ∧ k < 12) : cM m (k * 4 + 3) = m (30 + k) := by rw [cM_f hk (by omega)]; congr 1
theorem cM_q {m : Int → Int} {k : Int} (hk : 0 ≤ k ∧ k < 12) : cM m (k * 4 + 4) = m (42 + k) := by rw [cM_f hk (by omega)]; congr 1
theorem cM_s {m : Int → Int} {j : Int} (hj : 0 ≤ j ∧ j < 5) : cM m (49 + j) = m j := by
  unfold cM
  rw [if_neg (by omega), if_neg (by omega)]
  congr 1
  omega
/-- a side of a gathering has a plate in colour, as the lots tell it -/
def inC (c : Int → Int) (g s : Int) : Nat → Int
  | 0 => 0
  | k + 1 => if inC c g s k = 1 ∨ (c ((k : Int) * 4 + 2) = 2 ∧ (ppC c (k : Int) - 1) / c (49 + 0) = g ∧ bI (2 ≤ ppC c (k : Int) % 4) = s) then 1 else 0
theorem inC_01 (c : Int → Int) (g s : Int) (n : Nat) : inC c g s n = 0 ∨ inC c g s n = 1 := by
  cases n with
  | zero => exact Or.inl rfl
  | succ n =>
    show (if _ then _ else _) = _ ∨ (if _ then _ else _) = _
    split <;> simp
theorem inC_s {c : Int → Int} {g s k : Int} (h : 0 ≤ k) : inC c g s (k + 1).toNat = if inC c g s k.toNat = 1 ∨ (c (k * 4 + 2) = 2 ∧ (ppC c k - 1) / c (49 + 0) = g ∧ bI (2 ≤ ppC c k % 4) = s) then 1 else 0 := by
  obtain ⟨n, rfl⟩ := Int.eq_ofNat_of_zero_le h
  rfl
theorem inC_iff (c : Int → Int) (g s : Int) : ∀ n : Nat, inC c g s n = 1 ↔ ∃ k : Int, 0 ≤ k ∧ k < n ∧ c (k * 4 + 2) = 2 ∧ (ppC c k - 1) / c (49 + 0) = g ∧ bI (2 ≤ ppC c k % 4) = s := by
  intro n
  induction n with
  | zero =>
    constructor
    · intro h; exact absurd h (by show ¬ (0 : Int) = 1; omega)
    · rintro ⟨k, h1, h2, -⟩; omega
  | succ n ih =>
    show (if inC c g s n = 1 ∨ _ then (1 : Int) else 0) = 1 ↔ _
    by_cases q : inC c g s n = 1 ∨ (c ((n : Int) * 4 + 2) = 2 ∧ (ppC c (n : Int) - 1) / c (49 + 0) = g ∧ bI (2 ≤ ppC c (n : Int) % 4) = s)
    · rw [if_pos q]
      refine ⟨fun _ => ?_, fun _ => rfl⟩
      rcases q with q | q
      · obtain ⟨k, h1, h2, h3⟩ := ih.mp q
        exact ⟨k, h1, by omega, h3⟩
      · exact ⟨n, by omega, by omega, q⟩
    · rw [if_neg q]
      refine ⟨fun h => by omega, ?_⟩
      rintro ⟨k, h1, h2, h3⟩
      exfalso
      by_cases e : k = n
      · subst e; exact q (Or.inr h3)
      · exact q (Or.inl (ih.mpr ⟨k, h1, by omega, h3⟩))
/-- the two ways to tell it agree -/
theorem in_col {c : Int → Int} (hC : CatOK c) {g s : Int} (hg : 0 ≤ g ∧ g < gaC c) : inC c g s (c 0).toNat = colI (kindC c) (c (49 + 0)) g s := by
  have hN := hC.1
  have hX := hC.2.2
  unfold SetOK at hX
  have key : inC c g s (c 0).toNat = 1 ↔ colI (kindC c) (c (49 + 0)) g s = 1 := by
    unfold colI
    rw [inC_iff, anyI_iff]
    constructor
    · rintro ⟨k, h1, h2, h3, h4, h5⟩
      have hk : 0 ≤ k ∧ k < c 0 := by omega
      have hp := pp_b hC hk
      have hl := la_b hC
      have hlen := len_rg hC hk
      have hL := lot_f hC hk
      unfold LotOK at hL
      rw [bI_t (by omega)] at hlen
      have hko := kind_o hC hk (p := ppC c k) (r := c (k * 4 + 4)) (by omega) (by unfold ppC fpC; omega)
      rw [if_pos ⟨by omega, rfl⟩] at hko
      have e1 : g * c (49 + 0) ≤ ppC c k - 1 ∧ ppC c k - 1 < g * c (49 + 0) + c (49 + 0) := by
        rcases hX.1 with e | e | e <;> (rw [e] at h4 ⊢; omega)
      refine ⟨ppC c k - g * c (49 + 0), by omega, by omega, ?_⟩
      unfold hitI
      rw [show g * c (49 + 0) + (ppC c k - g * c (49 + 0)) = ppC c k by omega]
      exact bI_t ⟨h5, by omega⟩
    · rintro ⟨j, h1, h2, h3⟩
      have h4 : bI (2 ≤ (g * c (49 + 0) + j) % 4) = s ∧ kindC c (g * c (49 + 0) + j) = 3 := bI_ne (by unfold hitI at h3; omega)
      have h5 := ga_in hC hg (i := j) (by omega)
      by_cases q : g * c (49 + 0) + j ≤ pgC c (c 0)
      · obtain ⟨k, hk, h6, h7⟩ := page_in hC h5.1 q
        have hL := lot_f hC hk
        have hi := its_rg hC hk
        have hs := pgC_s (c := c) hk.1
        unfold LotOK at hL
        by_cases b : g * c (49 + 0) + j = pgC c k + 1 ∧ ¬ c (k * 4 + 3) = 0
        · have := kind_b hC hk b.2 b.1
          omega
        · have hko := kind_o hC hk (p := g * c (49 + 0) + j) (r := g * c (49 + 0) + j - pgC c k - c (k * 4 + 3) - 1) (by omega) (by omega)
          have hk3 := hko.1
          by_cases r : ¬ c (k * 4 + 2) = 0 ∧ g * c (49 + 0) + j - pgC c k - c (k * 4 + 3) - 1 = c (k * 4 + 4)
          · rw [if_pos r] at hk3
            have ep : ppC c k = g * c (49 + 0) + j := by unfold ppC fpC; omega
            refine ⟨k, hk.1, by omega, by omega, ?_, by rw [ep]; exact h4.1⟩
            rw [ep]
            rcases hX.1 with e | e | e <;> (rw [e] at h2 ⊢; omega)
          · rw [if_neg r] at hk3
            omega
      · have := kind_e hC (p := g * c (49 + 0) + j) (by omega)
        omega
  have h1 := inC_01 c g s (c 0).toNat
  have h2 := anyI_01 (hitI (kindC c) (g * c (49 + 0)) s) (c (49 + 0)).toNat 1
  unfold colI at key ⊢
  omega
theorem oth_m {c : Int → Int} (hC : CatOK c) {q : Int} (hq : 1 ≤ q ∧ q ≤ laC c) : othI q (laC c) = if 1 ≤ (if q % 2 = 0 then q + 1 else q - 1) ∧ (if q % 2 = 0 then q + 1 else q - 1) ≤ laC c then (if q % 2 = 0 then q + 1 else q - 1) else -5 := by
  have hX := hC.2.2
  unfold SetOK at hX
  have hl := la_b hC
  have h4 : laC c % 4 = 0 := by
    have e := hl.2.2.1
    rcases hX.1 with x | x | x <;> (rw [x] at e; omega)
  unfold othI
  by_cases e : q % 2 = 0
  · rw [if_pos e]
    by_cases r : q ≤ 1 ∨ laC c ≤ q
    · rw [if_pos r, if_neg (by omega)]
    · rw [if_neg r, if_pos (by omega)]
  · rw [if_neg e]
    by_cases r : q ≤ 1 ∨ laC c ≤ q
    · rw [if_pos r, if_neg (by omega)]
    · rw [if_neg r, if_pos (by omega)]
theorem lo_rg {c : Int → Int} (hC : CatOK c) {p : Int} (h : 1 ≤ p) : lotC c p = -5 ∨ (0 ≤ lotC c p ∧ lotC c p < c 0) := by
  by_cases q : p ≤ pgC c (c 0)
  · obtain ⟨k, hk, h2, h3⟩ := page_in hC h q
    rw [lotC_at hC hk h2 h3]
    exact Or.inr hk
  · exact Or.inl (lotC_out hC (by omega))
theorem sd_m {q g : Int} (hg : g = 4 ∨ g = 8 ∨ g = 16) (hq : 1 ≤ q ∧ q ≤ 10000) : ((q - 1) % g + 1) % 4 = q % 4 := by
  rcases hg with rfl | rfl | rfl <;> omega
set_option maxHeartbeats 4000000 in
set_option maxRecDepth 100000 in
theorem c_X8_in (l : Launch) (D : va_G) (cyI : ClassId) (x : Int) (y : Int) (z : Int) (hxyz : (-2147483648 ≤ x ∧ x ≤ 2147483647) ∧ (-2147483648 ≤ y ∧ y ≤ 2147483647) ∧ (-2147483648 ≤ z ∧ z ≤ 2147483647)) : fp_M l yX8_in wsX8_in ({ frames := 0, cells := 0, slots := 0, locals := 0 } : Room) D cyI [] [.long (lI (x)), .long (lI (y)), .long (lI (z))] (some (.int (iI (bI (y ≤ x ∧ x ≤ z))))) := by
  refine fp_start (cc := cX8_in) (maxL := 6) (ret := (some .boolean)) (by decide) rfl (Nat.le_of_ble_eq_true rfl) ?_
  intro pg en sx mi ar bl mt cd ls hx hb hr hts hown hlocks hml hnm hP hK hD hl
  have hown : sx.vm.findClass RX8 = some mi.cls := hown
  have hl : lv_has ls 6 [(0, .long (lI (x))), (2, .long (lI (y))), (4, .long (lI (z)))] := hl
  refine lv_lload_n hx hb dX8_in_0 rfl (lv_at hl 0 rfl) ?_
  refine lv_lload_n hx hb dX8_in_1 rfl (lv_at hl 1 rfl) ?_
  refine fp_lcmp_lt (tgt := 17) hx hb (by omega) dX8_in_2 dX8_in_3 (by decide) (fun q2 => ?_) (fun q2 => ?_)
  · skip
    refine fp_iconst hx hb dX8_in_17 ?_
    have hret : (bI (y ≤ x ∧ x ≤ z) : Int) = 0 := (by first | rw [bI_t (by omega)] | rw [bI_f (by omega)])
    exact fp_zret hx hb hr hlocks (by first | exact Or.inl rfl | exact Or.inr rfl | exact bI_01 _ | omega) dX8_in_18 (congrArg (fun z : Int => Value.int (iI z)) hret)
  · skip
    refine lv_lload_n hx hb dX8_in_6 rfl (lv_at hl 0 rfl) ?_
    refine lv_lload hx hb dX8_in_7 (lv_at hl 2 rfl) ?_
    refine fp_lcmp_gt (tgt := 17) hx hb (by omega) dX8_in_9 dX8_in_10 (by decide) (fun q9 => ?_) (fun q9 => ?_)
    · skip
      refine fp_iconst hx hb dX8_in_17 ?_
      have hret : (bI (y ≤ x ∧ x ≤ z) : Int) = 0 := (by first | rw [bI_t (by omega)] | rw [bI_f (by omega)])
      exact fp_zret hx hb hr hlocks (by first | exact Or.inl rfl | exact Or.inr rfl | exact bI_01 _ | omega) dX8_in_18 (congrArg (fun z : Int => Value.int (iI z)) hret)
    · skip
      refine fp_iconst hx hb dX8_in_13 ?_
      refine lv_goto (tgt := 18) hx hb dX8_in_14 (by decide) ?_
      have hret : (bI (y ≤ x ∧ x ≤ z) : Int) = 1 := (by first | rw [bI_t (by omega)] | rw [bI_f (by omega)])
      exact fp_zret hx hb hr hlocks (by first | exact Or.inl rfl | exact Or.inr rfl | exact bI_01 _ | omega) dX8_in_18 (congrArg (fun z : Int => Value.int (iI z)) hret)
theorem fl_X8_isLot_7 : Cond.fieldLink RX8 7 "FacingPlatesModel" "all" "[I" ∈ wsX8_isLot := by decide +kernel
set_option maxHeartbeats 4000000 in
set_option maxRecDepth 100000 in
theorem c_X8_isLot (l : Launch) (D : va_G) (cyI : ClassId) (v : Nat) (a0 : Nat) (a1 : Nat) (a2 : Nat) (a3 : Nat) (e4 : Int) (a5 : Nat) (e6 : Int) (a7 : Nat) (e8 : Int) (e9 : Int) (e10 : Int) (a11 : Nat) (e12 : Int) (e13 : Int) (e14 : Int) (a15 : Nat) (m : Int → Int) (k : Int) (hk9 : -2147483648 ≤ k ∧ k ≤ 2147483647) (hm5 : 0 ≤ m 5 ∧ m 5 ≤ 12) : fp_M l yX8_isLot wsX8_isLot ({ frames := 1, cells := 0, slots := 0, locals := 25 } : Room) D cyI [(v, .inr (8, [.ref a0, .ref a1, .ref a2, .ref a3, .int (iI (e4)), .ref a5, .int (iI (e6)), .ref a7, .int (iI (e8)), .int (iI (e9)), .int (iI (e10)), .ref a11, .int (iI (e12)), .int (iI (e13)), .int (iI (e14)), .ref a15])), (a0, fA cyI 54 m)] [.ref v, .int (iI (k))] (some (.int (iI (bI (0 ≤ k ∧ k < m 5))))) := by
  refine fp_start (cc := cX8_isLot) (maxL := 2) (ret := (some .boolean)) (by decide) rfl (Nat.le_of_ble_eq_true rfl) ?_
  intro pg en sx mi ar bl mt cd ls hx hb hr hts hown hlocks hml hnm hP hK hD hl
  have hown : sx.vm.findClass RX8 = some mi.cls := hown
  have hl : lv_has ls 2 [(0, .ref v), (1, .int (iI (k)))] := hl
  refine lv_iload_n hx hb dX8_isLot_0 rfl (lv_at hl 1 rfl) ?_
  refine fp_i2l hx hb (by omega) dX8_isLot_1 ?_
  refine fp_lconst hx hb 0 dX8_isLot_2 rfl ?_
  refine lv_aload_n hx hb dX8_isLot_3 rfl (lv_at hl 0 rfl) ?_
  refine va_get (D := D) (ci := 8) (ws := [(v, .inr (8, [.ref a0, .ref a1, .ref a2, .ref a3, .int (iI (e4)), .ref a5, .int (iI (e6)), .ref a7, .int (iI (e8)), .int (iI (e9)), .int (iI (e10)), .ref a11, .int (iI (e12)), .int (iI (e13)), .int (iI (e14)), .ref a15])), (a0, fA cyI 54 m)]) (v := .ref a0) (C := RX8) (T := TX8) (N := 16) hx hb hts (fun _ h => List.mem_cons_of_mem _ (List.mem_append_right _ h)) hown hK.1 hP 0 rfl rfl 0 (by decide) (hts _ fl_X8_isLot_7) (fun _ h9 => h9) rfl dX8_isLot_4 ?_
  refine fp_iconst hx hb dX8_isLot_7 ?_
  refine fp_iald (wsC := [(v, .inr (8, [.ref a0, .ref a1, .ref a2, .ref a3, .int (iI (e4)), .ref a5, .int (iI (e6)), .ref a7, .int (iI (e8)), .int (iI (e9)), .int (iI (e10)), .ref a11, .int (iI (e12)), .int (iI (e13)), .int (iI (e14)), .ref a15])), (a0, fA cyI 54 m)]) hx hb hK hP 1 rfl (by omega) (by decide) dX8_isLot_8 ?_
  refine fp_i2l hx hb (by omega) dX8_isLot_9 ?_
  refine fp_lconst hx hb 1 dX8_isLot_10 rfl ?_
  refine fp_lsub hx hb dX8_isLot_11 ?_
  refine fp_pS (As := [.long (lI (k)), .long (lI (0)), .long (lI ((m 5) - 1))]) (rest := []) (wsC := [(v, .inr (8, [.ref a0, .ref a1, .ref a2, .ref a3, .int (iI (e4)), .ref a5, .int (iI (e6)), .ref a7, .int (iI (e8)), .int (iI (e9)), .int (iI (e10)), .ref a11, .int (iI (e12)), .int (iI (e13)), .int (iI (e14)), .ref a15])), (a0, fA cyI 54 m)]) ⟨hx, hb, hml, hown, hts⟩ (c_X8_in l D cyI k 0 ((m 5) - 1) (by omega)) (va_cwS 3 hts gX8_isLot_X8_in rfl rfl rfl (by decide +kernel) ⟨Nat.le_of_ble_eq_true rfl, Nat.le_of_ble_eq_true rfl⟩) hK hP hD [] (by decide) rfl rfl hl.1 rfl (Nat.le_of_ble_eq_true rfl) dX8_isLot_12 ⟨Nat.zero_le _, Nat.zero_le _⟩ ?_
  have hret : (bI (0 ≤ k ∧ k < m 5) : Int) = bI (0 ≤ k ∧ k ≤ ((m 5) - 1)) := (by exact bI_c (by omega))
  exact fp_zret hx hb hr hlocks (by first | exact Or.inl rfl | exact Or.inr rfl | exact bI_01 _ | omega) dX8_isLot_15 (congrArg (fun z : Int => Value.int (iI z)) hret)
theorem fl_X8_textOf_7 : Cond.fieldLink RX8 7 "FacingPlatesModel" "all" "[I" ∈ wsX8_textOf := by decide +kernel
set_option maxHeartbeats 4000000 in
set_option maxRecDepth 100000 in
theorem c_X8_textOf (l : Launch) (D : va_G) (cyI : ClassId) (v : Nat) (a0 : Nat) (a1 : Nat) (a2 : Nat) (a3 : Nat) (e4 : Int) (a5 : Nat) (e6 : Int) (a7 : Nat) (e8 : Int) (e9 : Int) (e10 : Int) (a11 : Nat) (e12 : Int) (e13 : Int) (e14 : Int) (a15 : Nat) (m : Int → Int) (k : Int) (hk : 0 ≤ k ∧ k < 12) : fp_M l yX8_textOf wsX8_textOf ({ frames := 0, cells := 0, slots := 0, locals := 0 } : Room) D cyI [(v, .inr (8, [.ref a0, .ref a1, .ref a2, .ref a3, .int (iI (e4)), .ref a5, .int (iI (e6)), .ref a7, .int (iI (e8)), .int (iI (e9)), .int (iI (e10)), .ref a11, .int (iI (e12)), .int (iI (e13)), .int (iI (e14)), .ref a15])), (a0, fA cyI 54 m)] [.ref v, .int (iI (k))] (some (.int (iI (cM m (k * 4 + 1))))) := by
  refine fp_start (cc := cX8_textOf) (maxL := 2) (ret := (some .int)) (by decide) rfl (Nat.le_of_ble_eq_true rfl) ?_
  intro pg en sx mi ar bl mt cd ls hx hb hr hts hown hlocks hml hnm hP hK hD hl
  have hown : sx.vm.findClass RX8 = some mi.cls := hown
  have hl : lv_has ls 2 [(0, .ref v), (1, .int (iI (k)))] := hl
  refine lv_aload_n hx hb dX8_textOf_0 rfl (lv_at hl 0 rfl) ?_
  refine va_get (D := D) (ci := 8) (ws := [(v, .inr (8, [.ref a0, .ref a1, .ref a2, .ref a3, .int (iI (e4)), .ref a5, .int (iI (e6)), .ref a7, .int (iI (e8)), .int (iI (e9)), .int (iI (e10)), .ref a11, .int (iI (e12)), .int (iI (e13)), .int (iI (e14)), .ref a15])), (a0, fA cyI 54 m)]) (v := .ref a0) (C := RX8) (T := TX8) (N := 16) hx hb hts (fun _ h => List.mem_cons_of_mem _ (List.mem_append_right _ h)) hown hK.1 hP 0 rfl rfl 0 (by decide) (hts _ fl_X8_textOf_7) (fun _ h9 => h9) rfl dX8_textOf_1 ?_
  refine fp_bipush hx hb dX8_textOf_4 (by decide) ?_
  refine lv_iload_n hx hb dX8_textOf_6 rfl (lv_at hl 1 rfl) ?_
  refine fp_iadd hx hb dX8_textOf_7 ?_
  refine fp_iald (wsC := [(v, .inr (8, [.ref a0, .ref a1, .ref a2, .ref a3, .int (iI (e4)), .ref a5, .int (iI (e6)), .ref a7, .int (iI (e8)), .int (iI (e9)), .int (iI (e10)), .ref a11, .int (iI (e12)), .int (iI (e13)), .int (iI (e14)), .ref a15])), (a0, fA cyI 54 m)]) hx hb hK hP 1 rfl (by omega) (by decide) dX8_textOf_8 ?_
  have hret : (cM m (k * 4 + 1) : Int) = m (6 + k) := (by exact cM_t hk)
  exact fp_ret hx hb hr hlocks dX8_textOf_9 (congrArg (fun z : Int => Value.int (iI z)) hret)
theorem fl_X8_hasPlate_7 : Cond.fieldLink RX8 7 "FacingPlatesModel" "all" "[I" ∈ wsX8_hasPlate := by decide +kernel
set_option maxHeartbeats 4000000 in
set_option maxRecDepth 100000 in
theorem c_X8_hasPlate (l : Launch) (D : va_G) (cyI : ClassId) (v : Nat) (a0 : Nat) (a1 : Nat) (a2 : Nat) (a3 : Nat) (e4 : Int) (a5 : Nat) (e6 : Int) (a7 : Nat) (e8 : Int) (e9 : Int) (e10 : Int) (a11 : Nat) (e12 : Int) (e13 : Int) (e14 : Int) (a15 : Nat) (m : Int → Int) (k : Int) (hC : CatOK (cM m)) (hk : 0 ≤ k ∧ k < m 5) : fp_M l yX8_hasPlate wsX8_hasPlate ({ frames := 0, cells := 0, slots := 0, locals := 0 } : Room) D cyI [(v, .inr (8, [.ref a0, .ref a1, .ref a2, .ref a3, .int (iI (e4)), .ref a5, .int (iI (e6)), .ref a7, .int (iI (e8)), .int (iI (e9)), .int (iI (e10)), .ref a11, .int (iI (e12)), .int (iI (e13)), .int (iI (e14)), .ref a15])), (a0, fA cyI 54 m)] [.ref v, .int (iI (k))] (some (.int (iI (bI (¬ cM m (k * 4 + 2) = 0))))) := by
  refine fp_start (cc := cX8_hasPlate) (maxL := 2) (ret := (some .boolean)) (by decide) rfl (Nat.le_of_ble_eq_true rfl) ?_
  intro pg en sx mi ar bl mt cd ls hx hb hr hts hown hlocks hml hnm hP hK hD hl
  have hown : sx.vm.findClass RX8 = some mi.cls := hown
  have hl : lv_has ls 2 [(0, .ref v), (1, .int (iI (k)))] := hl
  have hN := hC.1
  rw [cM_0] at hN
  have hL := lot_f hC (k := k) (by rw [cM_0]; exact hk)
  unfold LotOK at hL
  rw [cM_t (by omega), cM_p (by omega), cM_b (by omega), cM_q (by omega)] at hL
  refine lv_aload_n hx hb dX8_hasPlate_0 rfl (lv_at hl 0 rfl) ?_
  refine va_get (D := D) (ci := 8) (ws := [(v, .inr (8, [.ref a0, .ref a1, .ref a2, .ref a3, .int (iI (e4)), .ref a5, .int (iI (e6)), .ref a7, .int (iI (e8)), .int (iI (e9)), .int (iI (e10)), .ref a11, .int (iI (e12)), .int (iI (e13)), .int (iI (e14)), .ref a15])), (a0, fA cyI 54 m)]) (v := .ref a0) (C := RX8) (T := TX8) (N := 16) hx hb hts (fun _ h => List.mem_cons_of_mem _ (List.mem_append_right _ h)) hown hK.1 hP 0 rfl rfl 0 (by decide) (hts _ fl_X8_hasPlate_7) (fun _ h9 => h9) rfl dX8_hasPlate_1 ?_
  refine fp_bipush hx hb dX8_hasPlate_4 (by decide) ?_
  refine lv_iload_n hx hb dX8_hasPlate_6 rfl (lv_at hl 1 rfl) ?_
  refine fp_iadd hx hb dX8_hasPlate_7 ?_
  refine fp_iald (wsC := [(v, .inr (8, [.ref a0, .ref a1, .ref a2, .ref a3, .int (iI (e4)), .ref a5, .int (iI (e6)), .ref a7, .int (iI (e8)), .int (iI (e9)), .int (iI (e10)), .ref a11, .int (iI (e12)), .int (iI (e13)), .int (iI (e14)), .ref a15])), (a0, fA cyI 54 m)]) hx hb hK hP 1 rfl (by omega) (by decide) dX8_hasPlate_8 ?_
  refine fp_if_le (tgt := 16) hx hb (by omega) dX8_hasPlate_9 (by decide) (fun q9 => ?_) (fun q9 => ?_)
  · skip
    refine fp_iconst hx hb dX8_hasPlate_16 ?_
    have hret : (bI (¬ cM m (k * 4 + 2) = 0) : Int) = 0 := (by rw [cM_p (by omega)]; first | rw [bI_t (by omega)] | rw [bI_f (by omega)])
    exact fp_zret hx hb hr hlocks (by first | exact Or.inl rfl | exact Or.inr rfl | exact bI_01 _ | omega) dX8_hasPlate_17 (congrArg (fun z : Int => Value.int (iI z)) hret)
  · skip
    refine fp_iconst hx hb dX8_hasPlate_12 ?_
    refine lv_goto (tgt := 17) hx hb dX8_hasPlate_13 (by decide) ?_
    have hret : (bI (¬ cM m (k * 4 + 2) = 0) : Int) = 1 := (by rw [cM_p (by omega)]; first | rw [bI_t (by omega)] | rw [bI_f (by omega)])
    exact fp_zret hx hb hr hlocks (by first | exact Or.inl rfl | exact Or.inr rfl | exact bI_01 _ | omega) dX8_hasPlate_17 (congrArg (fun z : Int => Value.int (iI z)) hret)
set_option maxHeartbeats 4000000 in
set_option maxRecDepth 100000 in
theorem c_X8_lengthOf (l : Launch) (D : va_G) (cyI : ClassId) (v : Nat) (a0 : Nat) (a1 : Nat) (a2 : Nat) (a3 : Nat) (e4 : Int) (a5 : Nat) (e6 : Int) (a7 : Nat) (e8 : Int) (e9 : Int) (e10 : Int) (a11 : Nat) (e12 : Int) (e13 : Int) (e14 : Int) (a15 : Nat) (m : Int → Int) (k : Int) (hC : CatOK (cM m)) (hk : 0 ≤ k ∧ k < m 5) : fp_M l yX8_lengthOf wsX8_lengthOf ({ frames := 1, cells := 0, slots := 0, locals := 21 } : Room) D cyI [(v, .inr (8, [.ref a0, .ref a1, .ref a2, .ref a3, .int (iI (e4)), .ref a5, .int (iI (e6)), .ref a7, .int (iI (e8)), .int (iI (e9)), .int (iI (e10)), .ref a11, .int (iI (e12)), .int (iI (e13)), .int (iI (e14)), .ref a15])), (a0, fA cyI 54 m)] [.ref v, .int (iI (k))] (some (.int (iI (lenC (cM m) k)))) := by
  refine fp_start (cc := cX8_lengthOf) (maxL := 2) (ret := (some .int)) (by decide) rfl (Nat.le_of_ble_eq_true rfl) ?_
  intro pg en sx mi ar bl mt cd ls hx hb hr hts hown hlocks hml hnm hP hK hD hl
  have hown : sx.vm.findClass RX8 = some mi.cls := hown
  have hl : lv_has ls 2 [(0, .ref v), (1, .int (iI (k)))] := hl
  have hN := hC.1
  rw [cM_0] at hN
  have hL := lot_f hC (k := k) (by rw [cM_0]; exact hk)
  unfold LotOK at hL
  rw [cM_t (by omega), cM_p (by omega), cM_b (by omega), cM_q (by omega)] at hL
  refine lv_aload_n hx hb dX8_lengthOf_0 rfl (lv_at hl 0 rfl) ?_
  refine lv_iload_n hx hb dX8_lengthOf_1 rfl (lv_at hl 1 rfl) ?_
  refine fp_pV (As := [.int (iI (k))]) (rest := []) (wsC := [(v, .inr (8, [.ref a0, .ref a1, .ref a2, .ref a3, .int (iI (e4)), .ref a5, .int (iI (e6)), .ref a7, .int (iI (e8)), .int (iI (e9)), .int (iI (e10)), .ref a11, .int (iI (e12)), .int (iI (e13)), .int (iI (e14)), .ref a15])), (a0, fA cyI 54 m)]) ⟨hx, hb, hml, hown, hts⟩ (c_X8_textOf l D cyI v a0 a1 a2 a3 e4 a5 e6 a7 e8 e9 e10 a11 e12 e13 e14 a15 m k (by omega)) (cwV 1 hts gX8_lengthOf_X8_textOf rfl rfl rfl (by decide +kernel) ⟨Nat.le_of_ble_eq_true rfl, Nat.le_of_ble_eq_true rfl⟩) hK hP hD [0, 1] (by decide) rfl rfl rfl rfl hl.1 rfl (Nat.le_of_ble_eq_true rfl) dX8_lengthOf_2 ⟨Nat.zero_le _, Nat.zero_le _⟩ ?_
  refine lv_aload_n hx hb dX8_lengthOf_5 rfl (lv_at hl 0 rfl) ?_
  refine lv_iload_n hx hb dX8_lengthOf_6 rfl (lv_at hl 1 rfl) ?_
  refine fp_pV (As := [.int (iI (k))]) (rest := [.int (iI (cM m (k * 4 + 1)))]) (wsC := [(v, .inr (8, [.ref a0, .ref a1, .ref a2, .ref a3, .int (iI (e4)), .ref a5, .int (iI (e6)), .ref a7, .int (iI (e8)), .int (iI (e9)), .int (iI (e10)), .ref a11, .int (iI (e12)), .int (iI (e13)), .int (iI (e14)), .ref a15])), (a0, fA cyI 54 m)]) ⟨hx, hb, hml, hown, hts⟩ (c_X8_hasPlate l D cyI v a0 a1 a2 a3 e4 a5 e6 a7 e8 e9 e10 a11 e12 e13 e14 a15 m k hC (by omega)) (cwV 1 hts gX8_lengthOf_X8_hasPlate rfl rfl rfl (by decide +kernel) ⟨Nat.le_of_ble_eq_true rfl, Nat.le_of_ble_eq_true rfl⟩) hK hP hD [0, 1] (by decide) rfl rfl rfl rfl hl.1 rfl (Nat.le_of_ble_eq_true rfl) dX8_lengthOf_7 ⟨Nat.zero_le _, Nat.zero_le _⟩ ?_
  refine fp_if_eq (tgt := 17) hx hb (bI_r32 _) dX8_lengthOf_10 (by decide) (fun q10 => ?_) (fun q10 => ?_)
  · skip
    have w10 := bI_e q10
    refine fp_iconst hx hb dX8_lengthOf_17 ?_
    refine fp_iadd hx hb dX8_lengthOf_18 ?_
    have hret : (lenC (cM m) k : Int) = (cM m (k * 4 + 1)) + 0 := (by unfold lenC; first | rw [bI_t w10] | rw [bI_f w10])
    exact fp_ret hx hb hr hlocks dX8_lengthOf_19 (congrArg (fun z : Int => Value.int (iI z)) hret)
  · skip
    have w10 := bI_ne q10
    refine fp_iconst hx hb dX8_lengthOf_13 ?_
    refine lv_goto (tgt := 18) hx hb dX8_lengthOf_14 (by decide) ?_
    refine fp_iadd hx hb dX8_lengthOf_18 ?_
    have hret : (lenC (cM m) k : Int) = (cM m (k * 4 + 1)) + 1 := (by unfold lenC; first | rw [bI_t w10] | rw [bI_f w10])
    exact fp_ret hx hb hr hlocks dX8_lengthOf_19 (congrArg (fun z : Int => Value.int (iI z)) hret)
theorem fl_X8_pagesOfLots_7 : Cond.fieldLink RX8 7 "FacingPlatesModel" "all" "[I" ∈ wsX8_pagesOfLots := by decide +kernel
set_option maxHeartbeats 4000000 in
set_option maxRecDepth 100000 in
theorem c_X8_pagesOfLots (l : Launch) (D : va_G) (cyI : ClassId) (v : Nat) (a0 : Nat) (a1 : Nat) (a2 : Nat) (a3 : Nat) (e4 : Int) (a5 : Nat) (e6 : Int) (a7 : Nat) (e8 : Int) (e9 : Int) (e10 : Int) (a11 : Nat) (e12 : Int) (e13 : Int) (e14 : Int) (a15 : Nat) (m : Int → Int) (hC : CatOK (cM m)) : fp_M l yX8_pagesOfLots wsX8_pagesOfLots ({ frames := 2, cells := 0, slots := 0, locals := 42 } : Room) D cyI [(v, .inr (8, [.ref a0, .ref a1, .ref a2, .ref a3, .int (iI (e4)), .ref a5, .int (iI (e6)), .ref a7, .int (iI (e8)), .int (iI (e9)), .int (iI (e10)), .ref a11, .int (iI (e12)), .int (iI (e13)), .int (iI (e14)), .ref a15])), (a0, fA cyI 54 m)] [.ref v] (some (.int (iI (pgC (cM m) (cM m 0))))) := by
  refine fp_start (cc := cX8_pagesOfLots) (maxL := 3) (ret := (some .int)) (by decide) rfl (Nat.le_of_ble_eq_true rfl) ?_
  intro pg en sx mi ar bl mt cd ls hx hb hr hts hown hlocks hml hnm hP hK hD hl
  have hown : sx.vm.findClass RX8 = some mi.cls := hown
  have hl : lv_has ls 3 [(0, .ref v)] := hl
  have hN := hC.1
  rw [cM_0] at hN
  refine fp_iconst hx hb dX8_pagesOfLots_0 ?_
  refine lv_istore_n (lv' := [(1, .int (iI (0))), (0, .ref v)]) hx hb dX8_pagesOfLots_1 rfl hl (by decide) rfl (fun ls hl => ?_)
  refine fp_iconst hx hb dX8_pagesOfLots_2 ?_
  refine lv_istore_n (lv' := [(2, .int (iI (0))), (1, .int (iI (0))), (0, .ref v)]) hx hb dX8_pagesOfLots_3 rfl hl (by decide) rfl (fun ls hl => ?_)
  have hl := lv_sub hl (l' := [(0, .ref v), (1, .int (iI (0))), (2, .int (iI (0)))]) [2, 1, 0] rfl
  have lp0 : ∀ (nf : Nat) (x : Int) (k : Int), (0 ≤ k ∧ k ≤ m 5) → (x = pgC (cM m) k) → (m 5 + 1 ≤ k + (nf : Int)) → ∀ (ls : Array Slot), lv_has ls 3 [(0, .ref v), (1, .int (iI (x))), (2, .int (iI (k)))] → W pg l en ({ frames := 2, cells := 0, slots := 0, locals := 42 } : Room) sx mi ar bl mt cd sx.heap [] 0 0 (MQ bl (fp_Qp (some (.int (iI (pgC (cM m) (cM m 0)))))) ar sx 0 0 (fun _ => False)) (F0 mi 4 ls []) := by
    intro nf
    induction nf with
    | zero =>
      intro x k ik ix hfuel
      exact absurd hfuel (by omega)
    | succ nf ih0 =>
      intro x k ik ix hfuel ls hl
      refine lv_iload_n hx hb dX8_pagesOfLots_4 rfl (lv_at hl 2 rfl) ?_
      refine lv_aload_n hx hb dX8_pagesOfLots_5 rfl (lv_at hl 0 rfl) ?_
      refine va_get (D := D) (ci := 8) (ws := [(v, .inr (8, [.ref a0, .ref a1, .ref a2, .ref a3, .int (iI (e4)), .ref a5, .int (iI (e6)), .ref a7, .int (iI (e8)), .int (iI (e9)), .int (iI (e10)), .ref a11, .int (iI (e12)), .int (iI (e13)), .int (iI (e14)), .ref a15])), (a0, fA cyI 54 m)]) (v := .ref a0) (C := RX8) (T := TX8) (N := 16) hx hb hts (fun _ h => List.mem_cons_of_mem _ (List.mem_append_right _ h)) hown hK.1 hP 0 rfl rfl 0 (by decide) (hts _ fl_X8_pagesOfLots_7) (fun _ h9 => h9) rfl dX8_pagesOfLots_6 ?_
      refine fp_iconst hx hb dX8_pagesOfLots_9 ?_
      refine fp_iald (wsC := [(v, .inr (8, [.ref a0, .ref a1, .ref a2, .ref a3, .int (iI (e4)), .ref a5, .int (iI (e6)), .ref a7, .int (iI (e8)), .int (iI (e9)), .int (iI (e10)), .ref a11, .int (iI (e12)), .int (iI (e13)), .int (iI (e14)), .ref a15])), (a0, fA cyI 54 m)]) hx hb hK hP 1 rfl (by omega) (by decide) dX8_pagesOfLots_10 ?_
      refine fp_icmp_ge (tgt := 38) hx hb (by omega) dX8_pagesOfLots_11 (by decide) (fun q11 => ?_) (fun q11 => ?_)
      · skip
        refine lv_iload_n hx hb dX8_pagesOfLots_38 rfl (lv_at hl 1 rfl) ?_
        have hret : (pgC (cM m) (cM m 0) : Int) = x := (by rw [ix, cM_0]; congr 1; omega)
        exact fp_ret hx hb hr hlocks dX8_pagesOfLots_39 (congrArg (fun z : Int => Value.int (iI z)) hret)
      · skip
        refine lv_iload_n hx hb dX8_pagesOfLots_14 rfl (lv_at hl 1 rfl) ?_
        refine lv_aload_n hx hb dX8_pagesOfLots_15 rfl (lv_at hl 0 rfl) ?_
        refine va_get (D := D) (ci := 8) (ws := [(v, .inr (8, [.ref a0, .ref a1, .ref a2, .ref a3, .int (iI (e4)), .ref a5, .int (iI (e6)), .ref a7, .int (iI (e8)), .int (iI (e9)), .int (iI (e10)), .ref a11, .int (iI (e12)), .int (iI (e13)), .int (iI (e14)), .ref a15])), (a0, fA cyI 54 m)]) (v := .ref a0) (C := RX8) (T := TX8) (N := 16) hx hb hts (fun _ h => List.mem_cons_of_mem _ (List.mem_append_right _ h)) hown hK.1 hP 0 rfl rfl 0 (by decide) (hts _ fl_X8_pagesOfLots_7) (fun _ h9 => h9) rfl dX8_pagesOfLots_16 ?_
        refine fp_bipush hx hb dX8_pagesOfLots_19 (by decide) ?_
        refine lv_iload_n hx hb dX8_pagesOfLots_21 rfl (lv_at hl 2 rfl) ?_
        refine fp_iadd hx hb dX8_pagesOfLots_22 ?_
        refine fp_iald (wsC := [(v, .inr (8, [.ref a0, .ref a1, .ref a2, .ref a3, .int (iI (e4)), .ref a5, .int (iI (e6)), .ref a7, .int (iI (e8)), .int (iI (e9)), .int (iI (e10)), .ref a11, .int (iI (e12)), .int (iI (e13)), .int (iI (e14)), .ref a15])), (a0, fA cyI 54 m)]) hx hb hK hP 1 rfl (by omega) (by decide) dX8_pagesOfLots_23 ?_
        refine lv_aload_n hx hb dX8_pagesOfLots_24 rfl (lv_at hl 0 rfl) ?_
        refine lv_iload_n hx hb dX8_pagesOfLots_25 rfl (lv_at hl 2 rfl) ?_
        refine fp_pV (As := [.int (iI (k))]) (rest := [.int (iI (m (30 + k))), .int (iI (x))]) (wsC := [(v, .inr (8, [.ref a0, .ref a1, .ref a2, .ref a3, .int (iI (e4)), .ref a5, .int (iI (e6)), .ref a7, .int (iI (e8)), .int (iI (e9)), .int (iI (e10)), .ref a11, .int (iI (e12)), .int (iI (e13)), .int (iI (e14)), .ref a15])), (a0, fA cyI 54 m)]) ⟨hx, hb, hml, hown, hts⟩ (c_X8_lengthOf l D cyI v a0 a1 a2 a3 e4 a5 e6 a7 e8 e9 e10 a11 e12 e13 e14 a15 m k hC (by omega)) (cwV 1 hts gX8_pagesOfLots_X8_lengthOf rfl rfl rfl (by decide +kernel) ⟨Nat.le_of_ble_eq_true rfl, Nat.le_of_ble_eq_true rfl⟩) hK hP hD [0, 1] (by decide) rfl rfl rfl rfl hl.1 rfl (Nat.le_of_ble_eq_true rfl) dX8_pagesOfLots_26 ⟨Nat.zero_le _, Nat.zero_le _⟩ ?_
        refine fp_iadd hx hb dX8_pagesOfLots_29 ?_
        refine fp_iadd hx hb dX8_pagesOfLots_30 ?_
        refine lv_istore_n (lv' := [(1, .int (iI (x + ((m (30 + k)) + (lenC (cM m) k))))), (0, .ref v), (2, .int (iI (k)))]) hx hb dX8_pagesOfLots_31 rfl hl (by decide) rfl (fun ls hl => ?_)
        refine fp_iinc (k := 2) (lv' := [(2, .int (iI (k + 1))), (1, .int (iI (x + ((m (30 + k)) + (lenC (cM m) k))))), (0, .ref v)]) hx hb dX8_pagesOfLots_32 hl rfl (by decide) rfl (fun ls hl => ?_)
        refine lv_goto (tgt := 4) hx hb dX8_pagesOfLots_35 (by decide) ?_
        exact ih0 (x + ((m (30 + k)) + (lenC (cM m) k))) (k + 1) (by omega) (by rw [ix, pgC_s ik.1, ← cM_b (m := m) (k := k) (by omega)]; rfl) (by omega) ls (lv_sub hl [2, 1, 0] rfl)
  exact lp0 (((m 5 : Int) + 1 - (0)).toNat) 0 0 (by omega) rfl (by omega) ls hl
theorem fl_X8_gatheringsFor_7 : Cond.fieldLink RX8 7 "FacingPlatesModel" "all" "[I" ∈ wsX8_gatheringsFor := by decide +kernel
set_option maxHeartbeats 4000000 in
set_option maxRecDepth 100000 in
theorem c_X8_gatheringsFor (l : Launch) (D : va_G) (cyI : ClassId) (v : Nat) (a0 : Nat) (a1 : Nat) (a2 : Nat) (a3 : Nat) (e4 : Int) (a5 : Nat) (e6 : Int) (a7 : Nat) (e8 : Int) (e9 : Int) (e10 : Int) (a11 : Nat) (e12 : Int) (e13 : Int) (e14 : Int) (a15 : Nat) (m : Int → Int) (q : Int) (hC : CatOK (cM m)) (hq : 0 ≤ q ∧ q ≤ 10000) : fp_M l yX8_gatheringsFor wsX8_gatheringsFor ({ frames := 0, cells := 0, slots := 0, locals := 0 } : Room) D cyI [(v, .inr (8, [.ref a0, .ref a1, .ref a2, .ref a3, .int (iI (e4)), .ref a5, .int (iI (e6)), .ref a7, .int (iI (e8)), .int (iI (e9)), .int (iI (e10)), .ref a11, .int (iI (e12)), .int (iI (e13)), .int (iI (e14)), .ref a15])), (a0, fA cyI 54 m)] [.ref v, .int (iI (q))] (some (.int (iI (gfI q (cM m (49 + 0)))))) := by
  refine fp_start (cc := cX8_gatheringsFor) (maxL := 2) (ret := (some .int)) (by decide) rfl (Nat.le_of_ble_eq_true rfl) ?_
  intro pg en sx mi ar bl mt cd ls hx hb hr hts hown hlocks hml hnm hP hK hD hl
  have hown : sx.vm.findClass RX8 = some mi.cls := hown
  have hl : lv_has ls 2 [(0, .ref v), (1, .int (iI (q)))] := hl
  have hN := hC.1
  rw [cM_0] at hN
  have hX := hC.2.2
  unfold SetOK at hX
  have eG : cM m (49 + 0) = m 0 := cM_s (by omega)
  rw [eG] at hX
  have hX0 := hX.1
  refine lv_iload_n hx hb dX8_gatheringsFor_0 rfl (lv_at hl 1 rfl) ?_
  refine lv_aload_n hx hb dX8_gatheringsFor_1 rfl (lv_at hl 0 rfl) ?_
  refine va_get (D := D) (ci := 8) (ws := [(v, .inr (8, [.ref a0, .ref a1, .ref a2, .ref a3, .int (iI (e4)), .ref a5, .int (iI (e6)), .ref a7, .int (iI (e8)), .int (iI (e9)), .int (iI (e10)), .ref a11, .int (iI (e12)), .int (iI (e13)), .int (iI (e14)), .ref a15])), (a0, fA cyI 54 m)]) (v := .ref a0) (C := RX8) (T := TX8) (N := 16) hx hb hts (fun _ h => List.mem_cons_of_mem _ (List.mem_append_right _ h)) hown hK.1 hP 0 rfl rfl 0 (by decide) (hts _ fl_X8_gatheringsFor_7) (fun _ h9 => h9) rfl dX8_gatheringsFor_2 ?_
  refine fp_iconst hx hb dX8_gatheringsFor_5 ?_
  refine fp_iald (wsC := [(v, .inr (8, [.ref a0, .ref a1, .ref a2, .ref a3, .int (iI (e4)), .ref a5, .int (iI (e6)), .ref a7, .int (iI (e8)), .int (iI (e9)), .int (iI (e10)), .ref a11, .int (iI (e12)), .int (iI (e13)), .int (iI (e14)), .ref a15])), (a0, fA cyI 54 m)]) hx hb hK hP 1 rfl (by omega) (by decide) dX8_gatheringsFor_6 ?_
  refine fp_iadd hx hb dX8_gatheringsFor_7 ?_
  refine fp_iconst hx hb dX8_gatheringsFor_8 ?_
  refine fp_isub hx hb dX8_gatheringsFor_9 ?_
  refine lv_aload_n hx hb dX8_gatheringsFor_10 rfl (lv_at hl 0 rfl) ?_
  refine va_get (D := D) (ci := 8) (ws := [(v, .inr (8, [.ref a0, .ref a1, .ref a2, .ref a3, .int (iI (e4)), .ref a5, .int (iI (e6)), .ref a7, .int (iI (e8)), .int (iI (e9)), .int (iI (e10)), .ref a11, .int (iI (e12)), .int (iI (e13)), .int (iI (e14)), .ref a15])), (a0, fA cyI 54 m)]) (v := .ref a0) (C := RX8) (T := TX8) (N := 16) hx hb hts (fun _ h => List.mem_cons_of_mem _ (List.mem_append_right _ h)) hown hK.1 hP 0 rfl rfl 0 (by decide) (hts _ fl_X8_gatheringsFor_7) (fun _ h9 => h9) rfl dX8_gatheringsFor_11 ?_
  refine fp_iconst hx hb dX8_gatheringsFor_14 ?_
  refine fp_iald (wsC := [(v, .inr (8, [.ref a0, .ref a1, .ref a2, .ref a3, .int (iI (e4)), .ref a5, .int (iI (e6)), .ref a7, .int (iI (e8)), .int (iI (e9)), .int (iI (e10)), .ref a11, .int (iI (e12)), .int (iI (e13)), .int (iI (e14)), .ref a15])), (a0, fA cyI 54 m)]) hx hb hK hP 1 rfl (by omega) (by decide) dX8_gatheringsFor_15 ?_
  refine fp_idiv hx hb (by omega) dX8_gatheringsFor_16 ?_
  have hret : (gfI q (cM m (49 + 0)) : Int) = ((q + (m 0)) - 1) / (m 0) := (by rw [eG]; rfl)
  exact fp_ret hx hb hr hlocks dX8_gatheringsFor_17 (congrArg (fun z : Int => Value.int (iI z)) hret)
set_option maxHeartbeats 4000000 in
set_option maxRecDepth 100000 in
theorem c_X8_gatherings (l : Launch) (D : va_G) (cyI : ClassId) (v : Nat) (a0 : Nat) (a1 : Nat) (a2 : Nat) (a3 : Nat) (e4 : Int) (a5 : Nat) (e6 : Int) (a7 : Nat) (e8 : Int) (e9 : Int) (e10 : Int) (a11 : Nat) (e12 : Int) (e13 : Int) (e14 : Int) (a15 : Nat) (m : Int → Int) (hC : CatOK (cM m)) : fp_M l yX8_gatherings wsX8_gatherings ({ frames := 3, cells := 0, slots := 0, locals := 64 } : Room) D cyI [(v, .inr (8, [.ref a0, .ref a1, .ref a2, .ref a3, .int (iI (e4)), .ref a5, .int (iI (e6)), .ref a7, .int (iI (e8)), .int (iI (e9)), .int (iI (e10)), .ref a11, .int (iI (e12)), .int (iI (e13)), .int (iI (e14)), .ref a15])), (a0, fA cyI 54 m)] [.ref v] (some (.int (iI (gaC (cM m))))) := by
  refine fp_start (cc := cX8_gatherings) (maxL := 1) (ret := (some .int)) (by decide) rfl (Nat.le_of_ble_eq_true rfl) ?_
  intro pg en sx mi ar bl mt cd ls hx hb hr hts hown hlocks hml hnm hP hK hD hl
  have hown : sx.vm.findClass RX8 = some mi.cls := hown
  have hl : lv_has ls 1 [(0, .ref v)] := hl
  have hN := hC.1
  rw [cM_0] at hN
  have hl5 := la_b hC
  refine lv_aload_n hx hb dX8_gatherings_0 rfl (lv_at hl 0 rfl) ?_
  refine lv_aload_n hx hb dX8_gatherings_1 rfl (lv_at hl 0 rfl) ?_
  refine fp_pV (As := []) (rest := [.ref v]) (wsC := [(v, .inr (8, [.ref a0, .ref a1, .ref a2, .ref a3, .int (iI (e4)), .ref a5, .int (iI (e6)), .ref a7, .int (iI (e8)), .int (iI (e9)), .int (iI (e10)), .ref a11, .int (iI (e12)), .int (iI (e13)), .int (iI (e14)), .ref a15])), (a0, fA cyI 54 m)]) ⟨hx, hb, hml, hown, hts⟩ (c_X8_pagesOfLots l D cyI v a0 a1 a2 a3 e4 a5 e6 a7 e8 e9 e10 a11 e12 e13 e14 a15 m hC) (cwV 0 hts gX8_gatherings_X8_pagesOfLots rfl rfl rfl (by decide +kernel) ⟨Nat.le_of_ble_eq_true rfl, Nat.le_of_ble_eq_true rfl⟩) hK hP hD [0, 1] (by decide) rfl rfl rfl rfl hl.1 rfl (Nat.le_of_ble_eq_true rfl) dX8_gatherings_2 ⟨Nat.zero_le _, Nat.zero_le _⟩ ?_
  refine fp_pV (As := [.int (iI (pgC (cM m) (cM m 0)))]) (rest := []) (wsC := [(v, .inr (8, [.ref a0, .ref a1, .ref a2, .ref a3, .int (iI (e4)), .ref a5, .int (iI (e6)), .ref a7, .int (iI (e8)), .int (iI (e9)), .int (iI (e10)), .ref a11, .int (iI (e12)), .int (iI (e13)), .int (iI (e14)), .ref a15])), (a0, fA cyI 54 m)]) ⟨hx, hb, hml, hown, hts⟩ (c_X8_gatheringsFor l D cyI v a0 a1 a2 a3 e4 a5 e6 a7 e8 e9 e10 a11 e12 e13 e14 a15 m (pgC (cM m) (cM m 0)) hC (by omega)) (cwV 1 hts gX8_gatherings_X8_gatheringsFor rfl rfl rfl (by decide +kernel) ⟨Nat.le_of_ble_eq_true rfl, Nat.le_of_ble_eq_true rfl⟩) hK hP hD [0, 1] (by decide) rfl rfl rfl rfl hl.1 rfl (Nat.le_of_ble_eq_true rfl) dX8_gatherings_5 ⟨Nat.zero_le _, Nat.zero_le _⟩ ?_
  have hret : (gaC (cM m) : Int) = gfI (pgC (cM m) (cM m 0)) (cM m (49 + 0)) := (by first | rfl | omega | (unfold bI; split <;> first | rfl | omega))
  exact fp_ret hx hb hr hlocks dX8_gatherings_8 (congrArg (fun z : Int => Value.int (iI z)) hret)
theorem fl_X8_firstPage_7 : Cond.fieldLink RX8 7 "FacingPlatesModel" "all" "[I" ∈ wsX8_firstPage := by decide +kernel
set_option maxHeartbeats 4000000 in
set_option maxRecDepth 100000 in
theorem c_X8_firstPage (l : Launch) (D : va_G) (cyI : ClassId) (v : Nat) (a0 : Nat) (a1 : Nat) (a2 : Nat) (a3 : Nat) (e4 : Int) (a5 : Nat) (e6 : Int) (a7 : Nat) (e8 : Int) (e9 : Int) (e10 : Int) (a11 : Nat) (e12 : Int) (e13 : Int) (e14 : Int) (a15 : Nat) (m : Int → Int) (k : Int) (hC : CatOK (cM m)) (hk : 0 ≤ k ∧ k < m 5) : fp_M l yX8_firstPage wsX8_firstPage ({ frames := 2, cells := 0, slots := 0, locals := 42 } : Room) D cyI [(v, .inr (8, [.ref a0, .ref a1, .ref a2, .ref a3, .int (iI (e4)), .ref a5, .int (iI (e6)), .ref a7, .int (iI (e8)), .int (iI (e9)), .int (iI (e10)), .ref a11, .int (iI (e12)), .int (iI (e13)), .int (iI (e14)), .ref a15])), (a0, fA cyI 54 m)] [.ref v, .int (iI (k))] (some (.int (iI (fpC (cM m) k)))) := by
  refine fp_start (cc := cX8_firstPage) (maxL := 4) (ret := (some .int)) (by decide) rfl (Nat.le_of_ble_eq_true rfl) ?_
  intro pg en sx mi ar bl mt cd ls hx hb hr hts hown hlocks hml hnm hP hK hD hl
  have hown : sx.vm.findClass RX8 = some mi.cls := hown
  have hl : lv_has ls 4 [(0, .ref v), (1, .int (iI (k)))] := hl
  have hN := hC.1
  rw [cM_0] at hN
  have hL := lot_f hC (k := k) (by rw [cM_0]; exact hk)
  unfold LotOK at hL
  rw [cM_t (by omega), cM_p (by omega), cM_b (by omega), cM_q (by omega)] at hL
  refine fp_iconst hx hb dX8_firstPage_0 ?_
  refine lv_istore_n (lv' := [(2, .int (iI (1))), (0, .ref v), (1, .int (iI (k)))]) hx hb dX8_firstPage_1 rfl hl (by decide) rfl (fun ls hl => ?_)
  refine fp_iconst hx hb dX8_firstPage_2 ?_
  refine lv_istore_n (lv' := [(3, .int (iI (0))), (2, .int (iI (1))), (0, .ref v), (1, .int (iI (k)))]) hx hb dX8_firstPage_3 rfl hl (by decide) rfl (fun ls hl => ?_)
  have hl := lv_sub hl (l' := [(0, .ref v), (1, .int (iI (k))), (2, .int (iI (1))), (3, .int (iI (0)))]) [2, 3, 1, 0] rfl
  have lp0 : ∀ (nf : Nat) (x : Int) (i : Int), (0 ≤ i ∧ i ≤ k) → (x = pgC (cM m) i + 1) → (k + 1 ≤ i + (nf : Int)) → ∀ (ls : Array Slot), lv_has ls 4 [(0, .ref v), (1, .int (iI (k))), (2, .int (iI (x))), (3, .int (iI (i)))] → W pg l en ({ frames := 2, cells := 0, slots := 0, locals := 42 } : Room) sx mi ar bl mt cd sx.heap [] 0 0 (MQ bl (fp_Qp (some (.int (iI (fpC (cM m) k))))) ar sx 0 0 (fun _ => False)) (F0 mi 4 ls []) := by
    intro nf
    induction nf with
    | zero =>
      intro x i ik ix hfuel
      exact absurd hfuel (by omega)
    | succ nf ih0 =>
      intro x i ik ix hfuel ls hl
      refine lv_iload_n hx hb dX8_firstPage_4 rfl (lv_at hl 3 rfl) ?_
      refine lv_iload_n hx hb dX8_firstPage_5 rfl (lv_at hl 1 rfl) ?_
      refine fp_icmp_ge (tgt := 33) hx hb (by omega) dX8_firstPage_6 (by decide) (fun q6 => ?_) (fun q6 => ?_)
      · skip
        refine lv_iload_n hx hb dX8_firstPage_33 rfl (lv_at hl 2 rfl) ?_
        refine lv_aload_n hx hb dX8_firstPage_34 rfl (lv_at hl 0 rfl) ?_
        refine va_get (D := D) (ci := 8) (ws := [(v, .inr (8, [.ref a0, .ref a1, .ref a2, .ref a3, .int (iI (e4)), .ref a5, .int (iI (e6)), .ref a7, .int (iI (e8)), .int (iI (e9)), .int (iI (e10)), .ref a11, .int (iI (e12)), .int (iI (e13)), .int (iI (e14)), .ref a15])), (a0, fA cyI 54 m)]) (v := .ref a0) (C := RX8) (T := TX8) (N := 16) hx hb hts (fun _ h => List.mem_cons_of_mem _ (List.mem_append_right _ h)) hown hK.1 hP 0 rfl rfl 0 (by decide) (hts _ fl_X8_firstPage_7) (fun _ h9 => h9) rfl dX8_firstPage_35 ?_
        refine fp_bipush hx hb dX8_firstPage_38 (by decide) ?_
        refine lv_iload_n hx hb dX8_firstPage_40 rfl (lv_at hl 1 rfl) ?_
        refine fp_iadd hx hb dX8_firstPage_41 ?_
        refine fp_iald (wsC := [(v, .inr (8, [.ref a0, .ref a1, .ref a2, .ref a3, .int (iI (e4)), .ref a5, .int (iI (e6)), .ref a7, .int (iI (e8)), .int (iI (e9)), .int (iI (e10)), .ref a11, .int (iI (e12)), .int (iI (e13)), .int (iI (e14)), .ref a15])), (a0, fA cyI 54 m)]) hx hb hK hP 1 rfl (by omega) (by decide) dX8_firstPage_42 ?_
        refine fp_iadd hx hb dX8_firstPage_43 ?_
        have hret : (fpC (cM m) k : Int) = x + (m (30 + k)) := (by rw [ix, show i = k by omega, ← cM_b (m := m) (k := k) (by omega)]; unfold fpC; omega)
        exact fp_ret hx hb hr hlocks dX8_firstPage_44 (congrArg (fun z : Int => Value.int (iI z)) hret)
      · skip
        refine lv_iload_n hx hb dX8_firstPage_9 rfl (lv_at hl 2 rfl) ?_
        refine lv_aload_n hx hb dX8_firstPage_10 rfl (lv_at hl 0 rfl) ?_
        refine va_get (D := D) (ci := 8) (ws := [(v, .inr (8, [.ref a0, .ref a1, .ref a2, .ref a3, .int (iI (e4)), .ref a5, .int (iI (e6)), .ref a7, .int (iI (e8)), .int (iI (e9)), .int (iI (e10)), .ref a11, .int (iI (e12)), .int (iI (e13)), .int (iI (e14)), .ref a15])), (a0, fA cyI 54 m)]) (v := .ref a0) (C := RX8) (T := TX8) (N := 16) hx hb hts (fun _ h => List.mem_cons_of_mem _ (List.mem_append_right _ h)) hown hK.1 hP 0 rfl rfl 0 (by decide) (hts _ fl_X8_firstPage_7) (fun _ h9 => h9) rfl dX8_firstPage_11 ?_
        refine fp_bipush hx hb dX8_firstPage_14 (by decide) ?_
        refine lv_iload_n hx hb dX8_firstPage_16 rfl (lv_at hl 3 rfl) ?_
        refine fp_iadd hx hb dX8_firstPage_17 ?_
        refine fp_iald (wsC := [(v, .inr (8, [.ref a0, .ref a1, .ref a2, .ref a3, .int (iI (e4)), .ref a5, .int (iI (e6)), .ref a7, .int (iI (e8)), .int (iI (e9)), .int (iI (e10)), .ref a11, .int (iI (e12)), .int (iI (e13)), .int (iI (e14)), .ref a15])), (a0, fA cyI 54 m)]) hx hb hK hP 1 rfl (by omega) (by decide) dX8_firstPage_18 ?_
        refine lv_aload_n hx hb dX8_firstPage_19 rfl (lv_at hl 0 rfl) ?_
        refine lv_iload_n hx hb dX8_firstPage_20 rfl (lv_at hl 3 rfl) ?_
        refine fp_pV (As := [.int (iI (i))]) (rest := [.int (iI (m (30 + i))), .int (iI (x))]) (wsC := [(v, .inr (8, [.ref a0, .ref a1, .ref a2, .ref a3, .int (iI (e4)), .ref a5, .int (iI (e6)), .ref a7, .int (iI (e8)), .int (iI (e9)), .int (iI (e10)), .ref a11, .int (iI (e12)), .int (iI (e13)), .int (iI (e14)), .ref a15])), (a0, fA cyI 54 m)]) ⟨hx, hb, hml, hown, hts⟩ (c_X8_lengthOf l D cyI v a0 a1 a2 a3 e4 a5 e6 a7 e8 e9 e10 a11 e12 e13 e14 a15 m i hC (by omega)) (cwV 1 hts gX8_firstPage_X8_lengthOf rfl rfl rfl (by decide +kernel) ⟨Nat.le_of_ble_eq_true rfl, Nat.le_of_ble_eq_true rfl⟩) hK hP hD [0, 1] (by decide) rfl rfl rfl rfl hl.1 rfl (Nat.le_of_ble_eq_true rfl) dX8_firstPage_21 ⟨Nat.zero_le _, Nat.zero_le _⟩ ?_
        refine fp_iadd hx hb dX8_firstPage_24 ?_
        refine fp_iadd hx hb dX8_firstPage_25 ?_
        refine lv_istore_n (lv' := [(2, .int (iI (x + ((m (30 + i)) + (lenC (cM m) i))))), (0, .ref v), (1, .int (iI (k))), (3, .int (iI (i)))]) hx hb dX8_firstPage_26 rfl hl (by decide) rfl (fun ls hl => ?_)
        refine fp_iinc (k := 3) (lv' := [(3, .int (iI (i + 1))), (2, .int (iI (x + ((m (30 + i)) + (lenC (cM m) i))))), (0, .ref v), (1, .int (iI (k)))]) hx hb dX8_firstPage_27 hl rfl (by decide) rfl (fun ls hl => ?_)
        refine lv_goto (tgt := 4) hx hb dX8_firstPage_30 (by decide) ?_
        exact ih0 (x + ((m (30 + i)) + (lenC (cM m) i))) (i + 1) (by omega) (by rw [ix, pgC_s ik.1, ← cM_b (m := m) (k := i) (by omega)]; unfold itsC; omega) (by omega) ls (lv_sub hl [2, 3, 1, 0] rfl)
  exact lp0 (((k : Int) + 1 - (0)).toNat) 1 0 (by omega) rfl (by omega) ls hl
theorem fl_X8_platePage_7 : Cond.fieldLink RX8 7 "FacingPlatesModel" "all" "[I" ∈ wsX8_platePage := by decide +kernel
set_option maxHeartbeats 4000000 in
set_option maxRecDepth 100000 in
theorem c_X8_platePage (l : Launch) (D : va_G) (cyI : ClassId) (v : Nat) (a0 : Nat) (a1 : Nat) (a2 : Nat) (a3 : Nat) (e4 : Int) (a5 : Nat) (e6 : Int) (a7 : Nat) (e8 : Int) (e9 : Int) (e10 : Int) (a11 : Nat) (e12 : Int) (e13 : Int) (e14 : Int) (a15 : Nat) (m : Int → Int) (k : Int) (hC : CatOK (cM m)) (hk : 0 ≤ k ∧ k < m 5) : fp_M l yX8_platePage wsX8_platePage ({ frames := 3, cells := 0, slots := 0, locals := 65 } : Room) D cyI [(v, .inr (8, [.ref a0, .ref a1, .ref a2, .ref a3, .int (iI (e4)), .ref a5, .int (iI (e6)), .ref a7, .int (iI (e8)), .int (iI (e9)), .int (iI (e10)), .ref a11, .int (iI (e12)), .int (iI (e13)), .int (iI (e14)), .ref a15])), (a0, fA cyI 54 m)] [.ref v, .int (iI (k))] (some (.int (iI (ppC (cM m) k)))) := by
  refine fp_start (cc := cX8_platePage) (maxL := 2) (ret := (some .int)) (by decide) rfl (Nat.le_of_ble_eq_true rfl) ?_
  intro pg en sx mi ar bl mt cd ls hx hb hr hts hown hlocks hml hnm hP hK hD hl
  have hown : sx.vm.findClass RX8 = some mi.cls := hown
  have hl : lv_has ls 2 [(0, .ref v), (1, .int (iI (k)))] := hl
  have hN := hC.1
  rw [cM_0] at hN
  have hL := lot_f hC (k := k) (by rw [cM_0]; exact hk)
  unfold LotOK at hL
  rw [cM_t (by omega), cM_p (by omega), cM_b (by omega), cM_q (by omega)] at hL
  refine lv_aload_n hx hb dX8_platePage_0 rfl (lv_at hl 0 rfl) ?_
  refine lv_iload_n hx hb dX8_platePage_1 rfl (lv_at hl 1 rfl) ?_
  refine fp_pV (As := [.int (iI (k))]) (rest := []) (wsC := [(v, .inr (8, [.ref a0, .ref a1, .ref a2, .ref a3, .int (iI (e4)), .ref a5, .int (iI (e6)), .ref a7, .int (iI (e8)), .int (iI (e9)), .int (iI (e10)), .ref a11, .int (iI (e12)), .int (iI (e13)), .int (iI (e14)), .ref a15])), (a0, fA cyI 54 m)]) ⟨hx, hb, hml, hown, hts⟩ (c_X8_firstPage l D cyI v a0 a1 a2 a3 e4 a5 e6 a7 e8 e9 e10 a11 e12 e13 e14 a15 m k hC (by omega)) (cwV 1 hts gX8_platePage_X8_firstPage rfl rfl rfl (by decide +kernel) ⟨Nat.le_of_ble_eq_true rfl, Nat.le_of_ble_eq_true rfl⟩) hK hP hD [0, 1] (by decide) rfl rfl rfl rfl hl.1 rfl (Nat.le_of_ble_eq_true rfl) dX8_platePage_2 ⟨Nat.zero_le _, Nat.zero_le _⟩ ?_
  refine lv_aload_n hx hb dX8_platePage_5 rfl (lv_at hl 0 rfl) ?_
  refine va_get (D := D) (ci := 8) (ws := [(v, .inr (8, [.ref a0, .ref a1, .ref a2, .ref a3, .int (iI (e4)), .ref a5, .int (iI (e6)), .ref a7, .int (iI (e8)), .int (iI (e9)), .int (iI (e10)), .ref a11, .int (iI (e12)), .int (iI (e13)), .int (iI (e14)), .ref a15])), (a0, fA cyI 54 m)]) (v := .ref a0) (C := RX8) (T := TX8) (N := 16) hx hb hts (fun _ h => List.mem_cons_of_mem _ (List.mem_append_right _ h)) hown hK.1 hP 0 rfl rfl 0 (by decide) (hts _ fl_X8_platePage_7) (fun _ h9 => h9) rfl dX8_platePage_6 ?_
  refine fp_bipush hx hb dX8_platePage_9 (by decide) ?_
  refine lv_iload_n hx hb dX8_platePage_11 rfl (lv_at hl 1 rfl) ?_
  refine fp_iadd hx hb dX8_platePage_12 ?_
  refine fp_iald (wsC := [(v, .inr (8, [.ref a0, .ref a1, .ref a2, .ref a3, .int (iI (e4)), .ref a5, .int (iI (e6)), .ref a7, .int (iI (e8)), .int (iI (e9)), .int (iI (e10)), .ref a11, .int (iI (e12)), .int (iI (e13)), .int (iI (e14)), .ref a15])), (a0, fA cyI 54 m)]) hx hb hK hP 1 rfl (by omega) (by decide) dX8_platePage_13 ?_
  refine fp_iadd hx hb dX8_platePage_14 ?_
  have hret : (ppC (cM m) k : Int) = (fpC (cM m) k) + (m (42 + k)) := (by unfold ppC; rw [cM_q (by omega)])
  exact fp_ret hx hb hr hlocks dX8_platePage_15 (congrArg (fun z : Int => Value.int (iI z)) hret)
theorem fl_X8_gatheringOf_7 : Cond.fieldLink RX8 7 "FacingPlatesModel" "all" "[I" ∈ wsX8_gatheringOf := by decide +kernel
set_option maxHeartbeats 4000000 in
set_option maxRecDepth 100000 in
theorem c_X8_gatheringOf (l : Launch) (D : va_G) (cyI : ClassId) (v : Nat) (a0 : Nat) (a1 : Nat) (a2 : Nat) (a3 : Nat) (e4 : Int) (a5 : Nat) (e6 : Int) (a7 : Nat) (e8 : Int) (e9 : Int) (e10 : Int) (a11 : Nat) (e12 : Int) (e13 : Int) (e14 : Int) (a15 : Nat) (m : Int → Int) (q : Int) (hC : CatOK (cM m)) (hq : 1 ≤ q ∧ q ≤ 10000) : fp_M l yX8_gatheringOf wsX8_gatheringOf ({ frames := 0, cells := 0, slots := 0, locals := 0 } : Room) D cyI [(v, .inr (8, [.ref a0, .ref a1, .ref a2, .ref a3, .int (iI (e4)), .ref a5, .int (iI (e6)), .ref a7, .int (iI (e8)), .int (iI (e9)), .int (iI (e10)), .ref a11, .int (iI (e12)), .int (iI (e13)), .int (iI (e14)), .ref a15])), (a0, fA cyI 54 m)] [.ref v, .int (iI (q))] (some (.int (iI ((q - 1) / cM m (49 + 0))))) := by
  refine fp_start (cc := cX8_gatheringOf) (maxL := 2) (ret := (some .int)) (by decide) rfl (Nat.le_of_ble_eq_true rfl) ?_
  intro pg en sx mi ar bl mt cd ls hx hb hr hts hown hlocks hml hnm hP hK hD hl
  have hown : sx.vm.findClass RX8 = some mi.cls := hown
  have hl : lv_has ls 2 [(0, .ref v), (1, .int (iI (q)))] := hl
  have hN := hC.1
  rw [cM_0] at hN
  have hX := hC.2.2
  unfold SetOK at hX
  have eG : cM m (49 + 0) = m 0 := cM_s (by omega)
  rw [eG] at hX
  have hX0 := hX.1
  refine lv_iload_n hx hb dX8_gatheringOf_0 rfl (lv_at hl 1 rfl) ?_
  refine fp_iconst hx hb dX8_gatheringOf_1 ?_
  refine fp_isub hx hb dX8_gatheringOf_2 ?_
  refine lv_aload_n hx hb dX8_gatheringOf_3 rfl (lv_at hl 0 rfl) ?_
  refine va_get (D := D) (ci := 8) (ws := [(v, .inr (8, [.ref a0, .ref a1, .ref a2, .ref a3, .int (iI (e4)), .ref a5, .int (iI (e6)), .ref a7, .int (iI (e8)), .int (iI (e9)), .int (iI (e10)), .ref a11, .int (iI (e12)), .int (iI (e13)), .int (iI (e14)), .ref a15])), (a0, fA cyI 54 m)]) (v := .ref a0) (C := RX8) (T := TX8) (N := 16) hx hb hts (fun _ h => List.mem_cons_of_mem _ (List.mem_append_right _ h)) hown hK.1 hP 0 rfl rfl 0 (by decide) (hts _ fl_X8_gatheringOf_7) (fun _ h9 => h9) rfl dX8_gatheringOf_4 ?_
  refine fp_iconst hx hb dX8_gatheringOf_7 ?_
  refine fp_iald (wsC := [(v, .inr (8, [.ref a0, .ref a1, .ref a2, .ref a3, .int (iI (e4)), .ref a5, .int (iI (e6)), .ref a7, .int (iI (e8)), .int (iI (e9)), .int (iI (e10)), .ref a11, .int (iI (e12)), .int (iI (e13)), .int (iI (e14)), .ref a15])), (a0, fA cyI 54 m)]) hx hb hK hP 1 rfl (by omega) (by decide) dX8_gatheringOf_8 ?_
  refine fp_idiv hx hb (by omega) dX8_gatheringOf_9 ?_
  have hret : ((q - 1) / cM m (49 + 0) : Int) = (q - 1) / (m 0) := (by rw [eG])
  exact fp_ret hx hb hr hlocks dX8_gatheringOf_10 (congrArg (fun z : Int => Value.int (iI z)) hret)
theorem fl_X8_sideOf_7 : Cond.fieldLink RX8 7 "FacingPlatesModel" "all" "[I" ∈ wsX8_sideOf := by decide +kernel
set_option maxHeartbeats 4000000 in
set_option maxRecDepth 100000 in
theorem c_X8_sideOf (l : Launch) (D : va_G) (cyI : ClassId) (v : Nat) (a0 : Nat) (a1 : Nat) (a2 : Nat) (a3 : Nat) (e4 : Int) (a5 : Nat) (e6 : Int) (a7 : Nat) (e8 : Int) (e9 : Int) (e10 : Int) (a11 : Nat) (e12 : Int) (e13 : Int) (e14 : Int) (a15 : Nat) (m : Int → Int) (q : Int) (hC : CatOK (cM m)) (hq : 1 ≤ q ∧ q ≤ 10000) : fp_M l yX8_sideOf wsX8_sideOf ({ frames := 0, cells := 0, slots := 0, locals := 0 } : Room) D cyI [(v, .inr (8, [.ref a0, .ref a1, .ref a2, .ref a3, .int (iI (e4)), .ref a5, .int (iI (e6)), .ref a7, .int (iI (e8)), .int (iI (e9)), .int (iI (e10)), .ref a11, .int (iI (e12)), .int (iI (e13)), .int (iI (e14)), .ref a15])), (a0, fA cyI 54 m)] [.ref v, .int (iI (q))] (some (.int (iI (bI (2 ≤ q % 4))))) := by
  refine fp_start (cc := cX8_sideOf) (maxL := 3) (ret := (some .int)) (by decide) rfl (Nat.le_of_ble_eq_true rfl) ?_
  intro pg en sx mi ar bl mt cd ls hx hb hr hts hown hlocks hml hnm hP hK hD hl
  have hown : sx.vm.findClass RX8 = some mi.cls := hown
  have hl : lv_has ls 3 [(0, .ref v), (1, .int (iI (q)))] := hl
  have hN := hC.1
  rw [cM_0] at hN
  have hX := hC.2.2
  unfold SetOK at hX
  have eG : cM m (49 + 0) = m 0 := cM_s (by omega)
  rw [eG] at hX
  have hX0 := hX.1
  have hsd := sd_m hX0 hq
  have hmd : 0 ≤ (q - 1) % m 0 ∧ (q - 1) % m 0 < m 0 := ⟨Int.emod_nonneg _ (by omega), Int.emod_lt_of_pos _ (by omega)⟩
  refine lv_iload_n hx hb dX8_sideOf_0 rfl (lv_at hl 1 rfl) ?_
  refine fp_iconst hx hb dX8_sideOf_1 ?_
  refine fp_isub hx hb dX8_sideOf_2 ?_
  refine lv_aload_n hx hb dX8_sideOf_3 rfl (lv_at hl 0 rfl) ?_
  refine va_get (D := D) (ci := 8) (ws := [(v, .inr (8, [.ref a0, .ref a1, .ref a2, .ref a3, .int (iI (e4)), .ref a5, .int (iI (e6)), .ref a7, .int (iI (e8)), .int (iI (e9)), .int (iI (e10)), .ref a11, .int (iI (e12)), .int (iI (e13)), .int (iI (e14)), .ref a15])), (a0, fA cyI 54 m)]) (v := .ref a0) (C := RX8) (T := TX8) (N := 16) hx hb hts (fun _ h => List.mem_cons_of_mem _ (List.mem_append_right _ h)) hown hK.1 hP 0 rfl rfl 0 (by decide) (hts _ fl_X8_sideOf_7) (fun _ h9 => h9) rfl dX8_sideOf_4 ?_
  refine fp_iconst hx hb dX8_sideOf_7 ?_
  refine fp_iald (wsC := [(v, .inr (8, [.ref a0, .ref a1, .ref a2, .ref a3, .int (iI (e4)), .ref a5, .int (iI (e6)), .ref a7, .int (iI (e8)), .int (iI (e9)), .int (iI (e10)), .ref a11, .int (iI (e12)), .int (iI (e13)), .int (iI (e14)), .ref a15])), (a0, fA cyI 54 m)]) hx hb hK hP 1 rfl (by omega) (by decide) dX8_sideOf_8 ?_
  refine fp_irem hx hb (by omega) dX8_sideOf_9 ?_
  refine fp_iconst hx hb dX8_sideOf_10 ?_
  refine fp_iadd hx hb dX8_sideOf_11 ?_
  refine lv_istore_n (lv' := [(2, .int (iI (((q - 1) % (m 0)) + 1))), (0, .ref v), (1, .int (iI (q)))]) hx hb dX8_sideOf_12 rfl hl (by decide) rfl (fun ls hl => ?_)
  refine lv_iload_n hx hb dX8_sideOf_13 rfl (lv_at hl 0 rfl) ?_
  refine fp_iconst hx hb dX8_sideOf_14 ?_
  refine fp_irem hx hb (by omega) dX8_sideOf_15 ?_
  refine fp_iconst hx hb dX8_sideOf_16 ?_
  refine fp_icmp_ge (tgt := 24) hx hb (by omega) dX8_sideOf_17 (by decide) (fun q17 => ?_) (fun q17 => ?_)
  · skip
    refine fp_iconst hx hb dX8_sideOf_24 ?_
    have hret : (bI (2 ≤ q % 4) : Int) = 1 := (by first | rw [bI_t (by omega)] | rw [bI_f (by omega)])
    exact fp_ret hx hb hr hlocks dX8_sideOf_25 (congrArg (fun z : Int => Value.int (iI z)) hret)
  · skip
    refine fp_iconst hx hb dX8_sideOf_20 ?_
    refine lv_goto (tgt := 25) hx hb dX8_sideOf_21 (by decide) ?_
    have hret : (bI (2 ≤ q % 4) : Int) = 0 := (by first | rw [bI_t (by omega)] | rw [bI_f (by omega)])
    exact fp_ret hx hb hr hlocks dX8_sideOf_25 (congrArg (fun z : Int => Value.int (iI z)) hret)
theorem fl_X8_lotAt_7 : Cond.fieldLink RX8 7 "FacingPlatesModel" "all" "[I" ∈ wsX8_lotAt := by decide +kernel
set_option maxHeartbeats 4000000 in
set_option maxRecDepth 100000 in
theorem c_X8_lotAt (l : Launch) (D : va_G) (cyI : ClassId) (v : Nat) (a0 : Nat) (a1 : Nat) (a2 : Nat) (a3 : Nat) (e4 : Int) (a5 : Nat) (e6 : Int) (a7 : Nat) (e8 : Int) (e9 : Int) (e10 : Int) (a11 : Nat) (e12 : Int) (e13 : Int) (e14 : Int) (a15 : Nat) (m : Int → Int) (q : Int) (hC : CatOK (cM m)) (hq : 1 ≤ q ∧ q ≤ 10000) : fp_M l yX8_lotAt wsX8_lotAt ({ frames := 2, cells := 0, slots := 0, locals := 42 } : Room) D cyI [(v, .inr (8, [.ref a0, .ref a1, .ref a2, .ref a3, .int (iI (e4)), .ref a5, .int (iI (e6)), .ref a7, .int (iI (e8)), .int (iI (e9)), .int (iI (e10)), .ref a11, .int (iI (e12)), .int (iI (e13)), .int (iI (e14)), .ref a15])), (a0, fA cyI 54 m)] [.ref v, .int (iI (q))] (some (.int (iI (lotC (cM m) q)))) := by
  refine fp_start (cc := cX8_lotAt) (maxL := 5) (ret := (some .int)) (by decide) rfl (Nat.le_of_ble_eq_true rfl) ?_
  intro pg en sx mi ar bl mt cd ls hx hb hr hts hown hlocks hml hnm hP hK hD hl
  have hown : sx.vm.findClass RX8 = some mi.cls := hown
  have hl : lv_has ls 5 [(0, .ref v), (1, .int (iI (q)))] := hl
  have hN := hC.1
  rw [cM_0] at hN
  refine lv_iload_n hx hb dX8_lotAt_0 rfl (lv_at hl 1 rfl) ?_
  refine lv_istore_n (lv' := [(2, .int (iI (q))), (0, .ref v), (1, .int (iI (q)))]) hx hb dX8_lotAt_1 rfl hl (by decide) rfl (fun ls hl => ?_)
  refine fp_iconst hx hb dX8_lotAt_2 ?_
  refine lv_istore_n (lv' := [(3, .int (iI (0))), (2, .int (iI (q))), (0, .ref v), (1, .int (iI (q)))]) hx hb dX8_lotAt_3 rfl hl (by decide) rfl (fun ls hl => ?_)
  have hl := lv_sub hl (l' := [(0, .ref v), (1, .int (iI (q))), (2, .int (iI (q))), (3, .int (iI (0)))]) [2, 3, 1, 0] rfl
  have lp0 : ∀ (nf : Nat) (x : Int) (k : Int), (0 ≤ k ∧ k ≤ m 5) → (-100000 ≤ x ∧ x ≤ 10000 ∧ q - 5 * k ≤ x) → (lotC (cM m) q = loR (itsC (cM m)) (m 5 - k).toNat k x) → (m 5 + 1 ≤ k + (nf : Int)) → ∀ (ls : Array Slot), lv_has ls 5 [(0, .ref v), (1, .int (iI (q))), (2, .int (iI (x))), (3, .int (iI (k)))] → W pg l en ({ frames := 2, cells := 0, slots := 0, locals := 42 } : Room) sx mi ar bl mt cd sx.heap [] 0 0 (MQ bl (fp_Qp (some (.int (iI (lotC (cM m) q))))) ar sx 0 0 (fun _ => False)) (F0 mi 4 ls []) := by
    intro nf
    induction nf with
    | zero =>
      intro x k ik ir ix hfuel
      exact absurd hfuel (by omega)
    | succ nf ih0 =>
      intro x k ik ir ix hfuel ls hl
      refine lv_iload_n hx hb dX8_lotAt_4 rfl (lv_at hl 3 rfl) ?_
      refine lv_aload_n hx hb dX8_lotAt_5 rfl (lv_at hl 0 rfl) ?_
      refine va_get (D := D) (ci := 8) (ws := [(v, .inr (8, [.ref a0, .ref a1, .ref a2, .ref a3, .int (iI (e4)), .ref a5, .int (iI (e6)), .ref a7, .int (iI (e8)), .int (iI (e9)), .int (iI (e10)), .ref a11, .int (iI (e12)), .int (iI (e13)), .int (iI (e14)), .ref a15])), (a0, fA cyI 54 m)]) (v := .ref a0) (C := RX8) (T := TX8) (N := 16) hx hb hts (fun _ h => List.mem_cons_of_mem _ (List.mem_append_right _ h)) hown hK.1 hP 0 rfl rfl 0 (by decide) (hts _ fl_X8_lotAt_7) (fun _ h9 => h9) rfl dX8_lotAt_6 ?_
      refine fp_iconst hx hb dX8_lotAt_9 ?_
      refine fp_iald (wsC := [(v, .inr (8, [.ref a0, .ref a1, .ref a2, .ref a3, .int (iI (e4)), .ref a5, .int (iI (e6)), .ref a7, .int (iI (e8)), .int (iI (e9)), .int (iI (e10)), .ref a11, .int (iI (e12)), .int (iI (e13)), .int (iI (e14)), .ref a15])), (a0, fA cyI 54 m)]) hx hb hK hP 1 rfl (by omega) (by decide) dX8_lotAt_10 ?_
      refine fp_icmp_ge (tgt := 50) hx hb (by omega) dX8_lotAt_11 (by decide) (fun q11 => ?_) (fun q11 => ?_)
      · skip
        refine fp_bipush hx hb dX8_lotAt_50 (by decide) ?_
        have hret : (lotC (cM m) q : Int) = (-5) := (by rw [ix, show (m 5 - k).toNat = 0 by omega]; rfl)
        exact fp_ret hx hb hr hlocks dX8_lotAt_52 (congrArg (fun z : Int => Value.int (iI z)) hret)
      · skip
        have hi := its_rg hC (k := k) (by rw [cM_0]; omega)
        have f9 : (m 5 - k).toNat = (m 5 - (k + 1)).toNat + 1 := by omega
        refine lv_aload_n hx hb dX8_lotAt_14 rfl (lv_at hl 0 rfl) ?_
        refine va_get (D := D) (ci := 8) (ws := [(v, .inr (8, [.ref a0, .ref a1, .ref a2, .ref a3, .int (iI (e4)), .ref a5, .int (iI (e6)), .ref a7, .int (iI (e8)), .int (iI (e9)), .int (iI (e10)), .ref a11, .int (iI (e12)), .int (iI (e13)), .int (iI (e14)), .ref a15])), (a0, fA cyI 54 m)]) (v := .ref a0) (C := RX8) (T := TX8) (N := 16) hx hb hts (fun _ h => List.mem_cons_of_mem _ (List.mem_append_right _ h)) hown hK.1 hP 0 rfl rfl 0 (by decide) (hts _ fl_X8_lotAt_7) (fun _ h9 => h9) rfl dX8_lotAt_15 ?_
        refine fp_bipush hx hb dX8_lotAt_18 (by decide) ?_
        refine lv_iload_n hx hb dX8_lotAt_20 rfl (lv_at hl 3 rfl) ?_
        refine fp_iadd hx hb dX8_lotAt_21 ?_
        refine fp_iald (wsC := [(v, .inr (8, [.ref a0, .ref a1, .ref a2, .ref a3, .int (iI (e4)), .ref a5, .int (iI (e6)), .ref a7, .int (iI (e8)), .int (iI (e9)), .int (iI (e10)), .ref a11, .int (iI (e12)), .int (iI (e13)), .int (iI (e14)), .ref a15])), (a0, fA cyI 54 m)]) hx hb hK hP 1 rfl (by omega) (by decide) dX8_lotAt_22 ?_
        refine lv_aload_n hx hb dX8_lotAt_23 rfl (lv_at hl 0 rfl) ?_
        refine lv_iload_n hx hb dX8_lotAt_24 rfl (lv_at hl 3 rfl) ?_
        refine fp_pV (As := [.int (iI (k))]) (rest := [.int (iI (m (30 + k)))]) (wsC := [(v, .inr (8, [.ref a0, .ref a1, .ref a2, .ref a3, .int (iI (e4)), .ref a5, .int (iI (e6)), .ref a7, .int (iI (e8)), .int (iI (e9)), .int (iI (e10)), .ref a11, .int (iI (e12)), .int (iI (e13)), .int (iI (e14)), .ref a15])), (a0, fA cyI 54 m)]) ⟨hx, hb, hml, hown, hts⟩ (c_X8_lengthOf l D cyI v a0 a1 a2 a3 e4 a5 e6 a7 e8 e9 e10 a11 e12 e13 e14 a15 m k hC (by omega)) (cwV 1 hts gX8_lotAt_X8_lengthOf rfl rfl rfl (by decide +kernel) ⟨Nat.le_of_ble_eq_true rfl, Nat.le_of_ble_eq_true rfl⟩) hK hP hD [0, 1] (by decide) rfl rfl rfl rfl hl.1 rfl (Nat.le_of_ble_eq_true rfl) dX8_lotAt_25 ⟨Nat.zero_le _, Nat.zero_le _⟩ ?_
        refine fp_iadd hx hb dX8_lotAt_28 ?_
        refine lv_istore (lv' := [(4, .int (iI ((m (30 + k)) + (lenC (cM m) k)))), (0, .ref v), (1, .int (iI (q))), (2, .int (iI (x))), (3, .int (iI (k)))]) hx hb dX8_lotAt_29 hl (by decide) rfl (fun ls hl => ?_)
        rw [show ((m (30 + k)) + (lenC (cM m) k) : Int) = itsC (cM m) k from (by rw [← cM_b (m := m) (k := k) (by omega)]; rfl)] at hl
        refine lv_iload_n hx hb dX8_lotAt_31 rfl (lv_at hl 3 rfl) ?_
        refine lv_iload hx hb dX8_lotAt_32 (lv_at hl 0 rfl) ?_
        refine fp_icmp_gt (tgt := 39) hx hb (by omega) dX8_lotAt_34 (by decide) (fun q34 => ?_) (fun q34 => ?_)
        · skip
          refine lv_iload_n hx hb dX8_lotAt_39 rfl (lv_at hl 3 rfl) ?_
          refine lv_iload hx hb dX8_lotAt_40 (lv_at hl 0 rfl) ?_
          refine fp_isub hx hb dX8_lotAt_42 ?_
          refine lv_istore_n (lv' := [(2, .int (iI (x - (itsC (cM m) k)))), (4, .int (iI (itsC (cM m) k))), (0, .ref v), (1, .int (iI (q))), (3, .int (iI (k)))]) hx hb dX8_lotAt_43 rfl hl (by decide) rfl (fun ls hl => ?_)
          refine fp_iinc (k := 4) (lv' := [(3, .int (iI (k + 1))), (2, .int (iI (x - (itsC (cM m) k)))), (4, .int (iI (itsC (cM m) k))), (0, .ref v), (1, .int (iI (q)))]) hx hb dX8_lotAt_44 hl rfl (by decide) rfl (fun ls hl => ?_)
          refine lv_goto (tgt := 4) hx hb dX8_lotAt_47 (by decide) ?_
          exact ih0 (x - (itsC (cM m) k)) (k + 1) (by omega) (by omega) (by rw [ix, f9]; show (if _ then _ else _) = _; rw [if_neg (by omega)]) (by omega) ls (lv_sub hl [3, 4, 1, 0] rfl)
        · skip
          refine lv_iload_n hx hb dX8_lotAt_37 rfl (lv_at hl 4 rfl) ?_
          have hret : (lotC (cM m) q : Int) = k := (by rw [ix, f9]; show (if _ then _ else _) = _; rw [if_pos (by omega)])
          exact fp_ret hx hb hr hlocks dX8_lotAt_38 (congrArg (fun z : Int => Value.int (iI z)) hret)
  exact lp0 (((m 5 : Int) + 1 - (0)).toNat) q 0 (by omega) (by omega) (by unfold lotC; rw [cM_0, Int.sub_zero]) (by omega) ls hl
theorem fl_X8_kindAt_7 : Cond.fieldLink RX8 7 "FacingPlatesModel" "all" "[I" ∈ wsX8_kindAt := by decide +kernel
set_option maxHeartbeats 4000000 in
set_option maxRecDepth 100000 in
theorem c_X8_kindAt (l : Launch) (D : va_G) (cyI : ClassId) (v : Nat) (a0 : Nat) (a1 : Nat) (a2 : Nat) (a3 : Nat) (e4 : Int) (a5 : Nat) (e6 : Int) (a7 : Nat) (e8 : Int) (e9 : Int) (e10 : Int) (a11 : Nat) (e12 : Int) (e13 : Int) (e14 : Int) (a15 : Nat) (m : Int → Int) (q : Int) (hC : CatOK (cM m)) (hq : 1 ≤ q ∧ q ≤ 10000) : fp_M l yX8_kindAt wsX8_kindAt ({ frames := 4, cells := 0, slots := 0, locals := 86 } : Room) D cyI [(v, .inr (8, [.ref a0, .ref a1, .ref a2, .ref a3, .int (iI (e4)), .ref a5, .int (iI (e6)), .ref a7, .int (iI (e8)), .int (iI (e9)), .int (iI (e10)), .ref a11, .int (iI (e12)), .int (iI (e13)), .int (iI (e14)), .ref a15])), (a0, fA cyI 54 m)] [.ref v, .int (iI (q))] (some (.int (iI (kindC (cM m) q)))) := by
  refine fp_start (cc := cX8_kindAt) (maxL := 3) (ret := (some .int)) (by decide) rfl (Nat.le_of_ble_eq_true rfl) ?_
  intro pg en sx mi ar bl mt cd ls hx hb hr hts hown hlocks hml hnm hP hK hD hl
  have hown : sx.vm.findClass RX8 = some mi.cls := hown
  have hl : lv_has ls 3 [(0, .ref v), (1, .int (iI (q)))] := hl
  have hN := hC.1
  rw [cM_0] at hN
  have hlo := lo_rg hC hq.1
  rw [cM_0] at hlo
  refine lv_aload_n hx hb dX8_kindAt_0 rfl (lv_at hl 0 rfl) ?_
  refine lv_iload_n hx hb dX8_kindAt_1 rfl (lv_at hl 1 rfl) ?_
  refine fp_pV (As := [.int (iI (q))]) (rest := []) (wsC := [(v, .inr (8, [.ref a0, .ref a1, .ref a2, .ref a3, .int (iI (e4)), .ref a5, .int (iI (e6)), .ref a7, .int (iI (e8)), .int (iI (e9)), .int (iI (e10)), .ref a11, .int (iI (e12)), .int (iI (e13)), .int (iI (e14)), .ref a15])), (a0, fA cyI 54 m)]) ⟨hx, hb, hml, hown, hts⟩ (c_X8_lotAt l D cyI v a0 a1 a2 a3 e4 a5 e6 a7 e8 e9 e10 a11 e12 e13 e14 a15 m q hC (by omega)) (cwV 1 hts gX8_kindAt_X8_lotAt rfl rfl rfl (by decide +kernel) ⟨Nat.le_of_ble_eq_true rfl, Nat.le_of_ble_eq_true rfl⟩) hK hP hD [0, 1] (by decide) rfl rfl rfl rfl hl.1 rfl (Nat.le_of_ble_eq_true rfl) dX8_kindAt_2 ⟨Nat.zero_le _, Nat.zero_le _⟩ ?_
  refine lv_istore_n (lv' := [(2, .int (iI (lotC (cM m) q))), (0, .ref v), (1, .int (iI (q)))]) hx hb dX8_kindAt_5 rfl hl (by decide) rfl (fun ls hl => ?_)
  refine lv_iload_n hx hb dX8_kindAt_6 rfl (lv_at hl 0 rfl) ?_
  refine fp_bipush hx hb dX8_kindAt_7 (by decide) ?_
  refine fp_icmp_ne (tgt := 14) hx hb (by omega) dX8_kindAt_9 (by decide) (fun q9 => ?_) (fun q9 => ?_)
  · skip
    have hk : 0 ≤ lotC (cM m) q ∧ lotC (cM m) q < m 5 := by omega
    have hp := pp_b hC (k := lotC (cM m) q) (by rw [cM_0]; exact hk)
    have hl5 := la_b hC
    have hL := lot_f hC (k := lotC (cM m) q) (by rw [cM_0]; exact hk)
    unfold LotOK at hL
    refine lv_iload_n hx hb dX8_kindAt_14 rfl (lv_at hl 2 rfl) ?_
    refine lv_aload_n hx hb dX8_kindAt_15 rfl (lv_at hl 1 rfl) ?_
    refine lv_iload_n hx hb dX8_kindAt_16 rfl (lv_at hl 0 rfl) ?_
    refine fp_pV (As := [.int (iI (lotC (cM m) q))]) (rest := [.int (iI (q))]) (wsC := [(v, .inr (8, [.ref a0, .ref a1, .ref a2, .ref a3, .int (iI (e4)), .ref a5, .int (iI (e6)), .ref a7, .int (iI (e8)), .int (iI (e9)), .int (iI (e10)), .ref a11, .int (iI (e12)), .int (iI (e13)), .int (iI (e14)), .ref a15])), (a0, fA cyI 54 m)]) ⟨hx, hb, hml, hown, hts⟩ (c_X8_firstPage l D cyI v a0 a1 a2 a3 e4 a5 e6 a7 e8 e9 e10 a11 e12 e13 e14 a15 m (lotC (cM m) q) hC (by omega)) (cwV 1 hts gX8_kindAt_X8_firstPage rfl rfl rfl (by decide +kernel) ⟨Nat.le_of_ble_eq_true rfl, Nat.le_of_ble_eq_true rfl⟩) hK hP hD [0, 1] (by decide) rfl rfl rfl rfl hl.1 rfl (Nat.le_of_ble_eq_true rfl) dX8_kindAt_17 ⟨Nat.zero_le _, Nat.zero_le _⟩ ?_
    refine fp_icmp_ge (tgt := 25) hx hb (by omega) dX8_kindAt_20 (by decide) (fun q20 => ?_) (fun q20 => ?_)
    · skip
      refine lv_aload_n hx hb dX8_kindAt_25 rfl (lv_at hl 1 rfl) ?_
      refine lv_iload_n hx hb dX8_kindAt_26 rfl (lv_at hl 0 rfl) ?_
      refine fp_pV (As := [.int (iI (lotC (cM m) q))]) (rest := []) (wsC := [(v, .inr (8, [.ref a0, .ref a1, .ref a2, .ref a3, .int (iI (e4)), .ref a5, .int (iI (e6)), .ref a7, .int (iI (e8)), .int (iI (e9)), .int (iI (e10)), .ref a11, .int (iI (e12)), .int (iI (e13)), .int (iI (e14)), .ref a15])), (a0, fA cyI 54 m)]) ⟨hx, hb, hml, hown, hts⟩ (c_X8_hasPlate l D cyI v a0 a1 a2 a3 e4 a5 e6 a7 e8 e9 e10 a11 e12 e13 e14 a15 m (lotC (cM m) q) hC (by omega)) (cwV 1 hts gX8_kindAt_X8_hasPlate rfl rfl rfl (by decide +kernel) ⟨Nat.le_of_ble_eq_true rfl, Nat.le_of_ble_eq_true rfl⟩) hK hP hD [0, 1] (by decide) rfl rfl rfl rfl hl.1 rfl (Nat.le_of_ble_eq_true rfl) dX8_kindAt_27 ⟨Nat.zero_le _, Nat.zero_le _⟩ ?_
      refine fp_if_eq (tgt := 56) hx hb (bI_r32 _) dX8_kindAt_30 (by decide) (fun q30 => ?_) (fun q30 => ?_)
      · skip
        have w30 := bI_e q30
        refine fp_iconst hx hb dX8_kindAt_56 ?_
        have hret : (kindC (cM m) q : Int) = 1 := (by unfold kindC; rw [if_neg q9, if_neg (by omega)]; first | (rw [if_pos (by omega), cM_p (by omega)]) | rw [if_neg (by omega)])
        exact fp_ret hx hb hr hlocks dX8_kindAt_57 (congrArg (fun z : Int => Value.int (iI z)) hret)
      · skip
        have w30 := bI_ne q30
        refine lv_iload_n hx hb dX8_kindAt_33 rfl (lv_at hl 2 rfl) ?_
        refine lv_aload_n hx hb dX8_kindAt_34 rfl (lv_at hl 1 rfl) ?_
        refine lv_iload_n hx hb dX8_kindAt_35 rfl (lv_at hl 0 rfl) ?_
        refine fp_pV (As := [.int (iI (lotC (cM m) q))]) (rest := [.int (iI (q))]) (wsC := [(v, .inr (8, [.ref a0, .ref a1, .ref a2, .ref a3, .int (iI (e4)), .ref a5, .int (iI (e6)), .ref a7, .int (iI (e8)), .int (iI (e9)), .int (iI (e10)), .ref a11, .int (iI (e12)), .int (iI (e13)), .int (iI (e14)), .ref a15])), (a0, fA cyI 54 m)]) ⟨hx, hb, hml, hown, hts⟩ (c_X8_platePage l D cyI v a0 a1 a2 a3 e4 a5 e6 a7 e8 e9 e10 a11 e12 e13 e14 a15 m (lotC (cM m) q) hC (by omega)) (cwV 1 hts gX8_kindAt_X8_platePage rfl rfl rfl (by decide +kernel) ⟨Nat.le_of_ble_eq_true rfl, Nat.le_of_ble_eq_true rfl⟩) hK hP hD [0, 1] (by decide) rfl rfl rfl rfl hl.1 rfl (Nat.le_of_ble_eq_true rfl) dX8_kindAt_36 ⟨Nat.zero_le _, Nat.zero_le _⟩ ?_
        refine fp_icmp_ne (tgt := 56) hx hb (by omega) dX8_kindAt_39 (by decide) (fun q39 => ?_) (fun q39 => ?_)
        · skip
          refine fp_iconst hx hb dX8_kindAt_56 ?_
          have hret : (kindC (cM m) q : Int) = 1 := (by unfold kindC; rw [if_neg q9, if_neg (by omega)]; first | (rw [if_pos (by omega), cM_p (by omega)]) | rw [if_neg (by omega)])
          exact fp_ret hx hb hr hlocks dX8_kindAt_57 (congrArg (fun z : Int => Value.int (iI z)) hret)
        · skip
          refine fp_iconst hx hb dX8_kindAt_42 ?_
          refine lv_aload_n hx hb dX8_kindAt_43 rfl (lv_at hl 1 rfl) ?_
          refine va_get (D := D) (ci := 8) (ws := [(v, .inr (8, [.ref a0, .ref a1, .ref a2, .ref a3, .int (iI (e4)), .ref a5, .int (iI (e6)), .ref a7, .int (iI (e8)), .int (iI (e9)), .int (iI (e10)), .ref a11, .int (iI (e12)), .int (iI (e13)), .int (iI (e14)), .ref a15])), (a0, fA cyI 54 m)]) (v := .ref a0) (C := RX8) (T := TX8) (N := 16) hx hb hts (fun _ h => List.mem_cons_of_mem _ (List.mem_append_right _ h)) hown hK.1 hP 0 rfl rfl 0 (by decide) (hts _ fl_X8_kindAt_7) (fun _ h9 => h9) rfl dX8_kindAt_44 ?_
          refine fp_bipush hx hb dX8_kindAt_47 (by decide) ?_
          refine lv_iload_n hx hb dX8_kindAt_49 rfl (lv_at hl 0 rfl) ?_
          refine fp_iadd hx hb dX8_kindAt_50 ?_
          refine fp_iald (wsC := [(v, .inr (8, [.ref a0, .ref a1, .ref a2, .ref a3, .int (iI (e4)), .ref a5, .int (iI (e6)), .ref a7, .int (iI (e8)), .int (iI (e9)), .int (iI (e10)), .ref a11, .int (iI (e12)), .int (iI (e13)), .int (iI (e14)), .ref a15])), (a0, fA cyI 54 m)]) hx hb hK hP 1 rfl (by omega) (by decide) dX8_kindAt_51 ?_
          refine fp_iadd hx hb dX8_kindAt_52 ?_
          refine lv_goto (tgt := 57) hx hb dX8_kindAt_53 (by decide) ?_
          have hret : (kindC (cM m) q : Int) = 1 + (m (18 + (lotC (cM m) q))) := (by unfold kindC; rw [if_neg q9, if_neg (by omega)]; first | (rw [if_pos (by omega), cM_p (by omega)]) | rw [if_neg (by omega)])
          exact fp_ret hx hb hr hlocks dX8_kindAt_57 (congrArg (fun z : Int => Value.int (iI z)) hret)
    · skip
      refine fp_iconst hx hb dX8_kindAt_23 ?_
      have hret : (kindC (cM m) q : Int) = 0 := (by unfold kindC; rw [if_neg q9, if_pos q20])
      exact fp_ret hx hb hr hlocks dX8_kindAt_24 (congrArg (fun z : Int => Value.int (iI z)) hret)
  · skip
    refine fp_iconst hx hb dX8_kindAt_12 ?_
    have hret : (kindC (cM m) q : Int) = 4 := (by unfold kindC; rw [if_pos q9])
    exact fp_ret hx hb hr hlocks dX8_kindAt_13 (congrArg (fun z : Int => Value.int (iI z)) hret)
set_option maxHeartbeats 4000000 in
set_option maxRecDepth 100000 in
theorem c_X8_isBlank (l : Launch) (D : va_G) (cyI : ClassId) (z : Int) (hz : -10 ≤ z ∧ z ≤ 10) : fp_M l yX8_isBlank wsX8_isBlank ({ frames := 0, cells := 0, slots := 0, locals := 0 } : Room) D cyI [] [.int (iI (z))] (some (.int (iI (blkI z)))) := by
  refine fp_start (cc := cX8_isBlank) (maxL := 1) (ret := (some .boolean)) (by decide) rfl (Nat.le_of_ble_eq_true rfl) ?_
  intro pg en sx mi ar bl mt cd ls hx hb hr hts hown hlocks hml hnm hP hK hD hl
  have hown : sx.vm.findClass RX8 = some mi.cls := hown
  have hl : lv_has ls 1 [(0, .int (iI (z)))] := hl
  refine lv_iload_n hx hb dX8_isBlank_0 rfl (lv_at hl 0 rfl) ?_
  refine fp_if_eq (tgt := 9) hx hb (by omega) dX8_isBlank_1 (by decide) (fun q1 => ?_) (fun q1 => ?_)
  · skip
    refine fp_iconst hx hb dX8_isBlank_9 ?_
    refine lv_goto (tgt := 14) hx hb dX8_isBlank_10 (by decide) ?_
    have hret : (blkI z : Int) = 1 := (by unfold blkI; first | rw [bI_t (by omega)] | rw [bI_f (by omega)])
    exact fp_zret hx hb hr hlocks (by first | exact Or.inl rfl | exact Or.inr rfl | exact bI_01 _ | omega) dX8_isBlank_14 (congrArg (fun z : Int => Value.int (iI z)) hret)
  · skip
    refine lv_iload_n hx hb dX8_isBlank_4 rfl (lv_at hl 0 rfl) ?_
    refine fp_iconst hx hb dX8_isBlank_5 ?_
    refine fp_icmp_ne (tgt := 13) hx hb (by omega) dX8_isBlank_6 (by decide) (fun q6 => ?_) (fun q6 => ?_)
    · skip
      refine fp_iconst hx hb dX8_isBlank_13 ?_
      have hret : (blkI z : Int) = 0 := (by unfold blkI; first | rw [bI_t (by omega)] | rw [bI_f (by omega)])
      exact fp_zret hx hb hr hlocks (by first | exact Or.inl rfl | exact Or.inr rfl | exact bI_01 _ | omega) dX8_isBlank_14 (congrArg (fun z : Int => Value.int (iI z)) hret)
    · skip
      refine fp_iconst hx hb dX8_isBlank_9 ?_
      refine lv_goto (tgt := 14) hx hb dX8_isBlank_10 (by decide) ?_
      have hret : (blkI z : Int) = 1 := (by unfold blkI; first | rw [bI_t (by omega)] | rw [bI_f (by omega)])
      exact fp_zret hx hb hr hlocks (by first | exact Or.inl rfl | exact Or.inr rfl | exact bI_01 _ | omega) dX8_isBlank_14 (congrArg (fun z : Int => Value.int (iI z)) hret)
theorem fl_X8_beside_7 : Cond.fieldLink RX8 7 "FacingPlatesModel" "all" "[I" ∈ wsX8_beside := by decide +kernel
set_option maxHeartbeats 4000000 in
set_option maxRecDepth 100000 in
theorem c_X8_beside (l : Launch) (D : va_G) (cyI : ClassId) (v : Nat) (a0 : Nat) (a1 : Nat) (a2 : Nat) (a3 : Nat) (e4 : Int) (a5 : Nat) (e6 : Int) (a7 : Nat) (e8 : Int) (e9 : Int) (e10 : Int) (a11 : Nat) (e12 : Int) (e13 : Int) (e14 : Int) (a15 : Nat) (m : Int → Int) (q : Int) (hC : CatOK (cM m)) (hq : 1 ≤ q ∧ q ≤ laC (cM m)) : fp_M l yX8_beside wsX8_beside ({ frames := 4, cells := 0, slots := 0, locals := 84 } : Room) D cyI [(v, .inr (8, [.ref a0, .ref a1, .ref a2, .ref a3, .int (iI (e4)), .ref a5, .int (iI (e6)), .ref a7, .int (iI (e8)), .int (iI (e9)), .int (iI (e10)), .ref a11, .int (iI (e12)), .int (iI (e13)), .int (iI (e14)), .ref a15])), (a0, fA cyI 54 m)] [.ref v, .int (iI (q))] (some (.int (iI (othI q (laC (cM m)))))) := by
  refine fp_start (cc := cX8_beside) (maxL := 3) (ret := (some .int)) (by decide) rfl (Nat.le_of_ble_eq_true rfl) ?_
  intro pg en sx mi ar bl mt cd ls hx hb hr hts hown hlocks hml hnm hP hK hD hl
  have hown : sx.vm.findClass RX8 = some mi.cls := hown
  have hl : lv_has ls 3 [(0, .ref v), (1, .int (iI (q)))] := hl
  have hN := hC.1
  rw [cM_0] at hN
  have hX := hC.2.2
  unfold SetOK at hX
  have eG : cM m (49 + 0) = m 0 := cM_s (by omega)
  rw [eG] at hX
  have hX0 := hX.1
  have hl5 := la_b hC
  rw [eG] at hl5
  refine lv_iload_n hx hb dX8_beside_0 rfl (lv_at hl 1 rfl) ?_
  refine fp_iconst hx hb dX8_beside_1 ?_
  refine fp_irem hx hb (by omega) dX8_beside_2 ?_
  have jn0 : ∀ (ot : Int), (ot = if q % 2 = 0 then q + 1 else q - 1) → ∀ (ls : Array Slot), lv_has ls 3 [(0, .ref v), (1, .int (iI (q)))] → W pg l en ({ frames := 4, cells := 0, slots := 0, locals := 84 } : Room) sx mi ar bl mt cd sx.heap [] 0 0 (MQ bl (fp_Qp (some (.int (iI (othI q (laC (cM m))))))) ar sx 0 0 (fun _ => False)) (F0 mi 15 ls [.int (iI (ot))]) := by
    intro ot jo ls hl
    have hot : q - 1 ≤ ot ∧ ot ≤ q + 1 := by rw [jo]; split <;> omega
    refine lv_istore_n (lv' := [(2, .int (iI (ot))), (0, .ref v), (1, .int (iI (q)))]) hx hb dX8_beside_15 rfl hl (by decide) rfl (fun ls hl => ?_)
    refine lv_iload_n hx hb dX8_beside_16 rfl (lv_at hl 0 rfl) ?_
    refine fp_i2l hx hb (by omega) dX8_beside_17 ?_
    refine fp_lconst hx hb 1 dX8_beside_18 rfl ?_
    refine lv_aload_n hx hb dX8_beside_19 rfl (lv_at hl 1 rfl) ?_
    refine fp_pV (As := []) (rest := [.long (lI (1)), .long (lI (ot))]) (wsC := [(v, .inr (8, [.ref a0, .ref a1, .ref a2, .ref a3, .int (iI (e4)), .ref a5, .int (iI (e6)), .ref a7, .int (iI (e8)), .int (iI (e9)), .int (iI (e10)), .ref a11, .int (iI (e12)), .int (iI (e13)), .int (iI (e14)), .ref a15])), (a0, fA cyI 54 m)]) ⟨hx, hb, hml, hown, hts⟩ (c_X8_gatherings l D cyI v a0 a1 a2 a3 e4 a5 e6 a7 e8 e9 e10 a11 e12 e13 e14 a15 m hC) (cwV 0 hts gX8_beside_X8_gatherings rfl rfl rfl (by decide +kernel) ⟨Nat.le_of_ble_eq_true rfl, Nat.le_of_ble_eq_true rfl⟩) hK hP hD [0, 1] (by decide) rfl rfl rfl rfl hl.1 rfl (Nat.le_of_ble_eq_true rfl) dX8_beside_20 ⟨Nat.zero_le _, Nat.zero_le _⟩ ?_
    refine lv_aload_n hx hb dX8_beside_23 rfl (lv_at hl 1 rfl) ?_
    refine va_get (D := D) (ci := 8) (ws := [(v, .inr (8, [.ref a0, .ref a1, .ref a2, .ref a3, .int (iI (e4)), .ref a5, .int (iI (e6)), .ref a7, .int (iI (e8)), .int (iI (e9)), .int (iI (e10)), .ref a11, .int (iI (e12)), .int (iI (e13)), .int (iI (e14)), .ref a15])), (a0, fA cyI 54 m)]) (v := .ref a0) (C := RX8) (T := TX8) (N := 16) hx hb hts (fun _ h => List.mem_cons_of_mem _ (List.mem_append_right _ h)) hown hK.1 hP 0 rfl rfl 0 (by decide) (hts _ fl_X8_beside_7) (fun _ h9 => h9) rfl dX8_beside_24 ?_
    refine fp_iconst hx hb dX8_beside_27 ?_
    refine fp_iald (wsC := [(v, .inr (8, [.ref a0, .ref a1, .ref a2, .ref a3, .int (iI (e4)), .ref a5, .int (iI (e6)), .ref a7, .int (iI (e8)), .int (iI (e9)), .int (iI (e10)), .ref a11, .int (iI (e12)), .int (iI (e13)), .int (iI (e14)), .ref a15])), (a0, fA cyI 54 m)]) hx hb hK hP 1 rfl (by omega) (by decide) dX8_beside_28 ?_
    refine fp_imul hx hb dX8_beside_29 ?_
    refine fp_i2l hx hb (by omega) dX8_beside_30 ?_
    refine fp_pS (As := [.long (lI (ot)), .long (lI (1)), .long (lI ((gaC (cM m)) * (m 0)))]) (rest := []) (wsC := [(v, .inr (8, [.ref a0, .ref a1, .ref a2, .ref a3, .int (iI (e4)), .ref a5, .int (iI (e6)), .ref a7, .int (iI (e8)), .int (iI (e9)), .int (iI (e10)), .ref a11, .int (iI (e12)), .int (iI (e13)), .int (iI (e14)), .ref a15])), (a0, fA cyI 54 m)]) ⟨hx, hb, hml, hown, hts⟩ (c_X8_in l D cyI ot 1 ((gaC (cM m)) * (m 0)) (by omega)) (va_cwS 3 hts gX8_beside_X8_in rfl rfl rfl (by decide +kernel) ⟨Nat.le_of_ble_eq_true rfl, Nat.le_of_ble_eq_true rfl⟩) hK hP hD [] (by decide) rfl rfl hl.1 rfl (Nat.le_of_ble_eq_true rfl) dX8_beside_31 ⟨Nat.zero_le _, Nat.zero_le _⟩ ?_
    refine fp_if_eq (tgt := 41) hx hb (bI_r32 _) dX8_beside_34 (by decide) (fun q34 => ?_) (fun q34 => ?_)
    · skip
      have w34 := bI_e q34
      refine fp_bipush hx hb dX8_beside_41 (by decide) ?_
      have hret : (othI q (laC (cM m)) : Int) = (-5) := (by rw [oth_m hC hq, ← jo]; first | rw [if_pos (by omega)] | rw [if_neg (by omega)])
      exact fp_ret hx hb hr hlocks dX8_beside_43 (congrArg (fun z : Int => Value.int (iI z)) hret)
    · skip
      have w34 := bI_ne q34
      refine lv_iload_n hx hb dX8_beside_37 rfl (lv_at hl 0 rfl) ?_
      refine lv_goto (tgt := 43) hx hb dX8_beside_38 (by decide) ?_
      have hret : (othI q (laC (cM m)) : Int) = ot := (by rw [oth_m hC hq, ← jo]; first | rw [if_pos (by omega)] | rw [if_neg (by omega)])
      exact fp_ret hx hb hr hlocks dX8_beside_43 (congrArg (fun z : Int => Value.int (iI z)) hret)
  refine fp_if_ne (tgt := 12) hx hb (by omega) dX8_beside_3 (by decide) (fun q3 => ?_) (fun q3 => ?_)
  · skip
    refine lv_iload_n hx hb dX8_beside_12 rfl (lv_at hl 1 rfl) ?_
    refine fp_iconst hx hb dX8_beside_13 ?_
    refine fp_isub hx hb dX8_beside_14 ?_
    exact jn0 (q - 1) (by first | rw [if_pos (by omega)] | rw [if_neg (by omega)]) ls (lv_sub hl [0, 1] rfl)
  · skip
    refine lv_iload_n hx hb dX8_beside_6 rfl (lv_at hl 1 rfl) ?_
    refine fp_iconst hx hb dX8_beside_7 ?_
    refine fp_iadd hx hb dX8_beside_8 ?_
    refine lv_goto (tgt := 15) hx hb dX8_beside_9 (by decide) ?_
    exact jn0 (q + 1) (by first | rw [if_pos (by omega)] | rw [if_neg (by omega)]) ls (lv_sub hl [0, 1] rfl)
set_option maxHeartbeats 4000000 in
set_option maxRecDepth 100000 in
theorem c_X8_whyNot (l : Launch) (D : va_G) (cyI : ClassId) (v : Nat) (a0 : Nat) (a1 : Nat) (a2 : Nat) (a3 : Nat) (e4 : Int) (a5 : Nat) (e6 : Int) (a7 : Nat) (e8 : Int) (e9 : Int) (e10 : Int) (a11 : Nat) (e12 : Int) (e13 : Int) (e14 : Int) (a15 : Nat) (m : Int → Int) (k : Int) (hC : CatOK (cM m)) (hk : 0 ≤ k ∧ k < m 5) : fp_M l yX8_whyNot wsX8_whyNot ({ frames := 5, cells := 0, slots := 0, locals := 108 } : Room) D cyI [(v, .inr (8, [.ref a0, .ref a1, .ref a2, .ref a3, .int (iI (e4)), .ref a5, .int (iI (e6)), .ref a7, .int (iI (e8)), .int (iI (e9)), .int (iI (e10)), .ref a11, .int (iI (e12)), .int (iI (e13)), .int (iI (e14)), .ref a15])), (a0, fA cyI 54 m)] [.ref v, .int (iI (k))] (some (.int (iI (whC (cM m) k)))) := by
  refine fp_start (cc := cX8_whyNot) (maxL := 3) (ret := (some .int)) (by decide) rfl (Nat.le_of_ble_eq_true rfl) ?_
  intro pg en sx mi ar bl mt cd ls hx hb hr hts hown hlocks hml hnm hP hK hD hl
  have hown : sx.vm.findClass RX8 = some mi.cls := hown
  have hl : lv_has ls 3 [(0, .ref v), (1, .int (iI (k)))] := hl
  have hN := hC.1
  rw [cM_0] at hN
  have hl5 := la_b hC
  have hp := pp_b hC (k := k) (by rw [cM_0]; exact hk)
  refine lv_aload_n hx hb dX8_whyNot_0 rfl (lv_at hl 0 rfl) ?_
  refine lv_iload_n hx hb dX8_whyNot_1 rfl (lv_at hl 1 rfl) ?_
  refine fp_pV (As := [.int (iI (k))]) (rest := []) (wsC := [(v, .inr (8, [.ref a0, .ref a1, .ref a2, .ref a3, .int (iI (e4)), .ref a5, .int (iI (e6)), .ref a7, .int (iI (e8)), .int (iI (e9)), .int (iI (e10)), .ref a11, .int (iI (e12)), .int (iI (e13)), .int (iI (e14)), .ref a15])), (a0, fA cyI 54 m)]) ⟨hx, hb, hml, hown, hts⟩ (c_X8_hasPlate l D cyI v a0 a1 a2 a3 e4 a5 e6 a7 e8 e9 e10 a11 e12 e13 e14 a15 m k hC (by omega)) (cwV 1 hts gX8_whyNot_X8_hasPlate rfl rfl rfl (by decide +kernel) ⟨Nat.le_of_ble_eq_true rfl, Nat.le_of_ble_eq_true rfl⟩) hK hP hD [0, 1] (by decide) rfl rfl rfl rfl hl.1 rfl (Nat.le_of_ble_eq_true rfl) dX8_whyNot_2 ⟨Nat.zero_le _, Nat.zero_le _⟩ ?_
  refine fp_if_ne (tgt := 10) hx hb (bI_r32 _) dX8_whyNot_5 (by decide) (fun q5 => ?_) (fun q5 => ?_)
  · skip
    have w5 := bI_ne q5
    have hpl := hp.2.2.2.2 w5
    have hot := oth_rg (ppC (cM m) k) (laC (cM m))
    refine lv_aload_n hx hb dX8_whyNot_10 rfl (lv_at hl 0 rfl) ?_
    refine lv_aload_n hx hb dX8_whyNot_11 rfl (lv_at hl 0 rfl) ?_
    refine lv_iload_n hx hb dX8_whyNot_12 rfl (lv_at hl 1 rfl) ?_
    refine fp_pV (As := [.int (iI (k))]) (rest := [.ref v]) (wsC := [(v, .inr (8, [.ref a0, .ref a1, .ref a2, .ref a3, .int (iI (e4)), .ref a5, .int (iI (e6)), .ref a7, .int (iI (e8)), .int (iI (e9)), .int (iI (e10)), .ref a11, .int (iI (e12)), .int (iI (e13)), .int (iI (e14)), .ref a15])), (a0, fA cyI 54 m)]) ⟨hx, hb, hml, hown, hts⟩ (c_X8_platePage l D cyI v a0 a1 a2 a3 e4 a5 e6 a7 e8 e9 e10 a11 e12 e13 e14 a15 m k hC (by omega)) (cwV 1 hts gX8_whyNot_X8_platePage rfl rfl rfl (by decide +kernel) ⟨Nat.le_of_ble_eq_true rfl, Nat.le_of_ble_eq_true rfl⟩) hK hP hD [0, 1] (by decide) rfl rfl rfl rfl hl.1 rfl (Nat.le_of_ble_eq_true rfl) dX8_whyNot_13 ⟨Nat.zero_le _, Nat.zero_le _⟩ ?_
    refine fp_pV (As := [.int (iI (ppC (cM m) k))]) (rest := []) (wsC := [(v, .inr (8, [.ref a0, .ref a1, .ref a2, .ref a3, .int (iI (e4)), .ref a5, .int (iI (e6)), .ref a7, .int (iI (e8)), .int (iI (e9)), .int (iI (e10)), .ref a11, .int (iI (e12)), .int (iI (e13)), .int (iI (e14)), .ref a15])), (a0, fA cyI 54 m)]) ⟨hx, hb, hml, hown, hts⟩ (c_X8_beside l D cyI v a0 a1 a2 a3 e4 a5 e6 a7 e8 e9 e10 a11 e12 e13 e14 a15 m (ppC (cM m) k) hC (by omega)) (cwV 1 hts gX8_whyNot_X8_beside rfl rfl rfl (by decide +kernel) ⟨Nat.le_of_ble_eq_true rfl, Nat.le_of_ble_eq_true rfl⟩) hK hP hD [0, 1] (by decide) rfl rfl rfl rfl hl.1 rfl (Nat.le_of_ble_eq_true rfl) dX8_whyNot_16 ⟨Nat.zero_le _, Nat.zero_le _⟩ ?_
    refine lv_istore_n (lv' := [(2, .int (iI (othI (ppC (cM m) k) (laC (cM m))))), (0, .ref v), (1, .int (iI (k)))]) hx hb dX8_whyNot_19 rfl hl (by decide) rfl (fun ls hl => ?_)
    refine lv_iload_n hx hb dX8_whyNot_20 rfl (lv_at hl 0 rfl) ?_
    refine fp_bipush hx hb dX8_whyNot_21 (by decide) ?_
    refine fp_icmp_ne (tgt := 28) hx hb (by omega) dX8_whyNot_23 (by decide) (fun q23 => ?_) (fun q23 => ?_)
    · skip
      have hkr := kind_rg hC (p := othI (ppC (cM m) k) (laC (cM m))) (by omega)
      have hlo := lo_rg hC (p := othI (ppC (cM m) k) (laC (cM m))) (by omega)
      rw [cM_0] at hlo
      refine lv_aload_n hx hb dX8_whyNot_28 rfl (lv_at hl 1 rfl) ?_
      refine lv_iload_n hx hb dX8_whyNot_29 rfl (lv_at hl 0 rfl) ?_
      refine fp_pV (As := [.int (iI (othI (ppC (cM m) k) (laC (cM m))))]) (rest := []) (wsC := [(v, .inr (8, [.ref a0, .ref a1, .ref a2, .ref a3, .int (iI (e4)), .ref a5, .int (iI (e6)), .ref a7, .int (iI (e8)), .int (iI (e9)), .int (iI (e10)), .ref a11, .int (iI (e12)), .int (iI (e13)), .int (iI (e14)), .ref a15])), (a0, fA cyI 54 m)]) ⟨hx, hb, hml, hown, hts⟩ (c_X8_kindAt l D cyI v a0 a1 a2 a3 e4 a5 e6 a7 e8 e9 e10 a11 e12 e13 e14 a15 m (othI (ppC (cM m) k) (laC (cM m))) hC (by omega)) (cwV 1 hts gX8_whyNot_X8_kindAt rfl rfl rfl (by decide +kernel) ⟨Nat.le_of_ble_eq_true rfl, Nat.le_of_ble_eq_true rfl⟩) hK hP hD [0, 1] (by decide) rfl rfl rfl rfl hl.1 rfl (Nat.le_of_ble_eq_true rfl) dX8_whyNot_30 ⟨Nat.zero_le _, Nat.zero_le _⟩ ?_
      refine fp_pS (As := [.int (iI (kindC (cM m) (othI (ppC (cM m) k) (laC (cM m)))))]) (rest := []) (wsC := [(v, .inr (8, [.ref a0, .ref a1, .ref a2, .ref a3, .int (iI (e4)), .ref a5, .int (iI (e6)), .ref a7, .int (iI (e8)), .int (iI (e9)), .int (iI (e10)), .ref a11, .int (iI (e12)), .int (iI (e13)), .int (iI (e14)), .ref a15])), (a0, fA cyI 54 m)]) ⟨hx, hb, hml, hown, hts⟩ (c_X8_isBlank l D cyI (kindC (cM m) (othI (ppC (cM m) k) (laC (cM m)))) (by omega)) (va_cwS 1 hts gX8_whyNot_X8_isBlank rfl rfl rfl (by decide +kernel) ⟨Nat.le_of_ble_eq_true rfl, Nat.le_of_ble_eq_true rfl⟩) hK hP hD [] (by decide) rfl rfl hl.1 rfl (Nat.le_of_ble_eq_true rfl) dX8_whyNot_33 ⟨Nat.zero_le _, Nat.zero_le _⟩ ?_
      refine fp_if_eq (tgt := 43) hx hb (bI_r32 _) dX8_whyNot_36 (by decide) (fun q36 => ?_) (fun q36 => ?_)
      · skip
        have n36 := bI_e q36
        have how : ownC (cM m) (othI (ppC (cM m) k) (laC (cM m))) = lotC (cM m) (othI (ppC (cM m) k) (laC (cM m))) := if_neg n36
        refine lv_aload_n hx hb dX8_whyNot_43 rfl (lv_at hl 1 rfl) ?_
        refine lv_iload_n hx hb dX8_whyNot_44 rfl (lv_at hl 0 rfl) ?_
        refine fp_pV (As := [.int (iI (othI (ppC (cM m) k) (laC (cM m))))]) (rest := []) (wsC := [(v, .inr (8, [.ref a0, .ref a1, .ref a2, .ref a3, .int (iI (e4)), .ref a5, .int (iI (e6)), .ref a7, .int (iI (e8)), .int (iI (e9)), .int (iI (e10)), .ref a11, .int (iI (e12)), .int (iI (e13)), .int (iI (e14)), .ref a15])), (a0, fA cyI 54 m)]) ⟨hx, hb, hml, hown, hts⟩ (c_X8_lotAt l D cyI v a0 a1 a2 a3 e4 a5 e6 a7 e8 e9 e10 a11 e12 e13 e14 a15 m (othI (ppC (cM m) k) (laC (cM m))) hC (by omega)) (cwV 1 hts gX8_whyNot_X8_lotAt rfl rfl rfl (by decide +kernel) ⟨Nat.le_of_ble_eq_true rfl, Nat.le_of_ble_eq_true rfl⟩) hK hP hD [0, 1] (by decide) rfl rfl rfl rfl hl.1 rfl (Nat.le_of_ble_eq_true rfl) dX8_whyNot_45 ⟨Nat.zero_le _, Nat.zero_le _⟩ ?_
        refine lv_iload_n hx hb dX8_whyNot_48 rfl (lv_at hl 2 rfl) ?_
        refine fp_icmp_ne (tgt := 56) hx hb (by omega) dX8_whyNot_49 (by decide) (fun q49 => ?_) (fun q49 => ?_)
        · skip
          refine fp_iconst hx hb dX8_whyNot_56 ?_
          have hret : (whC (cM m) k : Int) = 2 := (by unfold whC; first | rw [if_pos (by omega)] | rw [if_neg (by omega), if_pos q23] | rw [if_neg (by omega), if_neg q23, if_pos c36] | rw [if_neg (by omega), if_neg q23, if_neg n36, how, if_pos q49] | rw [if_neg (by omega), if_neg q23, if_neg n36, how, if_neg q49])
          exact fp_ret hx hb hr hlocks dX8_whyNot_57 (congrArg (fun z : Int => Value.int (iI z)) hret)
        · skip
          refine fp_iconst hx hb dX8_whyNot_52 ?_
          refine lv_goto (tgt := 57) hx hb dX8_whyNot_53 (by decide) ?_
          have hret : (whC (cM m) k : Int) = 0 := (by unfold whC; first | rw [if_pos (by omega)] | rw [if_neg (by omega), if_pos q23] | rw [if_neg (by omega), if_neg q23, if_pos c36] | rw [if_neg (by omega), if_neg q23, if_neg n36, how, if_pos q49] | rw [if_neg (by omega), if_neg q23, if_neg n36, how, if_neg q49])
          exact fp_ret hx hb hr hlocks dX8_whyNot_57 (congrArg (fun z : Int => Value.int (iI z)) hret)
      · skip
        have c36 := bI_ne q36
        refine fp_iconst hx hb dX8_whyNot_39 ?_
        refine lv_goto (tgt := 57) hx hb dX8_whyNot_40 (by decide) ?_
        have hret : (whC (cM m) k : Int) = 3 := (by unfold whC; first | rw [if_pos (by omega)] | rw [if_neg (by omega), if_pos q23] | rw [if_neg (by omega), if_neg q23, if_pos c36] | rw [if_neg (by omega), if_neg q23, if_neg n36, how, if_pos q49] | rw [if_neg (by omega), if_neg q23, if_neg n36, how, if_neg q49])
        exact fp_ret hx hb hr hlocks dX8_whyNot_57 (congrArg (fun z : Int => Value.int (iI z)) hret)
    · skip
      refine fp_iconst hx hb dX8_whyNot_26 ?_
      have hret : (whC (cM m) k : Int) = 1 := (by unfold whC; first | rw [if_pos (by omega)] | rw [if_neg (by omega), if_pos q23] | rw [if_neg (by omega), if_neg q23, if_pos c36] | rw [if_neg (by omega), if_neg q23, if_neg n36, how, if_pos q49] | rw [if_neg (by omega), if_neg q23, if_neg n36, how, if_neg q49])
      exact fp_ret hx hb hr hlocks dX8_whyNot_27 (congrArg (fun z : Int => Value.int (iI z)) hret)
  · skip
    have w5 := bI_e q5
    refine fp_iconst hx hb dX8_whyNot_8 ?_
    have hret : (whC (cM m) k : Int) = 0 := (by unfold whC; first | rw [if_pos (by omega)] | rw [if_neg (by omega), if_pos q23] | rw [if_neg (by omega), if_neg q23, if_pos c36] | rw [if_neg (by omega), if_neg q23, if_neg n36, how, if_pos q49] | rw [if_neg (by omega), if_neg q23, if_neg n36, how, if_neg q49])
    exact fp_ret hx hb hr hlocks dX8_whyNot_9 (congrArg (fun z : Int => Value.int (iI z)) hret)
theorem fl_X8_plates_7 : Cond.fieldLink RX8 7 "FacingPlatesModel" "all" "[I" ∈ wsX8_plates := by decide +kernel
set_option maxHeartbeats 4000000 in
set_option maxRecDepth 100000 in
theorem c_X8_plates (l : Launch) (D : va_G) (cyI : ClassId) (v : Nat) (a0 : Nat) (a1 : Nat) (a2 : Nat) (a3 : Nat) (e4 : Int) (a5 : Nat) (e6 : Int) (a7 : Nat) (e8 : Int) (e9 : Int) (e10 : Int) (a11 : Nat) (e12 : Int) (e13 : Int) (e14 : Int) (a15 : Nat) (m : Int → Int) (w : Int) (hC : CatOK (cM m)) (hw : 1 ≤ w ∧ w ≤ 2) : fp_M l yX8_plates wsX8_plates ({ frames := 0, cells := 0, slots := 0, locals := 0 } : Room) D cyI [(v, .inr (8, [.ref a0, .ref a1, .ref a2, .ref a3, .int (iI (e4)), .ref a5, .int (iI (e6)), .ref a7, .int (iI (e8)), .int (iI (e9)), .int (iI (e10)), .ref a11, .int (iI (e12)), .int (iI (e13)), .int (iI (e14)), .ref a15])), (a0, fA cyI 54 m)] [.ref v, .int (iI (w))] (some (.int (iI (sumI (cM m 0).toNat (fun k9 => bI (w ≤ cM m (k9 * 4 + 2))))))) := by
  refine fp_start (cc := cX8_plates) (maxL := 4) (ret := (some .int)) (by decide) rfl (Nat.le_of_ble_eq_true rfl) ?_
  intro pg en sx mi ar bl mt cd ls hx hb hr hts hown hlocks hml hnm hP hK hD hl
  have hown : sx.vm.findClass RX8 = some mi.cls := hown
  have hl : lv_has ls 4 [(0, .ref v), (1, .int (iI (w)))] := hl
  have hN := hC.1
  rw [cM_0] at hN
  refine fp_iconst hx hb dX8_plates_0 ?_
  refine lv_istore_n (lv' := [(2, .int (iI (0))), (0, .ref v), (1, .int (iI (w)))]) hx hb dX8_plates_1 rfl hl (by decide) rfl (fun ls hl => ?_)
  refine fp_iconst hx hb dX8_plates_2 ?_
  refine lv_istore_n (lv' := [(3, .int (iI (0))), (2, .int (iI (0))), (0, .ref v), (1, .int (iI (w)))]) hx hb dX8_plates_3 rfl hl (by decide) rfl (fun ls hl => ?_)
  have hl := lv_sub hl (l' := [(0, .ref v), (1, .int (iI (w))), (2, .int (iI (0))), (3, .int (iI (0)))]) [2, 3, 1, 0] rfl
  have lp0 : ∀ (nf : Nat) (x : Int) (k : Int), (0 ≤ k ∧ k ≤ m 5) → (x = sumI k.toNat (fun k9 => bI (w ≤ cM m (k9 * 4 + 2)))) → (m 5 + 1 ≤ k + (nf : Int)) → ∀ (ls : Array Slot), lv_has ls 4 [(0, .ref v), (1, .int (iI (w))), (2, .int (iI (x))), (3, .int (iI (k)))] → W pg l en ({ frames := 0, cells := 0, slots := 0, locals := 0 } : Room) sx mi ar bl mt cd sx.heap [] 0 0 (MQ bl (fp_Qp (some (.int (iI (sumI (cM m 0).toNat (fun k9 => bI (w ≤ cM m (k9 * 4 + 2)))))))) ar sx 0 0 (fun _ => False)) (F0 mi 4 ls []) := by
    intro nf
    induction nf with
    | zero =>
      intro x k ik ix hfuel
      exact absurd hfuel (by omega)
    | succ nf ih0 =>
      intro x k ik ix hfuel ls hl
      refine lv_iload_n hx hb dX8_plates_4 rfl (lv_at hl 3 rfl) ?_
      refine lv_aload_n hx hb dX8_plates_5 rfl (lv_at hl 0 rfl) ?_
      refine va_get (D := D) (ci := 8) (ws := [(v, .inr (8, [.ref a0, .ref a1, .ref a2, .ref a3, .int (iI (e4)), .ref a5, .int (iI (e6)), .ref a7, .int (iI (e8)), .int (iI (e9)), .int (iI (e10)), .ref a11, .int (iI (e12)), .int (iI (e13)), .int (iI (e14)), .ref a15])), (a0, fA cyI 54 m)]) (v := .ref a0) (C := RX8) (T := TX8) (N := 16) hx hb hts (fun _ h => List.mem_cons_of_mem _ (List.mem_append_right _ h)) hown hK.1 hP 0 rfl rfl 0 (by decide) (hts _ fl_X8_plates_7) (fun _ h9 => h9) rfl dX8_plates_6 ?_
      refine fp_iconst hx hb dX8_plates_9 ?_
      refine fp_iald (wsC := [(v, .inr (8, [.ref a0, .ref a1, .ref a2, .ref a3, .int (iI (e4)), .ref a5, .int (iI (e6)), .ref a7, .int (iI (e8)), .int (iI (e9)), .int (iI (e10)), .ref a11, .int (iI (e12)), .int (iI (e13)), .int (iI (e14)), .ref a15])), (a0, fA cyI 54 m)]) hx hb hK hP 1 rfl (by omega) (by decide) dX8_plates_10 ?_
      refine fp_icmp_ge (tgt := 41) hx hb (by omega) dX8_plates_11 (by decide) (fun q11 => ?_) (fun q11 => ?_)
      · skip
        refine lv_iload_n hx hb dX8_plates_41 rfl (lv_at hl 2 rfl) ?_
        have hret : (sumI (cM m 0).toNat (fun k9 => bI (w ≤ cM m (k9 * 4 + 2))) : Int) = x := (by rw [ix, cM_0]; congr 2; omega)
        exact fp_ret hx hb hr hlocks dX8_plates_42 (congrArg (fun z : Int => Value.int (iI z)) hret)
      · skip
        have hk : 0 ≤ k ∧ k < m 5 := by omega
        have hL := lot_f hC (k := k) (by rw [cM_0]; exact hk)
        unfold LotOK at hL
        rw [cM_t (by omega), cM_p (by omega), cM_b (by omega), cM_q (by omega)] at hL
        refine lv_iload_n hx hb dX8_plates_14 rfl (lv_at hl 2 rfl) ?_
        refine lv_aload_n hx hb dX8_plates_15 rfl (lv_at hl 0 rfl) ?_
        refine va_get (D := D) (ci := 8) (ws := [(v, .inr (8, [.ref a0, .ref a1, .ref a2, .ref a3, .int (iI (e4)), .ref a5, .int (iI (e6)), .ref a7, .int (iI (e8)), .int (iI (e9)), .int (iI (e10)), .ref a11, .int (iI (e12)), .int (iI (e13)), .int (iI (e14)), .ref a15])), (a0, fA cyI 54 m)]) (v := .ref a0) (C := RX8) (T := TX8) (N := 16) hx hb hts (fun _ h => List.mem_cons_of_mem _ (List.mem_append_right _ h)) hown hK.1 hP 0 rfl rfl 0 (by decide) (hts _ fl_X8_plates_7) (fun _ h9 => h9) rfl dX8_plates_16 ?_
        refine fp_bipush hx hb dX8_plates_19 (by decide) ?_
        refine lv_iload_n hx hb dX8_plates_21 rfl (lv_at hl 3 rfl) ?_
        refine fp_iadd hx hb dX8_plates_22 ?_
        refine fp_iald (wsC := [(v, .inr (8, [.ref a0, .ref a1, .ref a2, .ref a3, .int (iI (e4)), .ref a5, .int (iI (e6)), .ref a7, .int (iI (e8)), .int (iI (e9)), .int (iI (e10)), .ref a11, .int (iI (e12)), .int (iI (e13)), .int (iI (e14)), .ref a15])), (a0, fA cyI 54 m)]) hx hb hK hP 1 rfl (by omega) (by decide) dX8_plates_23 ?_
        refine lv_iload_n hx hb dX8_plates_24 rfl (lv_at hl 1 rfl) ?_
        refine fp_icmp_lt (tgt := 32) hx hb (by omega) dX8_plates_25 (by decide) (fun q25 => ?_) (fun q25 => ?_)
        · skip
          refine fp_iconst hx hb dX8_plates_32 ?_
          refine fp_iadd hx hb dX8_plates_33 ?_
          refine lv_istore_n (lv' := [(2, .int (iI (x + 0))), (0, .ref v), (1, .int (iI (w))), (3, .int (iI (k)))]) hx hb dX8_plates_34 rfl hl (by decide) rfl (fun ls hl => ?_)
          refine fp_iinc (k := 3) (lv' := [(3, .int (iI (k + 1))), (2, .int (iI (x + 0))), (0, .ref v), (1, .int (iI (w)))]) hx hb dX8_plates_35 hl rfl (by decide) rfl (fun ls hl => ?_)
          refine lv_goto (tgt := 4) hx hb dX8_plates_38 (by decide) ?_
          exact ih0 (x + 0) (k + 1) (by omega) (by rw [ix, sumI_s _ ik.1, cM_p (by omega)]; congr 1; first | rw [bI_t (by omega)] | rw [bI_f (by omega)]) (by omega) ls (lv_sub hl [2, 3, 1, 0] rfl)
        · skip
          refine fp_iconst hx hb dX8_plates_28 ?_
          refine lv_goto (tgt := 33) hx hb dX8_plates_29 (by decide) ?_
          refine fp_iadd hx hb dX8_plates_33 ?_
          refine lv_istore_n (lv' := [(2, .int (iI (x + 1))), (0, .ref v), (1, .int (iI (w))), (3, .int (iI (k)))]) hx hb dX8_plates_34 rfl hl (by decide) rfl (fun ls hl => ?_)
          refine fp_iinc (k := 3) (lv' := [(3, .int (iI (k + 1))), (2, .int (iI (x + 1))), (0, .ref v), (1, .int (iI (w)))]) hx hb dX8_plates_35 hl rfl (by decide) rfl (fun ls hl => ?_)
          refine lv_goto (tgt := 4) hx hb dX8_plates_38 (by decide) ?_
          exact ih0 (x + 1) (k + 1) (by omega) (by rw [ix, sumI_s _ ik.1, cM_p (by omega)]; congr 1; first | rw [bI_t (by omega)] | rw [bI_f (by omega)]) (by omega) ls (lv_sub hl [2, 3, 1, 0] rfl)
  exact lp0 (((m 5 : Int) + 1 - (0)).toNat) 0 0 (by omega) rfl (by omega) ls hl
theorem fl_X8_platesThatFace_7 : Cond.fieldLink RX8 7 "FacingPlatesModel" "all" "[I" ∈ wsX8_platesThatFace := by decide +kernel
set_option maxHeartbeats 4000000 in
set_option maxRecDepth 100000 in
theorem c_X8_platesThatFace (l : Launch) (D : va_G) (cyI : ClassId) (v : Nat) (a0 : Nat) (a1 : Nat) (a2 : Nat) (a3 : Nat) (e4 : Int) (a5 : Nat) (e6 : Int) (a7 : Nat) (e8 : Int) (e9 : Int) (e10 : Int) (a11 : Nat) (e12 : Int) (e13 : Int) (e14 : Int) (a15 : Nat) (m : Int → Int) (hC : CatOK (cM m)) : fp_M l yX8_platesThatFace wsX8_platesThatFace ({ frames := 6, cells := 0, slots := 0, locals := 130 } : Room) D cyI [(v, .inr (8, [.ref a0, .ref a1, .ref a2, .ref a3, .int (iI (e4)), .ref a5, .int (iI (e6)), .ref a7, .int (iI (e8)), .int (iI (e9)), .int (iI (e10)), .ref a11, .int (iI (e12)), .int (iI (e13)), .int (iI (e14)), .ref a15])), (a0, fA cyI 54 m)] [.ref v] (some (.int (iI (fcC (cM m))))) := by
  refine fp_start (cc := cX8_platesThatFace) (maxL := 3) (ret := (some .int)) (by decide) rfl (Nat.le_of_ble_eq_true rfl) ?_
  intro pg en sx mi ar bl mt cd ls hx hb hr hts hown hlocks hml hnm hP hK hD hl
  have hown : sx.vm.findClass RX8 = some mi.cls := hown
  have hl : lv_has ls 3 [(0, .ref v)] := hl
  have hN := hC.1
  rw [cM_0] at hN
  refine fp_iconst hx hb dX8_platesThatFace_0 ?_
  refine lv_istore_n (lv' := [(1, .int (iI (0))), (0, .ref v)]) hx hb dX8_platesThatFace_1 rfl hl (by decide) rfl (fun ls hl => ?_)
  refine fp_iconst hx hb dX8_platesThatFace_2 ?_
  refine lv_istore_n (lv' := [(2, .int (iI (0))), (1, .int (iI (0))), (0, .ref v)]) hx hb dX8_platesThatFace_3 rfl hl (by decide) rfl (fun ls hl => ?_)
  have hl := lv_sub hl (l' := [(0, .ref v), (1, .int (iI (0))), (2, .int (iI (0)))]) [2, 1, 0] rfl
  have lp0 : ∀ (nf : Nat) (x : Int) (k : Int), (0 ≤ k ∧ k ≤ m 5) → (x = sumI k.toNat (fun k => bI (¬ cM m (k * 4 + 2) = 0 ∧ whC (cM m) k = 0))) → (m 5 + 1 ≤ k + (nf : Int)) → ∀ (ls : Array Slot), lv_has ls 3 [(0, .ref v), (1, .int (iI (x))), (2, .int (iI (k)))] → W pg l en ({ frames := 6, cells := 0, slots := 0, locals := 130 } : Room) sx mi ar bl mt cd sx.heap [] 0 0 (MQ bl (fp_Qp (some (.int (iI (fcC (cM m)))))) ar sx 0 0 (fun _ => False)) (F0 mi 4 ls []) := by
    intro nf
    induction nf with
    | zero =>
      intro x k ik ix hfuel
      exact absurd hfuel (by omega)
    | succ nf ih0 =>
      intro x k ik ix hfuel ls hl
      refine lv_iload_n hx hb dX8_platesThatFace_4 rfl (lv_at hl 2 rfl) ?_
      refine lv_aload_n hx hb dX8_platesThatFace_5 rfl (lv_at hl 0 rfl) ?_
      refine va_get (D := D) (ci := 8) (ws := [(v, .inr (8, [.ref a0, .ref a1, .ref a2, .ref a3, .int (iI (e4)), .ref a5, .int (iI (e6)), .ref a7, .int (iI (e8)), .int (iI (e9)), .int (iI (e10)), .ref a11, .int (iI (e12)), .int (iI (e13)), .int (iI (e14)), .ref a15])), (a0, fA cyI 54 m)]) (v := .ref a0) (C := RX8) (T := TX8) (N := 16) hx hb hts (fun _ h => List.mem_cons_of_mem _ (List.mem_append_right _ h)) hown hK.1 hP 0 rfl rfl 0 (by decide) (hts _ fl_X8_platesThatFace_7) (fun _ h9 => h9) rfl dX8_platesThatFace_6 ?_
      refine fp_iconst hx hb dX8_platesThatFace_9 ?_
      refine fp_iald (wsC := [(v, .inr (8, [.ref a0, .ref a1, .ref a2, .ref a3, .int (iI (e4)), .ref a5, .int (iI (e6)), .ref a7, .int (iI (e8)), .int (iI (e9)), .int (iI (e10)), .ref a11, .int (iI (e12)), .int (iI (e13)), .int (iI (e14)), .ref a15])), (a0, fA cyI 54 m)]) hx hb hK hP 1 rfl (by omega) (by decide) dX8_platesThatFace_10 ?_
      refine fp_icmp_ge (tgt := 44) hx hb (by omega) dX8_platesThatFace_11 (by decide) (fun q11 => ?_) (fun q11 => ?_)
      · skip
        refine lv_iload_n hx hb dX8_platesThatFace_44 rfl (lv_at hl 1 rfl) ?_
        have hret : (fcC (cM m) : Int) = x := (by unfold fcC; rw [ix, cM_0]; congr 2; omega)
        exact fp_ret hx hb hr hlocks dX8_platesThatFace_45 (congrArg (fun z : Int => Value.int (iI z)) hret)
      · skip
        refine lv_iload_n hx hb dX8_platesThatFace_14 rfl (lv_at hl 1 rfl) ?_
        refine lv_aload_n hx hb dX8_platesThatFace_15 rfl (lv_at hl 0 rfl) ?_
        refine lv_iload_n hx hb dX8_platesThatFace_16 rfl (lv_at hl 2 rfl) ?_
        refine fp_pV (As := [.int (iI (k))]) (rest := [.int (iI (x))]) (wsC := [(v, .inr (8, [.ref a0, .ref a1, .ref a2, .ref a3, .int (iI (e4)), .ref a5, .int (iI (e6)), .ref a7, .int (iI (e8)), .int (iI (e9)), .int (iI (e10)), .ref a11, .int (iI (e12)), .int (iI (e13)), .int (iI (e14)), .ref a15])), (a0, fA cyI 54 m)]) ⟨hx, hb, hml, hown, hts⟩ (c_X8_hasPlate l D cyI v a0 a1 a2 a3 e4 a5 e6 a7 e8 e9 e10 a11 e12 e13 e14 a15 m k hC (by omega)) (cwV 1 hts gX8_platesThatFace_X8_hasPlate rfl rfl rfl (by decide +kernel) ⟨Nat.le_of_ble_eq_true rfl, Nat.le_of_ble_eq_true rfl⟩) hK hP hD [0, 1] (by decide) rfl rfl rfl rfl hl.1 rfl (Nat.le_of_ble_eq_true rfl) dX8_platesThatFace_17 ⟨Nat.zero_le _, Nat.zero_le _⟩ ?_
        refine fp_if_eq (tgt := 35) hx hb (bI_r32 _) dX8_platesThatFace_20 (by decide) (fun q20 => ?_) (fun q20 => ?_)
        · skip
          have w20 := bI_e q20
          refine fp_iconst hx hb dX8_platesThatFace_35 ?_
          refine fp_iadd hx hb dX8_platesThatFace_36 ?_
          refine lv_istore_n (lv' := [(1, .int (iI (x + 0))), (0, .ref v), (2, .int (iI (k)))]) hx hb dX8_platesThatFace_37 rfl hl (by decide) rfl (fun ls hl => ?_)
          refine fp_iinc (k := 2) (lv' := [(2, .int (iI (k + 1))), (1, .int (iI (x + 0))), (0, .ref v)]) hx hb dX8_platesThatFace_38 hl rfl (by decide) rfl (fun ls hl => ?_)
          refine lv_goto (tgt := 4) hx hb dX8_platesThatFace_41 (by decide) ?_
          exact ih0 (x + 0) (k + 1) (by omega) (by rw [ix, sumI_s _ ik.1]; congr 1; first | rw [bI_t (by omega)] | rw [bI_f (by omega)]) (by omega) ls (lv_sub hl [2, 1, 0] rfl)
        · skip
          have w20 := bI_ne q20
          refine lv_aload_n hx hb dX8_platesThatFace_23 rfl (lv_at hl 0 rfl) ?_
          refine lv_iload_n hx hb dX8_platesThatFace_24 rfl (lv_at hl 2 rfl) ?_
          refine fp_pV (As := [.int (iI (k))]) (rest := [.int (iI (x))]) (wsC := [(v, .inr (8, [.ref a0, .ref a1, .ref a2, .ref a3, .int (iI (e4)), .ref a5, .int (iI (e6)), .ref a7, .int (iI (e8)), .int (iI (e9)), .int (iI (e10)), .ref a11, .int (iI (e12)), .int (iI (e13)), .int (iI (e14)), .ref a15])), (a0, fA cyI 54 m)]) ⟨hx, hb, hml, hown, hts⟩ (c_X8_whyNot l D cyI v a0 a1 a2 a3 e4 a5 e6 a7 e8 e9 e10 a11 e12 e13 e14 a15 m k hC (by omega)) (cwV 1 hts gX8_platesThatFace_X8_whyNot rfl rfl rfl (by decide +kernel) ⟨Nat.le_of_ble_eq_true rfl, Nat.le_of_ble_eq_true rfl⟩) hK hP hD [0, 1] (by decide) rfl rfl rfl rfl hl.1 rfl (Nat.le_of_ble_eq_true rfl) dX8_platesThatFace_25 ⟨Nat.zero_le _, Nat.zero_le _⟩ ?_
          refine fp_if_ne (tgt := 35) hx hb (by have := whC_rg (cM m) k; omega) dX8_platesThatFace_28 (by decide) (fun q28 => ?_) (fun q28 => ?_)
          · skip
            refine fp_iconst hx hb dX8_platesThatFace_35 ?_
            refine fp_iadd hx hb dX8_platesThatFace_36 ?_
            refine lv_istore_n (lv' := [(1, .int (iI (x + 0))), (0, .ref v), (2, .int (iI (k)))]) hx hb dX8_platesThatFace_37 rfl hl (by decide) rfl (fun ls hl => ?_)
            refine fp_iinc (k := 2) (lv' := [(2, .int (iI (k + 1))), (1, .int (iI (x + 0))), (0, .ref v)]) hx hb dX8_platesThatFace_38 hl rfl (by decide) rfl (fun ls hl => ?_)
            refine lv_goto (tgt := 4) hx hb dX8_platesThatFace_41 (by decide) ?_
            exact ih0 (x + 0) (k + 1) (by omega) (by rw [ix, sumI_s _ ik.1]; congr 1; first | rw [bI_t (by omega)] | rw [bI_f (by omega)]) (by omega) ls (lv_sub hl [2, 1, 0] rfl)
          · skip
            refine fp_iconst hx hb dX8_platesThatFace_31 ?_
            refine lv_goto (tgt := 36) hx hb dX8_platesThatFace_32 (by decide) ?_
            refine fp_iadd hx hb dX8_platesThatFace_36 ?_
            refine lv_istore_n (lv' := [(1, .int (iI (x + 1))), (0, .ref v), (2, .int (iI (k)))]) hx hb dX8_platesThatFace_37 rfl hl (by decide) rfl (fun ls hl => ?_)
            refine fp_iinc (k := 2) (lv' := [(2, .int (iI (k + 1))), (1, .int (iI (x + 1))), (0, .ref v)]) hx hb dX8_platesThatFace_38 hl rfl (by decide) rfl (fun ls hl => ?_)
            refine lv_goto (tgt := 4) hx hb dX8_platesThatFace_41 (by decide) ?_
            exact ih0 (x + 1) (k + 1) (by omega) (by rw [ix, sumI_s _ ik.1]; congr 1; first | rw [bI_t (by omega)] | rw [bI_f (by omega)]) (by omega) ls (lv_sub hl [2, 1, 0] rfl)
  exact lp0 (((m 5 : Int) + 1 - (0)).toNat) 0 0 (by omega) rfl (by omega) ls hl
theorem fl_X8_isColoured_7 : Cond.fieldLink RX8 7 "FacingPlatesModel" "all" "[I" ∈ wsX8_isColoured := by decide +kernel
set_option maxHeartbeats 4000000 in
set_option maxRecDepth 100000 in
theorem c_X8_isColoured (l : Launch) (D : va_G) (cyI : ClassId) (v : Nat) (a0 : Nat) (a1 : Nat) (a2 : Nat) (a3 : Nat) (e4 : Int) (a5 : Nat) (e6 : Int) (a7 : Nat) (e8 : Int) (e9 : Int) (e10 : Int) (a11 : Nat) (e12 : Int) (e13 : Int) (e14 : Int) (a15 : Nat) (m : Int → Int) (j : Int) (sd : Int) (hC : CatOK (cM m)) (hj : 0 ≤ j ∧ j ≤ 100) (hsd : 0 ≤ sd ∧ sd ≤ 1) : fp_M l yX8_isColoured wsX8_isColoured ({ frames := 4, cells := 0, slots := 0, locals := 86 } : Room) D cyI [(v, .inr (8, [.ref a0, .ref a1, .ref a2, .ref a3, .int (iI (e4)), .ref a5, .int (iI (e6)), .ref a7, .int (iI (e8)), .int (iI (e9)), .int (iI (e10)), .ref a11, .int (iI (e12)), .int (iI (e13)), .int (iI (e14)), .ref a15])), (a0, fA cyI 54 m)] [.ref v, .int (iI (j)), .int (iI (sd))] (some (.int (iI (inC (cM m) j sd (cM m 0).toNat)))) := by
  refine fp_start (cc := cX8_isColoured) (maxL := 6) (ret := (some .boolean)) (by decide) rfl (Nat.le_of_ble_eq_true rfl) ?_
  intro pg en sx mi ar bl mt cd ls hx hb hr hts hown hlocks hml hnm hP hK hD hl
  have hown : sx.vm.findClass RX8 = some mi.cls := hown
  have hl : lv_has ls 6 [(0, .ref v), (1, .int (iI (j))), (2, .int (iI (sd)))] := hl
  have hN := hC.1
  rw [cM_0] at hN
  have hl5 := la_b hC
  have hX := hC.2.2
  unfold SetOK at hX
  refine fp_iconst hx hb dX8_isColoured_0 ?_
  refine lv_istore_n (lv' := [(3, .int (iI (0))), (0, .ref v), (1, .int (iI (j))), (2, .int (iI (sd)))]) hx hb dX8_isColoured_1 rfl hl (by decide) rfl (fun ls hl => ?_)
  refine fp_iconst hx hb dX8_isColoured_2 ?_
  refine lv_istore (lv' := [(4, .int (iI (0))), (3, .int (iI (0))), (0, .ref v), (1, .int (iI (j))), (2, .int (iI (sd)))]) hx hb dX8_isColoured_3 hl (by decide) rfl (fun ls hl => ?_)
  have hl := lv_sub hl (l' := [(0, .ref v), (1, .int (iI (j))), (2, .int (iI (sd))), (3, .int (iI (0))), (4, .int (iI (0)))]) [2, 3, 4, 1, 0] rfl
  have lp0 : ∀ (nf : Nat) (x : Int) (k : Int), (0 ≤ k ∧ k ≤ m 5) → (x = inC (cM m) j sd k.toNat) → (m 5 + 1 ≤ k + (nf : Int)) → ∀ (ls : Array Slot), lv_has ls 6 [(0, .ref v), (1, .int (iI (j))), (2, .int (iI (sd))), (3, .int (iI (x))), (4, .int (iI (k)))] → W pg l en ({ frames := 4, cells := 0, slots := 0, locals := 86 } : Room) sx mi ar bl mt cd sx.heap [] 0 0 (MQ bl (fp_Qp (some (.int (iI (inC (cM m) j sd (cM m 0).toNat))))) ar sx 0 0 (fun _ => False)) (F0 mi 5 ls []) := by
    intro nf
    induction nf with
    | zero =>
      intro x k ik ix hfuel
      exact absurd hfuel (by omega)
    | succ nf ih0 =>
      intro x k ik ix hfuel ls hl
      refine lv_iload hx hb dX8_isColoured_5 (lv_at hl 4 rfl) ?_
      refine lv_aload_n hx hb dX8_isColoured_7 rfl (lv_at hl 0 rfl) ?_
      refine va_get (D := D) (ci := 8) (ws := [(v, .inr (8, [.ref a0, .ref a1, .ref a2, .ref a3, .int (iI (e4)), .ref a5, .int (iI (e6)), .ref a7, .int (iI (e8)), .int (iI (e9)), .int (iI (e10)), .ref a11, .int (iI (e12)), .int (iI (e13)), .int (iI (e14)), .ref a15])), (a0, fA cyI 54 m)]) (v := .ref a0) (C := RX8) (T := TX8) (N := 16) hx hb hts (fun _ h => List.mem_cons_of_mem _ (List.mem_append_right _ h)) hown hK.1 hP 0 rfl rfl 0 (by decide) (hts _ fl_X8_isColoured_7) (fun _ h9 => h9) rfl dX8_isColoured_8 ?_
      refine fp_iconst hx hb dX8_isColoured_11 ?_
      refine fp_iald (wsC := [(v, .inr (8, [.ref a0, .ref a1, .ref a2, .ref a3, .int (iI (e4)), .ref a5, .int (iI (e6)), .ref a7, .int (iI (e8)), .int (iI (e9)), .int (iI (e10)), .ref a11, .int (iI (e12)), .int (iI (e13)), .int (iI (e14)), .ref a15])), (a0, fA cyI 54 m)]) hx hb hK hP 1 rfl (by omega) (by decide) dX8_isColoured_12 ?_
      refine fp_icmp_ge (tgt := 74) hx hb (by omega) dX8_isColoured_13 (by decide) (fun q13 => ?_) (fun q13 => ?_)
      · skip
        refine lv_iload_n hx hb dX8_isColoured_74 rfl (lv_at hl 3 rfl) ?_
        have hret : (inC (cM m) j sd (cM m 0).toNat : Int) = x := (by rw [ix, cM_0]; congr 2; omega)
        exact fp_zret hx hb hr hlocks (by rw [ix]; exact inC_01 _ _ _ _) dX8_isColoured_75 (congrArg (fun z : Int => Value.int (iI z)) hret)
      · skip
        have hk : 0 ≤ k ∧ k < m 5 := by omega
        have hp := pp_b hC (k := k) (by rw [cM_0]; exact hk)
        have hx01 := inC_01 (cM m) j sd k.toNat
        have hL := lot_f hC (k := k) (by rw [cM_0]; exact hk)
        unfold LotOK at hL
        rw [cM_t (by omega), cM_p (by omega), cM_b (by omega), cM_q (by omega)] at hL
        have ep : cM m (k * 4 + 2) = m (18 + k) := cM_p (by omega)
        have hb9 := bI_rg (2 ≤ ppC (cM m) k % 4)
        refine lv_aload_n hx hb dX8_isColoured_16 rfl (lv_at hl 0 rfl) ?_
        refine lv_iload hx hb dX8_isColoured_17 (lv_at hl 4 rfl) ?_
        refine fp_pV (As := [.int (iI (k))]) (rest := []) (wsC := [(v, .inr (8, [.ref a0, .ref a1, .ref a2, .ref a3, .int (iI (e4)), .ref a5, .int (iI (e6)), .ref a7, .int (iI (e8)), .int (iI (e9)), .int (iI (e10)), .ref a11, .int (iI (e12)), .int (iI (e13)), .int (iI (e14)), .ref a15])), (a0, fA cyI 54 m)]) ⟨hx, hb, hml, hown, hts⟩ (c_X8_platePage l D cyI v a0 a1 a2 a3 e4 a5 e6 a7 e8 e9 e10 a11 e12 e13 e14 a15 m k hC (by omega)) (cwV 1 hts gX8_isColoured_X8_platePage rfl rfl rfl (by decide +kernel) ⟨Nat.le_of_ble_eq_true rfl, Nat.le_of_ble_eq_true rfl⟩) hK hP hD [0, 1] (by decide) rfl rfl rfl rfl hl.1 rfl (Nat.le_of_ble_eq_true rfl) dX8_isColoured_19 ⟨Nat.zero_le _, Nat.zero_le _⟩ ?_
        refine lv_istore (lv' := [(5, .int (iI (ppC (cM m) k))), (0, .ref v), (1, .int (iI (j))), (2, .int (iI (sd))), (3, .int (iI (x))), (4, .int (iI (k)))]) hx hb dX8_isColoured_22 hl (by decide) rfl (fun ls hl => ?_)
        refine lv_iload_n hx hb dX8_isColoured_24 rfl (lv_at hl 4 rfl) ?_
        refine fp_if_ne (tgt := 62) hx hb (by omega) dX8_isColoured_25 (by decide) (fun q25 => ?_) (fun q25 => ?_)
        · skip
          refine fp_iconst hx hb dX8_isColoured_62 ?_
          refine lv_goto (tgt := 67) hx hb dX8_isColoured_63 (by decide) ?_
          refine lv_istore_n (lv' := [(3, .int (iI (1))), (5, .int (iI (ppC (cM m) k))), (0, .ref v), (1, .int (iI (j))), (2, .int (iI (sd))), (4, .int (iI (k)))]) hx hb dX8_isColoured_67 rfl hl (by decide) rfl (fun ls hl => ?_)
          refine fp_iinc (k := 5) (lv' := [(4, .int (iI (k + 1))), (3, .int (iI (1))), (5, .int (iI (ppC (cM m) k))), (0, .ref v), (1, .int (iI (j))), (2, .int (iI (sd)))]) hx hb dX8_isColoured_68 hl rfl (by decide) rfl (fun ls hl => ?_)
          refine lv_goto (tgt := 5) hx hb dX8_isColoured_71 (by decide) ?_
          exact ih0 1 (k + 1) (by omega) (by rw [inC_s ik.1]; first | rw [if_pos (by omega)] | rw [if_neg (by omega)]) (by omega) ls (lv_sub hl [3, 4, 5, 1, 0] rfl)
        · skip
          refine lv_aload_n hx hb dX8_isColoured_28 rfl (lv_at hl 1 rfl) ?_
          refine va_get (D := D) (ci := 8) (ws := [(v, .inr (8, [.ref a0, .ref a1, .ref a2, .ref a3, .int (iI (e4)), .ref a5, .int (iI (e6)), .ref a7, .int (iI (e8)), .int (iI (e9)), .int (iI (e10)), .ref a11, .int (iI (e12)), .int (iI (e13)), .int (iI (e14)), .ref a15])), (a0, fA cyI 54 m)]) (v := .ref a0) (C := RX8) (T := TX8) (N := 16) hx hb hts (fun _ h => List.mem_cons_of_mem _ (List.mem_append_right _ h)) hown hK.1 hP 0 rfl rfl 0 (by decide) (hts _ fl_X8_isColoured_7) (fun _ h9 => h9) rfl dX8_isColoured_29 ?_
          refine fp_bipush hx hb dX8_isColoured_32 (by decide) ?_
          refine lv_iload hx hb dX8_isColoured_34 (lv_at hl 5 rfl) ?_
          refine fp_iadd hx hb dX8_isColoured_36 ?_
          refine fp_iald (wsC := [(v, .inr (8, [.ref a0, .ref a1, .ref a2, .ref a3, .int (iI (e4)), .ref a5, .int (iI (e6)), .ref a7, .int (iI (e8)), .int (iI (e9)), .int (iI (e10)), .ref a11, .int (iI (e12)), .int (iI (e13)), .int (iI (e14)), .ref a15])), (a0, fA cyI 54 m)]) hx hb hK hP 1 rfl (by omega) (by decide) dX8_isColoured_37 ?_
          refine fp_iconst hx hb dX8_isColoured_38 ?_
          refine fp_icmp_ne (tgt := 66) hx hb (by omega) dX8_isColoured_39 (by decide) (fun q39 => ?_) (fun q39 => ?_)
          · skip
            refine fp_iconst hx hb dX8_isColoured_66 ?_
            refine lv_istore_n (lv' := [(3, .int (iI (0))), (5, .int (iI (ppC (cM m) k))), (0, .ref v), (1, .int (iI (j))), (2, .int (iI (sd))), (4, .int (iI (k)))]) hx hb dX8_isColoured_67 rfl hl (by decide) rfl (fun ls hl => ?_)
            refine fp_iinc (k := 5) (lv' := [(4, .int (iI (k + 1))), (3, .int (iI (0))), (5, .int (iI (ppC (cM m) k))), (0, .ref v), (1, .int (iI (j))), (2, .int (iI (sd)))]) hx hb dX8_isColoured_68 hl rfl (by decide) rfl (fun ls hl => ?_)
            refine lv_goto (tgt := 5) hx hb dX8_isColoured_71 (by decide) ?_
            exact ih0 0 (k + 1) (by omega) (by rw [inC_s ik.1]; first | rw [if_pos (by omega)] | rw [if_neg (by omega)]) (by omega) ls (lv_sub hl [3, 4, 5, 1, 0] rfl)
          · skip
            have hpl := hp.2.2.2.2 (by omega)
            have hgd := gd_rg (q := ppC (cM m) k) hX.1 (by omega)
            refine lv_aload_n hx hb dX8_isColoured_42 rfl (lv_at hl 1 rfl) ?_
            refine lv_iload hx hb dX8_isColoured_43 (lv_at hl 0 rfl) ?_
            refine fp_pV (As := [.int (iI (ppC (cM m) k))]) (rest := []) (wsC := [(v, .inr (8, [.ref a0, .ref a1, .ref a2, .ref a3, .int (iI (e4)), .ref a5, .int (iI (e6)), .ref a7, .int (iI (e8)), .int (iI (e9)), .int (iI (e10)), .ref a11, .int (iI (e12)), .int (iI (e13)), .int (iI (e14)), .ref a15])), (a0, fA cyI 54 m)]) ⟨hx, hb, hml, hown, hts⟩ (c_X8_gatheringOf l D cyI v a0 a1 a2 a3 e4 a5 e6 a7 e8 e9 e10 a11 e12 e13 e14 a15 m (ppC (cM m) k) hC (by omega)) (cwV 1 hts gX8_isColoured_X8_gatheringOf rfl rfl rfl (by decide +kernel) ⟨Nat.le_of_ble_eq_true rfl, Nat.le_of_ble_eq_true rfl⟩) hK hP hD [0, 1] (by decide) rfl rfl rfl rfl hl.1 rfl (Nat.le_of_ble_eq_true rfl) dX8_isColoured_45 ⟨Nat.zero_le _, Nat.zero_le _⟩ ?_
            refine lv_iload_n hx hb dX8_isColoured_48 rfl (lv_at hl 2 rfl) ?_
            refine fp_icmp_ne (tgt := 66) hx hb (by omega) dX8_isColoured_49 (by decide) (fun q49 => ?_) (fun q49 => ?_)
            · skip
              refine fp_iconst hx hb dX8_isColoured_66 ?_
              refine lv_istore_n (lv' := [(3, .int (iI (0))), (5, .int (iI (ppC (cM m) k))), (0, .ref v), (1, .int (iI (j))), (2, .int (iI (sd))), (4, .int (iI (k)))]) hx hb dX8_isColoured_67 rfl hl (by decide) rfl (fun ls hl => ?_)
              refine fp_iinc (k := 5) (lv' := [(4, .int (iI (k + 1))), (3, .int (iI (0))), (5, .int (iI (ppC (cM m) k))), (0, .ref v), (1, .int (iI (j))), (2, .int (iI (sd)))]) hx hb dX8_isColoured_68 hl rfl (by decide) rfl (fun ls hl => ?_)
              refine lv_goto (tgt := 5) hx hb dX8_isColoured_71 (by decide) ?_
              exact ih0 0 (k + 1) (by omega) (by rw [inC_s ik.1]; first | rw [if_pos (by omega)] | rw [if_neg (by omega)]) (by omega) ls (lv_sub hl [3, 4, 5, 1, 0] rfl)
            · skip
              refine lv_aload_n hx hb dX8_isColoured_52 rfl (lv_at hl 1 rfl) ?_
              refine lv_iload hx hb dX8_isColoured_53 (lv_at hl 0 rfl) ?_
              refine fp_pV (As := [.int (iI (ppC (cM m) k))]) (rest := []) (wsC := [(v, .inr (8, [.ref a0, .ref a1, .ref a2, .ref a3, .int (iI (e4)), .ref a5, .int (iI (e6)), .ref a7, .int (iI (e8)), .int (iI (e9)), .int (iI (e10)), .ref a11, .int (iI (e12)), .int (iI (e13)), .int (iI (e14)), .ref a15])), (a0, fA cyI 54 m)]) ⟨hx, hb, hml, hown, hts⟩ (c_X8_sideOf l D cyI v a0 a1 a2 a3 e4 a5 e6 a7 e8 e9 e10 a11 e12 e13 e14 a15 m (ppC (cM m) k) hC (by omega)) (cwV 1 hts gX8_isColoured_X8_sideOf rfl rfl rfl (by decide +kernel) ⟨Nat.le_of_ble_eq_true rfl, Nat.le_of_ble_eq_true rfl⟩) hK hP hD [0, 1] (by decide) rfl rfl rfl rfl hl.1 rfl (Nat.le_of_ble_eq_true rfl) dX8_isColoured_55 ⟨Nat.zero_le _, Nat.zero_le _⟩ ?_
              refine lv_iload_n hx hb dX8_isColoured_58 rfl (lv_at hl 3 rfl) ?_
              refine fp_icmp_ne (tgt := 66) hx hb (by omega) dX8_isColoured_59 (by decide) (fun q59 => ?_) (fun q59 => ?_)
              · skip
                refine fp_iconst hx hb dX8_isColoured_66 ?_
                refine lv_istore_n (lv' := [(3, .int (iI (0))), (5, .int (iI (ppC (cM m) k))), (0, .ref v), (1, .int (iI (j))), (2, .int (iI (sd))), (4, .int (iI (k)))]) hx hb dX8_isColoured_67 rfl hl (by decide) rfl (fun ls hl => ?_)
                refine fp_iinc (k := 5) (lv' := [(4, .int (iI (k + 1))), (3, .int (iI (0))), (5, .int (iI (ppC (cM m) k))), (0, .ref v), (1, .int (iI (j))), (2, .int (iI (sd)))]) hx hb dX8_isColoured_68 hl rfl (by decide) rfl (fun ls hl => ?_)
                refine lv_goto (tgt := 5) hx hb dX8_isColoured_71 (by decide) ?_
                exact ih0 0 (k + 1) (by omega) (by rw [inC_s ik.1]; first | rw [if_pos (by omega)] | rw [if_neg (by omega)]) (by omega) ls (lv_sub hl [3, 4, 5, 1, 0] rfl)
              · skip
                refine fp_iconst hx hb dX8_isColoured_62 ?_
                refine lv_goto (tgt := 67) hx hb dX8_isColoured_63 (by decide) ?_
                refine lv_istore_n (lv' := [(3, .int (iI (1))), (5, .int (iI (ppC (cM m) k))), (0, .ref v), (1, .int (iI (j))), (2, .int (iI (sd))), (4, .int (iI (k)))]) hx hb dX8_isColoured_67 rfl hl (by decide) rfl (fun ls hl => ?_)
                refine fp_iinc (k := 5) (lv' := [(4, .int (iI (k + 1))), (3, .int (iI (1))), (5, .int (iI (ppC (cM m) k))), (0, .ref v), (1, .int (iI (j))), (2, .int (iI (sd)))]) hx hb dX8_isColoured_68 hl rfl (by decide) rfl (fun ls hl => ?_)
                refine lv_goto (tgt := 5) hx hb dX8_isColoured_71 (by decide) ?_
                exact ih0 1 (k + 1) (by omega) (by rw [inC_s ik.1]; first | rw [if_pos (by omega)] | rw [if_neg (by omega)]) (by omega) ls (lv_sub hl [3, 4, 5, 1, 0] rfl)
  exact lp0 (((m 5 : Int) + 1 - (0)).toNat) 0 0 (by omega) rfl (by omega) ls hl
set_option maxHeartbeats 4000000 in
set_option maxRecDepth 100000 in
theorem c_X8_colouredIn (l : Launch) (D : va_G) (cyI : ClassId) (v : Nat) (a0 : Nat) (a1 : Nat) (a2 : Nat) (a3 : Nat) (e4 : Int) (a5 : Nat) (e6 : Int) (a7 : Nat) (e8 : Int) (e9 : Int) (e10 : Int) (a11 : Nat) (e12 : Int) (e13 : Int) (e14 : Int) (a15 : Nat) (m : Int → Int) (j : Int) (hC : CatOK (cM m)) (hj : 0 ≤ j ∧ j ≤ 100) : fp_M l yX8_colouredIn wsX8_colouredIn ({ frames := 5, cells := 0, slots := 0, locals := 111 } : Room) D cyI [(v, .inr (8, [.ref a0, .ref a1, .ref a2, .ref a3, .int (iI (e4)), .ref a5, .int (iI (e6)), .ref a7, .int (iI (e8)), .int (iI (e9)), .int (iI (e10)), .ref a11, .int (iI (e12)), .int (iI (e13)), .int (iI (e14)), .ref a15])), (a0, fA cyI 54 m)] [.ref v, .int (iI (j))] (some (.int (iI (inC (cM m) j 0 (cM m 0).toNat + inC (cM m) j 1 (cM m 0).toNat)))) := by
  refine fp_start (cc := cX8_colouredIn) (maxL := 2) (ret := (some .int)) (by decide) rfl (Nat.le_of_ble_eq_true rfl) ?_
  intro pg en sx mi ar bl mt cd ls hx hb hr hts hown hlocks hml hnm hP hK hD hl
  have hown : sx.vm.findClass RX8 = some mi.cls := hown
  have hl : lv_has ls 2 [(0, .ref v), (1, .int (iI (j)))] := hl
  refine lv_aload_n hx hb dX8_colouredIn_0 rfl (lv_at hl 0 rfl) ?_
  refine lv_iload_n hx hb dX8_colouredIn_1 rfl (lv_at hl 1 rfl) ?_
  refine fp_iconst hx hb dX8_colouredIn_2 ?_
  refine fp_pV (As := [.int (iI (j)), .int (iI (0))]) (rest := []) (wsC := [(v, .inr (8, [.ref a0, .ref a1, .ref a2, .ref a3, .int (iI (e4)), .ref a5, .int (iI (e6)), .ref a7, .int (iI (e8)), .int (iI (e9)), .int (iI (e10)), .ref a11, .int (iI (e12)), .int (iI (e13)), .int (iI (e14)), .ref a15])), (a0, fA cyI 54 m)]) ⟨hx, hb, hml, hown, hts⟩ (c_X8_isColoured l D cyI v a0 a1 a2 a3 e4 a5 e6 a7 e8 e9 e10 a11 e12 e13 e14 a15 m j 0 hC (by omega) (by omega)) (cwV 2 hts gX8_colouredIn_X8_isColoured rfl rfl rfl (by decide +kernel) ⟨Nat.le_of_ble_eq_true rfl, Nat.le_of_ble_eq_true rfl⟩) hK hP hD [0, 1] (by decide) rfl rfl rfl rfl hl.1 rfl (Nat.le_of_ble_eq_true rfl) dX8_colouredIn_3 ⟨Nat.zero_le _, Nat.zero_le _⟩ ?_
  refine fp_if_eq (tgt := 13) hx hb (by have := inC_01 (cM m) j 0 (cM m 0).toNat; omega) dX8_colouredIn_6 (by decide) (fun q6 => ?_) (fun q6 => ?_)
  · skip
    refine fp_iconst hx hb dX8_colouredIn_13 ?_
    refine lv_aload_n hx hb dX8_colouredIn_14 rfl (lv_at hl 0 rfl) ?_
    refine lv_iload_n hx hb dX8_colouredIn_15 rfl (lv_at hl 1 rfl) ?_
    refine fp_iconst hx hb dX8_colouredIn_16 ?_
    refine fp_pV (As := [.int (iI (j)), .int (iI (1))]) (rest := [.int (iI (0))]) (wsC := [(v, .inr (8, [.ref a0, .ref a1, .ref a2, .ref a3, .int (iI (e4)), .ref a5, .int (iI (e6)), .ref a7, .int (iI (e8)), .int (iI (e9)), .int (iI (e10)), .ref a11, .int (iI (e12)), .int (iI (e13)), .int (iI (e14)), .ref a15])), (a0, fA cyI 54 m)]) ⟨hx, hb, hml, hown, hts⟩ (c_X8_isColoured l D cyI v a0 a1 a2 a3 e4 a5 e6 a7 e8 e9 e10 a11 e12 e13 e14 a15 m j 1 hC (by omega) (by omega)) (cwV 2 hts gX8_colouredIn_X8_isColoured rfl rfl rfl (by decide +kernel) ⟨Nat.le_of_ble_eq_true rfl, Nat.le_of_ble_eq_true rfl⟩) hK hP hD [0, 1] (by decide) rfl rfl rfl rfl hl.1 rfl (Nat.le_of_ble_eq_true rfl) dX8_colouredIn_17 ⟨Nat.zero_le _, Nat.zero_le _⟩ ?_
    refine fp_if_eq (tgt := 27) hx hb (by have := inC_01 (cM m) j 1 (cM m 0).toNat; omega) dX8_colouredIn_20 (by decide) (fun q20 => ?_) (fun q20 => ?_)
    · skip
      refine fp_iconst hx hb dX8_colouredIn_27 ?_
      refine fp_iadd hx hb dX8_colouredIn_28 ?_
      have hret : (inC (cM m) j 0 (cM m 0).toNat + inC (cM m) j 1 (cM m 0).toNat : Int) = 0 + 0 := (by have h1 := inC_01 (cM m) j 0 (cM m 0).toNat; have h2 := inC_01 (cM m) j 1 (cM m 0).toNat; omega)
      exact fp_ret hx hb hr hlocks dX8_colouredIn_29 (congrArg (fun z : Int => Value.int (iI z)) hret)
    · skip
      refine fp_iconst hx hb dX8_colouredIn_23 ?_
      refine lv_goto (tgt := 28) hx hb dX8_colouredIn_24 (by decide) ?_
      refine fp_iadd hx hb dX8_colouredIn_28 ?_
      have hret : (inC (cM m) j 0 (cM m 0).toNat + inC (cM m) j 1 (cM m 0).toNat : Int) = 0 + 1 := (by have h1 := inC_01 (cM m) j 0 (cM m 0).toNat; have h2 := inC_01 (cM m) j 1 (cM m 0).toNat; omega)
      exact fp_ret hx hb hr hlocks dX8_colouredIn_29 (congrArg (fun z : Int => Value.int (iI z)) hret)
  · skip
    refine fp_iconst hx hb dX8_colouredIn_9 ?_
    refine lv_goto (tgt := 14) hx hb dX8_colouredIn_10 (by decide) ?_
    refine lv_aload_n hx hb dX8_colouredIn_14 rfl (lv_at hl 0 rfl) ?_
    refine lv_iload_n hx hb dX8_colouredIn_15 rfl (lv_at hl 1 rfl) ?_
    refine fp_iconst hx hb dX8_colouredIn_16 ?_
    refine fp_pV (As := [.int (iI (j)), .int (iI (1))]) (rest := [.int (iI (1))]) (wsC := [(v, .inr (8, [.ref a0, .ref a1, .ref a2, .ref a3, .int (iI (e4)), .ref a5, .int (iI (e6)), .ref a7, .int (iI (e8)), .int (iI (e9)), .int (iI (e10)), .ref a11, .int (iI (e12)), .int (iI (e13)), .int (iI (e14)), .ref a15])), (a0, fA cyI 54 m)]) ⟨hx, hb, hml, hown, hts⟩ (c_X8_isColoured l D cyI v a0 a1 a2 a3 e4 a5 e6 a7 e8 e9 e10 a11 e12 e13 e14 a15 m j 1 hC (by omega) (by omega)) (cwV 2 hts gX8_colouredIn_X8_isColoured rfl rfl rfl (by decide +kernel) ⟨Nat.le_of_ble_eq_true rfl, Nat.le_of_ble_eq_true rfl⟩) hK hP hD [0, 1] (by decide) rfl rfl rfl rfl hl.1 rfl (Nat.le_of_ble_eq_true rfl) dX8_colouredIn_17 ⟨Nat.zero_le _, Nat.zero_le _⟩ ?_
    refine fp_if_eq (tgt := 27) hx hb (by have := inC_01 (cM m) j 1 (cM m 0).toNat; omega) dX8_colouredIn_20 (by decide) (fun q20 => ?_) (fun q20 => ?_)
    · skip
      refine fp_iconst hx hb dX8_colouredIn_27 ?_
      refine fp_iadd hx hb dX8_colouredIn_28 ?_
      have hret : (inC (cM m) j 0 (cM m 0).toNat + inC (cM m) j 1 (cM m 0).toNat : Int) = 1 + 0 := (by have h1 := inC_01 (cM m) j 0 (cM m 0).toNat; have h2 := inC_01 (cM m) j 1 (cM m 0).toNat; omega)
      exact fp_ret hx hb hr hlocks dX8_colouredIn_29 (congrArg (fun z : Int => Value.int (iI z)) hret)
    · skip
      refine fp_iconst hx hb dX8_colouredIn_23 ?_
      refine lv_goto (tgt := 28) hx hb dX8_colouredIn_24 (by decide) ?_
      refine fp_iadd hx hb dX8_colouredIn_28 ?_
      have hret : (inC (cM m) j 0 (cM m 0).toNat + inC (cM m) j 1 (cM m 0).toNat : Int) = 1 + 1 := (by have h1 := inC_01 (cM m) j 0 (cM m 0).toNat; have h2 := inC_01 (cM m) j 1 (cM m 0).toNat; omega)
      exact fp_ret hx hb hr hlocks dX8_colouredIn_29 (congrArg (fun z : Int => Value.int (iI z)) hret)
set_option maxHeartbeats 4000000 in
set_option maxRecDepth 100000 in
theorem c_X8_colouredSides (l : Launch) (D : va_G) (cyI : ClassId) (v : Nat) (a0 : Nat) (a1 : Nat) (a2 : Nat) (a3 : Nat) (e4 : Int) (a5 : Nat) (e6 : Int) (a7 : Nat) (e8 : Int) (e9 : Int) (e10 : Int) (a11 : Nat) (e12 : Int) (e13 : Int) (e14 : Int) (a15 : Nat) (m : Int → Int) (hC : CatOK (cM m)) : fp_M l yX8_colouredSides wsX8_colouredSides ({ frames := 6, cells := 0, slots := 0, locals := 132 } : Room) D cyI [(v, .inr (8, [.ref a0, .ref a1, .ref a2, .ref a3, .int (iI (e4)), .ref a5, .int (iI (e6)), .ref a7, .int (iI (e8)), .int (iI (e9)), .int (iI (e10)), .ref a11, .int (iI (e12)), .int (iI (e13)), .int (iI (e14)), .ref a15])), (a0, fA cyI 54 m)] [.ref v] (some (.int (iI (coC (cM m))))) := by
  refine fp_start (cc := cX8_colouredSides) (maxL := 3) (ret := (some .int)) (by decide) rfl (Nat.le_of_ble_eq_true rfl) ?_
  intro pg en sx mi ar bl mt cd ls hx hb hr hts hown hlocks hml hnm hP hK hD hl
  have hown : sx.vm.findClass RX8 = some mi.cls := hown
  have hl : lv_has ls 3 [(0, .ref v)] := hl
  have hN := hC.1
  rw [cM_0] at hN
  have hl5 := la_b hC
  refine fp_iconst hx hb dX8_colouredSides_0 ?_
  refine lv_istore_n (lv' := [(1, .int (iI (0))), (0, .ref v)]) hx hb dX8_colouredSides_1 rfl hl (by decide) rfl (fun ls hl => ?_)
  refine fp_iconst hx hb dX8_colouredSides_2 ?_
  refine lv_istore_n (lv' := [(2, .int (iI (0))), (1, .int (iI (0))), (0, .ref v)]) hx hb dX8_colouredSides_3 rfl hl (by decide) rfl (fun ls hl => ?_)
  have hl := lv_sub hl (l' := [(0, .ref v), (1, .int (iI (0))), (2, .int (iI (0)))]) [2, 1, 0] rfl
  have lp0 : ∀ (nf : Nat) (x : Int) (k : Int), (0 ≤ k ∧ k ≤ gaC (cM m)) → (x = sumI k.toNat (fun j => colI (kindC (cM m)) (cM m (49 + 0)) j 0 + colI (kindC (cM m)) (cM m (49 + 0)) j 1)) → (gaC (cM m) + 1 ≤ k + (nf : Int)) → ∀ (ls : Array Slot), lv_has ls 3 [(0, .ref v), (1, .int (iI (x))), (2, .int (iI (k)))] → W pg l en ({ frames := 6, cells := 0, slots := 0, locals := 132 } : Room) sx mi ar bl mt cd sx.heap [] 0 0 (MQ bl (fp_Qp (some (.int (iI (coC (cM m)))))) ar sx 0 0 (fun _ => False)) (F0 mi 4 ls []) := by
    intro nf
    induction nf with
    | zero =>
      intro x k ik ix hfuel
      exact absurd hfuel (by omega)
    | succ nf ih0 =>
      intro x k ik ix hfuel ls hl
      refine lv_iload_n hx hb dX8_colouredSides_4 rfl (lv_at hl 2 rfl) ?_
      refine lv_aload_n hx hb dX8_colouredSides_5 rfl (lv_at hl 0 rfl) ?_
      refine fp_pV (As := []) (rest := [.int (iI (k))]) (wsC := [(v, .inr (8, [.ref a0, .ref a1, .ref a2, .ref a3, .int (iI (e4)), .ref a5, .int (iI (e6)), .ref a7, .int (iI (e8)), .int (iI (e9)), .int (iI (e10)), .ref a11, .int (iI (e12)), .int (iI (e13)), .int (iI (e14)), .ref a15])), (a0, fA cyI 54 m)]) ⟨hx, hb, hml, hown, hts⟩ (c_X8_gatherings l D cyI v a0 a1 a2 a3 e4 a5 e6 a7 e8 e9 e10 a11 e12 e13 e14 a15 m hC) (cwV 0 hts gX8_colouredSides_X8_gatherings rfl rfl rfl (by decide +kernel) ⟨Nat.le_of_ble_eq_true rfl, Nat.le_of_ble_eq_true rfl⟩) hK hP hD [0, 1] (by decide) rfl rfl rfl rfl hl.1 rfl (Nat.le_of_ble_eq_true rfl) dX8_colouredSides_6 ⟨Nat.zero_le _, Nat.zero_le _⟩ ?_
      refine fp_icmp_ge (tgt := 26) hx hb (by omega) dX8_colouredSides_9 (by decide) (fun q9 => ?_) (fun q9 => ?_)
      · skip
        refine lv_iload_n hx hb dX8_colouredSides_26 rfl (lv_at hl 1 rfl) ?_
        have hret : (coC (cM m) : Int) = x := (by unfold coC; rw [ix]; congr 2; omega)
        exact fp_ret hx hb hr hlocks dX8_colouredSides_27 (congrArg (fun z : Int => Value.int (iI z)) hret)
      · skip
        refine lv_iload_n hx hb dX8_colouredSides_12 rfl (lv_at hl 1 rfl) ?_
        refine lv_aload_n hx hb dX8_colouredSides_13 rfl (lv_at hl 0 rfl) ?_
        refine lv_iload_n hx hb dX8_colouredSides_14 rfl (lv_at hl 2 rfl) ?_
        refine fp_pV (As := [.int (iI (k))]) (rest := [.int (iI (x))]) (wsC := [(v, .inr (8, [.ref a0, .ref a1, .ref a2, .ref a3, .int (iI (e4)), .ref a5, .int (iI (e6)), .ref a7, .int (iI (e8)), .int (iI (e9)), .int (iI (e10)), .ref a11, .int (iI (e12)), .int (iI (e13)), .int (iI (e14)), .ref a15])), (a0, fA cyI 54 m)]) ⟨hx, hb, hml, hown, hts⟩ (c_X8_colouredIn l D cyI v a0 a1 a2 a3 e4 a5 e6 a7 e8 e9 e10 a11 e12 e13 e14 a15 m k hC (by omega)) (cwV 1 hts gX8_colouredSides_X8_colouredIn rfl rfl rfl (by decide +kernel) ⟨Nat.le_of_ble_eq_true rfl, Nat.le_of_ble_eq_true rfl⟩) hK hP hD [0, 1] (by decide) rfl rfl rfl rfl hl.1 rfl (Nat.le_of_ble_eq_true rfl) dX8_colouredSides_15 ⟨Nat.zero_le _, Nat.zero_le _⟩ ?_
        refine fp_iadd hx hb dX8_colouredSides_18 ?_
        refine lv_istore_n (lv' := [(1, .int (iI (x + (inC (cM m) k 0 (cM m 0).toNat + inC (cM m) k 1 (cM m 0).toNat)))), (0, .ref v), (2, .int (iI (k)))]) hx hb dX8_colouredSides_19 rfl hl (by decide) rfl (fun ls hl => ?_)
        refine fp_iinc (k := 2) (lv' := [(2, .int (iI (k + 1))), (1, .int (iI (x + (inC (cM m) k 0 (cM m 0).toNat + inC (cM m) k 1 (cM m 0).toNat)))), (0, .ref v)]) hx hb dX8_colouredSides_20 hl rfl (by decide) rfl (fun ls hl => ?_)
        refine lv_goto (tgt := 4) hx hb dX8_colouredSides_23 (by decide) ?_
        exact ih0 (x + (inC (cM m) k 0 (cM m 0).toNat + inC (cM m) k 1 (cM m 0).toNat)) (k + 1) (by omega) (by rw [ix, sumI_s _ ik.1, in_col hC (by omega), in_col hC (by omega)]) (by omega) ls (lv_sub hl [2, 1, 0] rfl)
  exact lp0 (((gaC (cM m) : Int) + 1 - (0)).toNat) 0 0 (by omega) rfl (by omega) ls hl
theorem fl_X8_blanksPut_7 : Cond.fieldLink RX8 7 "FacingPlatesModel" "all" "[I" ∈ wsX8_blanksPut := by decide +kernel
set_option maxHeartbeats 4000000 in
set_option maxRecDepth 100000 in
theorem c_X8_blanksPut (l : Launch) (D : va_G) (cyI : ClassId) (v : Nat) (a0 : Nat) (a1 : Nat) (a2 : Nat) (a3 : Nat) (e4 : Int) (a5 : Nat) (e6 : Int) (a7 : Nat) (e8 : Int) (e9 : Int) (e10 : Int) (a11 : Nat) (e12 : Int) (e13 : Int) (e14 : Int) (a15 : Nat) (m : Int → Int) (hC : CatOK (cM m)) : fp_M l yX8_blanksPut wsX8_blanksPut ({ frames := 0, cells := 0, slots := 0, locals := 0 } : Room) D cyI [(v, .inr (8, [.ref a0, .ref a1, .ref a2, .ref a3, .int (iI (e4)), .ref a5, .int (iI (e6)), .ref a7, .int (iI (e8)), .int (iI (e9)), .int (iI (e10)), .ref a11, .int (iI (e12)), .int (iI (e13)), .int (iI (e14)), .ref a15])), (a0, fA cyI 54 m)] [.ref v] (some (.int (iI (blC (cM m))))) := by
  refine fp_start (cc := cX8_blanksPut) (maxL := 3) (ret := (some .int)) (by decide) rfl (Nat.le_of_ble_eq_true rfl) ?_
  intro pg en sx mi ar bl mt cd ls hx hb hr hts hown hlocks hml hnm hP hK hD hl
  have hown : sx.vm.findClass RX8 = some mi.cls := hown
  have hl : lv_has ls 3 [(0, .ref v)] := hl
  have hN := hC.1
  rw [cM_0] at hN
  refine fp_iconst hx hb dX8_blanksPut_0 ?_
  refine lv_istore_n (lv' := [(1, .int (iI (0))), (0, .ref v)]) hx hb dX8_blanksPut_1 rfl hl (by decide) rfl (fun ls hl => ?_)
  refine fp_iconst hx hb dX8_blanksPut_2 ?_
  refine lv_istore_n (lv' := [(2, .int (iI (0))), (1, .int (iI (0))), (0, .ref v)]) hx hb dX8_blanksPut_3 rfl hl (by decide) rfl (fun ls hl => ?_)
  have hl := lv_sub hl (l' := [(0, .ref v), (1, .int (iI (0))), (2, .int (iI (0)))]) [2, 1, 0] rfl
  have lp0 : ∀ (nf : Nat) (x : Int) (k : Int), (0 ≤ k ∧ k ≤ m 5) → (x = sumI k.toNat (fun k => cM m (k * 4 + 3))) → (m 5 + 1 ≤ k + (nf : Int)) → ∀ (ls : Array Slot), lv_has ls 3 [(0, .ref v), (1, .int (iI (x))), (2, .int (iI (k)))] → W pg l en ({ frames := 0, cells := 0, slots := 0, locals := 0 } : Room) sx mi ar bl mt cd sx.heap [] 0 0 (MQ bl (fp_Qp (some (.int (iI (blC (cM m)))))) ar sx 0 0 (fun _ => False)) (F0 mi 4 ls []) := by
    intro nf
    induction nf with
    | zero =>
      intro x k ik ix hfuel
      exact absurd hfuel (by omega)
    | succ nf ih0 =>
      intro x k ik ix hfuel ls hl
      refine lv_iload_n hx hb dX8_blanksPut_4 rfl (lv_at hl 2 rfl) ?_
      refine lv_aload_n hx hb dX8_blanksPut_5 rfl (lv_at hl 0 rfl) ?_
      refine va_get (D := D) (ci := 8) (ws := [(v, .inr (8, [.ref a0, .ref a1, .ref a2, .ref a3, .int (iI (e4)), .ref a5, .int (iI (e6)), .ref a7, .int (iI (e8)), .int (iI (e9)), .int (iI (e10)), .ref a11, .int (iI (e12)), .int (iI (e13)), .int (iI (e14)), .ref a15])), (a0, fA cyI 54 m)]) (v := .ref a0) (C := RX8) (T := TX8) (N := 16) hx hb hts (fun _ h => List.mem_cons_of_mem _ (List.mem_append_right _ h)) hown hK.1 hP 0 rfl rfl 0 (by decide) (hts _ fl_X8_blanksPut_7) (fun _ h9 => h9) rfl dX8_blanksPut_6 ?_
      refine fp_iconst hx hb dX8_blanksPut_9 ?_
      refine fp_iald (wsC := [(v, .inr (8, [.ref a0, .ref a1, .ref a2, .ref a3, .int (iI (e4)), .ref a5, .int (iI (e6)), .ref a7, .int (iI (e8)), .int (iI (e9)), .int (iI (e10)), .ref a11, .int (iI (e12)), .int (iI (e13)), .int (iI (e14)), .ref a15])), (a0, fA cyI 54 m)]) hx hb hK hP 1 rfl (by omega) (by decide) dX8_blanksPut_10 ?_
      refine fp_icmp_ge (tgt := 32) hx hb (by omega) dX8_blanksPut_11 (by decide) (fun q11 => ?_) (fun q11 => ?_)
      · skip
        refine lv_iload_n hx hb dX8_blanksPut_32 rfl (lv_at hl 1 rfl) ?_
        have hret : (blC (cM m) : Int) = x := (by unfold blC; rw [ix, cM_0]; congr 2; omega)
        exact fp_ret hx hb hr hlocks dX8_blanksPut_33 (congrArg (fun z : Int => Value.int (iI z)) hret)
      · skip
        refine lv_iload_n hx hb dX8_blanksPut_14 rfl (lv_at hl 1 rfl) ?_
        refine lv_aload_n hx hb dX8_blanksPut_15 rfl (lv_at hl 0 rfl) ?_
        refine va_get (D := D) (ci := 8) (ws := [(v, .inr (8, [.ref a0, .ref a1, .ref a2, .ref a3, .int (iI (e4)), .ref a5, .int (iI (e6)), .ref a7, .int (iI (e8)), .int (iI (e9)), .int (iI (e10)), .ref a11, .int (iI (e12)), .int (iI (e13)), .int (iI (e14)), .ref a15])), (a0, fA cyI 54 m)]) (v := .ref a0) (C := RX8) (T := TX8) (N := 16) hx hb hts (fun _ h => List.mem_cons_of_mem _ (List.mem_append_right _ h)) hown hK.1 hP 0 rfl rfl 0 (by decide) (hts _ fl_X8_blanksPut_7) (fun _ h9 => h9) rfl dX8_blanksPut_16 ?_
        refine fp_bipush hx hb dX8_blanksPut_19 (by decide) ?_
        refine lv_iload_n hx hb dX8_blanksPut_21 rfl (lv_at hl 2 rfl) ?_
        refine fp_iadd hx hb dX8_blanksPut_22 ?_
        refine fp_iald (wsC := [(v, .inr (8, [.ref a0, .ref a1, .ref a2, .ref a3, .int (iI (e4)), .ref a5, .int (iI (e6)), .ref a7, .int (iI (e8)), .int (iI (e9)), .int (iI (e10)), .ref a11, .int (iI (e12)), .int (iI (e13)), .int (iI (e14)), .ref a15])), (a0, fA cyI 54 m)]) hx hb hK hP 1 rfl (by omega) (by decide) dX8_blanksPut_23 ?_
        refine fp_iadd hx hb dX8_blanksPut_24 ?_
        refine lv_istore_n (lv' := [(1, .int (iI (x + (m (30 + k))))), (0, .ref v), (2, .int (iI (k)))]) hx hb dX8_blanksPut_25 rfl hl (by decide) rfl (fun ls hl => ?_)
        refine fp_iinc (k := 2) (lv' := [(2, .int (iI (k + 1))), (1, .int (iI (x + (m (30 + k))))), (0, .ref v)]) hx hb dX8_blanksPut_26 hl rfl (by decide) rfl (fun ls hl => ?_)
        refine lv_goto (tgt := 4) hx hb dX8_blanksPut_29 (by decide) ?_
        exact ih0 (x + (m (30 + k))) (k + 1) (by omega) (by rw [ix, sumI_s _ ik.1, cM_b (by omega)]) (by omega) ls (lv_sub hl [2, 1, 0] rfl)
  exact lp0 (((m 5 : Int) + 1 - (0)).toNat) 0 0 (by omega) rfl (by omega) ls hl
theorem fl_X8_costOf_7 : Cond.fieldLink RX8 7 "FacingPlatesModel" "all" "[I" ∈ wsX8_costOf := by decide +kernel
set_option maxHeartbeats 4000000 in
set_option maxRecDepth 100000 in
theorem c_X8_costOf (l : Launch) (D : va_G) (cyI : ClassId) (v : Nat) (a0 : Nat) (a1 : Nat) (a2 : Nat) (a3 : Nat) (e4 : Int) (a5 : Nat) (e6 : Int) (a7 : Nat) (e8 : Int) (e9 : Int) (e10 : Int) (a11 : Nat) (e12 : Int) (e13 : Int) (e14 : Int) (a15 : Nat) (m : Int → Int) (x : Int) (y : Int) (z : Int) (hC : CatOK (cM m)) : fp_M l yX8_costOf wsX8_costOf ({ frames := 0, cells := 0, slots := 0, locals := 0 } : Room) D cyI [(v, .inr (8, [.ref a0, .ref a1, .ref a2, .ref a3, .int (iI (e4)), .ref a5, .int (iI (e6)), .ref a7, .int (iI (e8)), .int (iI (e9)), .int (iI (e10)), .ref a11, .int (iI (e12)), .int (iI (e13)), .int (iI (e14)), .ref a15])), (a0, fA cyI 54 m)] [.ref v, .int (iI (x)), .int (iI (y)), .int (iI (z))] (some (.int (iI (x * gcC (cM m) + y * cM m (49 + 2) + z * cM m (49 + 3))))) := by
  refine fp_start (cc := cX8_costOf) (maxL := 4) (ret := (some .int)) (by decide) rfl (Nat.le_of_ble_eq_true rfl) ?_
  intro pg en sx mi ar bl mt cd ls hx hb hr hts hown hlocks hml hnm hP hK hD hl
  have hown : sx.vm.findClass RX8 = some mi.cls := hown
  have hl : lv_has ls 4 [(0, .ref v), (1, .int (iI (x))), (2, .int (iI (y))), (3, .int (iI (z)))] := hl
  have hN := hC.1
  rw [cM_0] at hN
  have hX := hC.2.2
  unfold SetOK at hX
  have eG : cM m (49 + 0) = m 0 := cM_s (by omega)
  rw [eG] at hX
  have hX0 := hX.1
  rw [cM_s (m := m) (j := 1) (by omega), cM_s (m := m) (j := 2) (by omega), cM_s (m := m) (j := 3) (by omega), cM_s (m := m) (j := 4) (by omega)] at hX
  refine lv_iload_n hx hb dX8_costOf_0 rfl (lv_at hl 1 rfl) ?_
  refine lv_aload_n hx hb dX8_costOf_1 rfl (lv_at hl 0 rfl) ?_
  refine va_get (D := D) (ci := 8) (ws := [(v, .inr (8, [.ref a0, .ref a1, .ref a2, .ref a3, .int (iI (e4)), .ref a5, .int (iI (e6)), .ref a7, .int (iI (e8)), .int (iI (e9)), .int (iI (e10)), .ref a11, .int (iI (e12)), .int (iI (e13)), .int (iI (e14)), .ref a15])), (a0, fA cyI 54 m)]) (v := .ref a0) (C := RX8) (T := TX8) (N := 16) hx hb hts (fun _ h => List.mem_cons_of_mem _ (List.mem_append_right _ h)) hown hK.1 hP 0 rfl rfl 0 (by decide) (hts _ fl_X8_costOf_7) (fun _ h9 => h9) rfl dX8_costOf_2 ?_
  refine fp_iconst hx hb dX8_costOf_5 ?_
  refine fp_iald (wsC := [(v, .inr (8, [.ref a0, .ref a1, .ref a2, .ref a3, .int (iI (e4)), .ref a5, .int (iI (e6)), .ref a7, .int (iI (e8)), .int (iI (e9)), .int (iI (e10)), .ref a11, .int (iI (e12)), .int (iI (e13)), .int (iI (e14)), .ref a15])), (a0, fA cyI 54 m)]) hx hb hK hP 1 rfl (by omega) (by decide) dX8_costOf_6 ?_
  refine lv_aload_n hx hb dX8_costOf_7 rfl (lv_at hl 0 rfl) ?_
  refine va_get (D := D) (ci := 8) (ws := [(v, .inr (8, [.ref a0, .ref a1, .ref a2, .ref a3, .int (iI (e4)), .ref a5, .int (iI (e6)), .ref a7, .int (iI (e8)), .int (iI (e9)), .int (iI (e10)), .ref a11, .int (iI (e12)), .int (iI (e13)), .int (iI (e14)), .ref a15])), (a0, fA cyI 54 m)]) (v := .ref a0) (C := RX8) (T := TX8) (N := 16) hx hb hts (fun _ h => List.mem_cons_of_mem _ (List.mem_append_right _ h)) hown hK.1 hP 0 rfl rfl 0 (by decide) (hts _ fl_X8_costOf_7) (fun _ h9 => h9) rfl dX8_costOf_8 ?_
  refine fp_iconst hx hb dX8_costOf_11 ?_
  refine fp_iald (wsC := [(v, .inr (8, [.ref a0, .ref a1, .ref a2, .ref a3, .int (iI (e4)), .ref a5, .int (iI (e6)), .ref a7, .int (iI (e8)), .int (iI (e9)), .int (iI (e10)), .ref a11, .int (iI (e12)), .int (iI (e13)), .int (iI (e14)), .ref a15])), (a0, fA cyI 54 m)]) hx hb hK hP 1 rfl (by omega) (by decide) dX8_costOf_12 ?_
  refine fp_bipush hx hb dX8_costOf_13 (by decide) ?_
  refine fp_idiv hx hb (by omega) dX8_costOf_15 ?_
  refine fp_iadd hx hb dX8_costOf_16 ?_
  refine fp_imul hx hb dX8_costOf_17 ?_
  refine lv_iload_n hx hb dX8_costOf_18 rfl (lv_at hl 2 rfl) ?_
  refine lv_aload_n hx hb dX8_costOf_19 rfl (lv_at hl 0 rfl) ?_
  refine va_get (D := D) (ci := 8) (ws := [(v, .inr (8, [.ref a0, .ref a1, .ref a2, .ref a3, .int (iI (e4)), .ref a5, .int (iI (e6)), .ref a7, .int (iI (e8)), .int (iI (e9)), .int (iI (e10)), .ref a11, .int (iI (e12)), .int (iI (e13)), .int (iI (e14)), .ref a15])), (a0, fA cyI 54 m)]) (v := .ref a0) (C := RX8) (T := TX8) (N := 16) hx hb hts (fun _ h => List.mem_cons_of_mem _ (List.mem_append_right _ h)) hown hK.1 hP 0 rfl rfl 0 (by decide) (hts _ fl_X8_costOf_7) (fun _ h9 => h9) rfl dX8_costOf_20 ?_
  refine fp_iconst hx hb dX8_costOf_23 ?_
  refine fp_iald (wsC := [(v, .inr (8, [.ref a0, .ref a1, .ref a2, .ref a3, .int (iI (e4)), .ref a5, .int (iI (e6)), .ref a7, .int (iI (e8)), .int (iI (e9)), .int (iI (e10)), .ref a11, .int (iI (e12)), .int (iI (e13)), .int (iI (e14)), .ref a15])), (a0, fA cyI 54 m)]) hx hb hK hP 1 rfl (by omega) (by decide) dX8_costOf_24 ?_
  refine fp_imul hx hb dX8_costOf_25 ?_
  refine fp_iadd hx hb dX8_costOf_26 ?_
  refine lv_iload_n hx hb dX8_costOf_27 rfl (lv_at hl 3 rfl) ?_
  refine lv_aload_n hx hb dX8_costOf_28 rfl (lv_at hl 0 rfl) ?_
  refine va_get (D := D) (ci := 8) (ws := [(v, .inr (8, [.ref a0, .ref a1, .ref a2, .ref a3, .int (iI (e4)), .ref a5, .int (iI (e6)), .ref a7, .int (iI (e8)), .int (iI (e9)), .int (iI (e10)), .ref a11, .int (iI (e12)), .int (iI (e13)), .int (iI (e14)), .ref a15])), (a0, fA cyI 54 m)]) (v := .ref a0) (C := RX8) (T := TX8) (N := 16) hx hb hts (fun _ h => List.mem_cons_of_mem _ (List.mem_append_right _ h)) hown hK.1 hP 0 rfl rfl 0 (by decide) (hts _ fl_X8_costOf_7) (fun _ h9 => h9) rfl dX8_costOf_29 ?_
  refine fp_iconst hx hb dX8_costOf_32 ?_
  refine fp_iald (wsC := [(v, .inr (8, [.ref a0, .ref a1, .ref a2, .ref a3, .int (iI (e4)), .ref a5, .int (iI (e6)), .ref a7, .int (iI (e8)), .int (iI (e9)), .int (iI (e10)), .ref a11, .int (iI (e12)), .int (iI (e13)), .int (iI (e14)), .ref a15])), (a0, fA cyI 54 m)]) hx hb hK hP 1 rfl (by omega) (by decide) dX8_costOf_33 ?_
  refine fp_imul hx hb dX8_costOf_34 ?_
  refine fp_iadd hx hb dX8_costOf_35 ?_
  have hret : (x * gcC (cM m) + y * cM m (49 + 2) + z * cM m (49 + 3) : Int) = ((x * ((m 1) + ((m 4) / 10))) + (y * (m 2))) + (z * (m 3)) := (by unfold gcC; rw [cM_s (by omega), cM_s (by omega), cM_s (by omega), cM_s (by omega)])
  exact fp_ret hx hb hr hlocks dX8_costOf_36 (congrArg (fun z : Int => Value.int (iI z)) hret)
set_option maxHeartbeats 4000000 in
set_option maxRecDepth 100000 in
theorem c_X8_cost (l : Launch) (D : va_G) (cyI : ClassId) (v : Nat) (a0 : Nat) (a1 : Nat) (a2 : Nat) (a3 : Nat) (e4 : Int) (a5 : Nat) (e6 : Int) (a7 : Nat) (e8 : Int) (e9 : Int) (e10 : Int) (a11 : Nat) (e12 : Int) (e13 : Int) (e14 : Int) (a15 : Nat) (m : Int → Int) (hC : CatOK (cM m)) : fp_M l yX8_cost wsX8_cost ({ frames := 7, cells := 0, slots := 0, locals := 154 } : Room) D cyI [(v, .inr (8, [.ref a0, .ref a1, .ref a2, .ref a3, .int (iI (e4)), .ref a5, .int (iI (e6)), .ref a7, .int (iI (e8)), .int (iI (e9)), .int (iI (e10)), .ref a11, .int (iI (e12)), .int (iI (e13)), .int (iI (e14)), .ref a15])), (a0, fA cyI 54 m)] [.ref v] (some (.int (iI (csC (cM m))))) := by
  refine fp_start (cc := cX8_cost) (maxL := 1) (ret := (some .int)) (by decide) rfl (Nat.le_of_ble_eq_true rfl) ?_
  intro pg en sx mi ar bl mt cd ls hx hb hr hts hown hlocks hml hnm hP hK hD hl
  have hown : sx.vm.findClass RX8 = some mi.cls := hown
  have hl : lv_has ls 1 [(0, .ref v)] := hl
  refine lv_aload_n hx hb dX8_cost_0 rfl (lv_at hl 0 rfl) ?_
  refine lv_aload_n hx hb dX8_cost_1 rfl (lv_at hl 0 rfl) ?_
  refine fp_pV (As := []) (rest := [.ref v]) (wsC := [(v, .inr (8, [.ref a0, .ref a1, .ref a2, .ref a3, .int (iI (e4)), .ref a5, .int (iI (e6)), .ref a7, .int (iI (e8)), .int (iI (e9)), .int (iI (e10)), .ref a11, .int (iI (e12)), .int (iI (e13)), .int (iI (e14)), .ref a15])), (a0, fA cyI 54 m)]) ⟨hx, hb, hml, hown, hts⟩ (c_X8_gatherings l D cyI v a0 a1 a2 a3 e4 a5 e6 a7 e8 e9 e10 a11 e12 e13 e14 a15 m hC) (cwV 0 hts gX8_cost_X8_gatherings rfl rfl rfl (by decide +kernel) ⟨Nat.le_of_ble_eq_true rfl, Nat.le_of_ble_eq_true rfl⟩) hK hP hD [0, 1] (by decide) rfl rfl rfl rfl hl.1 rfl (Nat.le_of_ble_eq_true rfl) dX8_cost_2 ⟨Nat.zero_le _, Nat.zero_le _⟩ ?_
  refine lv_aload_n hx hb dX8_cost_5 rfl (lv_at hl 0 rfl) ?_
  refine fp_pV (As := []) (rest := [.int (iI (gaC (cM m))), .ref v]) (wsC := [(v, .inr (8, [.ref a0, .ref a1, .ref a2, .ref a3, .int (iI (e4)), .ref a5, .int (iI (e6)), .ref a7, .int (iI (e8)), .int (iI (e9)), .int (iI (e10)), .ref a11, .int (iI (e12)), .int (iI (e13)), .int (iI (e14)), .ref a15])), (a0, fA cyI 54 m)]) ⟨hx, hb, hml, hown, hts⟩ (c_X8_colouredSides l D cyI v a0 a1 a2 a3 e4 a5 e6 a7 e8 e9 e10 a11 e12 e13 e14 a15 m hC) (cwV 0 hts gX8_cost_X8_colouredSides rfl rfl rfl (by decide +kernel) ⟨Nat.le_of_ble_eq_true rfl, Nat.le_of_ble_eq_true rfl⟩) hK hP hD [0, 1] (by decide) rfl rfl rfl rfl hl.1 rfl (Nat.le_of_ble_eq_true rfl) dX8_cost_6 ⟨Nat.zero_le _, Nat.zero_le _⟩ ?_
  refine lv_aload_n hx hb dX8_cost_9 rfl (lv_at hl 0 rfl) ?_
  refine fp_pV (As := []) (rest := [.int (iI (coC (cM m))), .int (iI (gaC (cM m))), .ref v]) (wsC := [(v, .inr (8, [.ref a0, .ref a1, .ref a2, .ref a3, .int (iI (e4)), .ref a5, .int (iI (e6)), .ref a7, .int (iI (e8)), .int (iI (e9)), .int (iI (e10)), .ref a11, .int (iI (e12)), .int (iI (e13)), .int (iI (e14)), .ref a15])), (a0, fA cyI 54 m)]) ⟨hx, hb, hml, hown, hts⟩ (c_X8_blanksPut l D cyI v a0 a1 a2 a3 e4 a5 e6 a7 e8 e9 e10 a11 e12 e13 e14 a15 m hC) (cwV 0 hts gX8_cost_X8_blanksPut rfl rfl rfl (by decide +kernel) ⟨Nat.le_of_ble_eq_true rfl, Nat.le_of_ble_eq_true rfl⟩) hK hP hD [0, 1] (by decide) rfl rfl rfl rfl hl.1 rfl (Nat.le_of_ble_eq_true rfl) dX8_cost_10 ⟨Nat.zero_le _, Nat.zero_le _⟩ ?_
  refine fp_pV (As := [.int (iI (gaC (cM m))), .int (iI (coC (cM m))), .int (iI (blC (cM m)))]) (rest := []) (wsC := [(v, .inr (8, [.ref a0, .ref a1, .ref a2, .ref a3, .int (iI (e4)), .ref a5, .int (iI (e6)), .ref a7, .int (iI (e8)), .int (iI (e9)), .int (iI (e10)), .ref a11, .int (iI (e12)), .int (iI (e13)), .int (iI (e14)), .ref a15])), (a0, fA cyI 54 m)]) ⟨hx, hb, hml, hown, hts⟩ (c_X8_costOf l D cyI v a0 a1 a2 a3 e4 a5 e6 a7 e8 e9 e10 a11 e12 e13 e14 a15 m (gaC (cM m)) (coC (cM m)) (blC (cM m)) hC) (cwV 3 hts gX8_cost_X8_costOf rfl rfl rfl (by decide +kernel) ⟨Nat.le_of_ble_eq_true rfl, Nat.le_of_ble_eq_true rfl⟩) hK hP hD [0, 1] (by decide) rfl rfl rfl rfl hl.1 rfl (Nat.le_of_ble_eq_true rfl) dX8_cost_13 ⟨Nat.zero_le _, Nat.zero_le _⟩ ?_
  have hret : (csC (cM m) : Int) = (gaC (cM m)) * gcC (cM m) + (coC (cM m)) * cM m (49 + 2) + (blC (cM m)) * cM m (49 + 3) := (by rfl)
  exact fp_ret hx hb hr hlocks dX8_cost_16 (congrArg (fun z : Int => Value.int (iI z)) hret)
