/-! texts and histories -/
theorem bI_ne {p : Prop} [Decidable p] (h : ¬ bI p = 0) : p := Decidable.byContradiction fun q => h (bI_f q)
theorem bI_e {p : Prop} [Decidable p] (h : bI p = 0) : ¬ p := fun q => by rw [bI_t q] at h; omega
def chI (x : Int → Int) (n i : Int) : Int := if 0 ≤ i ∧ i < n then x i else -1
def TextOK (x : Int → Int) : Prop := ∀ j : Int, 0 ≤ x j ∧ x j ≤ 65535
theorem chI_rg {x : Int → Int} (h : TextOK x) (n i : Int) : -1 ≤ chI x n i ∧ chI x n i ≤ 65535 := by
  have h1 := h i
  unfold chI
  split <;> omega
def rT (x : Int → Int) (n i : Int) : Int := chI x n i - 48
def rP (x : Int → Int) (n i : Int) : Int := if chI x n (i + 1) = 98 then 1 else if chI x n (i + 1) = 99 then 2 else 0
def rA (x : Int → Int) (n i : Int) : Int := if rP x n i = 0 then i + 1 else i + 1 + 1
def rH (x : Int → Int) (n i : Int) : Int := if rP x n i = 0 then 0 else bI (chI x n (rA x n i) = 64)
def rV (x : Int → Int) (n i : Int) : Int := if rH x n i = 0 then 0 else chI x n (rA x n i + 1) - 48
def rC (x : Int → Int) (n i : Int) : Int := if rH x n i = 0 then rA x n i else rA x n i + 1 + 1
def rB (x : Int → Int) (n i : Int) : Int := bI (chI x n (rC x n i) = 43)
def rE (x : Int → Int) (n i : Int) : Int := rC x n i + rB x n i
def rK (x : Int → Int) (n i : Int) : Int := bI ((1 ≤ rT x n i ∧ rT x n i ≤ 3) ∧ (0 ≤ rV x n i ∧ rV x n i ≤ rT x n i))
def rF (x : Int → Int) (n i : Int) : Int := if 1 ≤ rT x n i ∧ rT x n i ≤ 3 then rA x n i + 1 else i
def rL (x : Int → Int) (n i : Int) (c : Int → Int) : Int → Int := if rK x n i = 0 then c else appL c (rT x n i) (rP x n i) (rB x n i) (rV x n i)
theorem rA_rg (x : Int → Int) (n i : Int) : i + 1 ≤ rA x n i ∧ rA x n i ≤ i + 2 := by
  unfold rA
  split <;> omega
theorem rC_rg (x : Int → Int) (n i : Int) : i + 1 ≤ rC x n i ∧ rC x n i ≤ i + 4 := by
  have h := rA_rg x n i
  unfold rC
  split <;> omega
theorem rE_rg (x : Int → Int) (n i : Int) : i + 1 ≤ rE x n i ∧ rE x n i ≤ i + 5 := by
  have h := rC_rg x n i
  have h2 := bI_rg (chI x n (rC x n i) = 43)
  unfold rE rB
  omega
theorem chI_lt {x : Int → Int} {n i v : Int} (h : chI x n i = v) (hv : 0 ≤ v) : i < n := by
  unfold chI at h
  split at h <;> omega
/-- a lot that is read ends inside the text -/
theorem rE_le {x : Int → Int} {n i : Int} (h : rK x n i = 1) : rE x n i ≤ n := by
  have h1 : (1 ≤ rT x n i ∧ rT x n i ≤ 3) ∧ (0 ≤ rV x n i ∧ rV x n i ≤ rT x n i) := bI_ne (by unfold rK at h; omega)
  have h2 : i < n := chI_lt (v := chI x n i) rfl (by unfold rT at h1; omega)
  have hA : rA x n i ≤ n := by
    unfold rA rP
    by_cases a : chI x n (i + 1) = 98
    · have := chI_lt a (by omega)
      rw [if_pos a]
      split <;> omega
    · rw [if_neg a]
      by_cases b : chI x n (i + 1) = 99
      · have := chI_lt b (by omega)
        rw [if_pos b]
        split <;> omega
      · rw [if_neg b]
        split <;> omega
  have hC : rC x n i ≤ n := by
    unfold rC
    split
    · exact hA
    · rename_i hH
      have h3 : rV x n i = chI x n (rA x n i + 1) - 48 := if_neg hH
      have := chI_lt (v := chI x n (rA x n i + 1)) rfl (by omega)
      omega
  unfold rE rB
  by_cases a : chI x n (rC x n i) = 43
  · have := chI_lt a (by omega)
    rw [bI_t a]
    omega
  · rw [bI_f a]
    omega
/-- the reading of a whole text: the fault (-1 without one), how many lots, the catalogue -/
def flF (x : Int → Int) (n : Int) : Nat → Int → Int
  | 0, i => i
  | m + 1, i => if rK x n i = 0 then rF x n i else if rE x n i = n then -1 else if chI x n (rE x n i) = 44 then flF x n m (rE x n i + 1) else rE x n i
def flK (x : Int → Int) (n : Int) : Nat → Int → Int → Int
  | 0, _, k => k
  | m + 1, i, k => if rK x n i = 0 then k else if rE x n i = n then k + 1 else if chI x n (rE x n i) = 44 then flK x n m (rE x n i + 1) (k + 1) else k + 1
def flC (x : Int → Int) (n : Int) : Nat → Int → (Int → Int) → Int → Int
  | 0, _, c => c
  | m + 1, i, c => if rK x n i = 0 then c else if rE x n i = n then rL x n i c else if chI x n (rE x n i) = 44 then flC x n m (rE x n i + 1) (rL x n i c) else rL x n i c
def recH (d c : Int → Int) (n : Int) : Int → Int := if 4 ≤ n then cpI (cpI d d 0 54 (3 * 54)) c (3 * 54) 0 54 else cpI d c (n * 54) 0 54
def recN (n : Int) : Int := if 4 ≤ n then 4 else n + 1
theorem appL_lots {c : Int → Int} (t p b q : Int) (h : 0 ≤ c 0 ∧ c 0 ≤ 12) : 0 ≤ appL c t p b q 0 ∧ appL c t p b q 0 ≤ 12 := by
  unfold appL
  split
  · rw [upI_s rfl]
    omega
  · exact h
theorem rL_lots {x : Int → Int} {n i : Int} {c : Int → Int} (h : 0 ≤ c 0 ∧ c 0 ≤ 12) : 0 ≤ rL x n i c 0 ∧ rL x n i c 0 ≤ 12 := by
  unfold rL
  split
  · exact h
  · exact appL_lots _ _ _ _ h
theorem rP_rg (x : Int → Int) (n i : Int) : 0 ≤ rP x n i ∧ rP x n i ≤ 2 := by
  unfold rP
  split
  · omega
  · split <;> omega
set_option maxHeartbeats 4000000 in
set_option maxRecDepth 100000 in
theorem c_X7_isText (l : Launch) (D : va_G) (cyI : ClassId) (t : Int) (ht : -2147483648 ≤ t ∧ t ≤ 2147483647) : fp_M l yX7_isText wsX7_isText ({ frames := 0, cells := 0, slots := 0, locals := 0 } : Room) D cyI [] [.int (iI (t))] (some (.int (iI (bI (1 ≤ t ∧ t ≤ 3))))) := by
  refine fp_start (cc := cX7_isText) (maxL := 1) (ret := (some .boolean)) (by decide) rfl (Nat.le_of_ble_eq_true rfl) ?_
  intro pg en sx mi ar bl mt cd ls hx hb hr hts hown hlocks hml hnm hP hK hD hl
  have hown : sx.vm.findClass RX7 = some mi.cls := hown
  have hl : lv_has ls 1 [(0, .int (iI (t)))] := hl
  refine lv_iload_n hx hb dX7_isText_0 rfl (lv_at hl 0 rfl) ?_
  refine fp_iconst hx hb dX7_isText_1 ?_
  refine fp_icmp_lt (tgt := 14) hx hb (by omega) dX7_isText_2 (by decide) (fun q2 => ?_) (fun q2 => ?_)
  · skip
    refine fp_iconst hx hb dX7_isText_14 ?_
    have hret : (bI (1 ≤ t ∧ t ≤ 3) : Int) = 0 := (by first | rfl | omega | (unfold bI; split <;> first | rfl | omega))
    exact fp_zret hx hb hr hlocks (by first | exact Or.inl rfl | exact Or.inr rfl | exact bI_01 _ | omega) dX7_isText_15 (congrArg (fun z : Int => Value.int (iI z)) hret)
  · skip
    refine lv_iload_n hx hb dX7_isText_5 rfl (lv_at hl 0 rfl) ?_
    refine fp_iconst hx hb dX7_isText_6 ?_
    refine fp_icmp_gt (tgt := 14) hx hb (by omega) dX7_isText_7 (by decide) (fun q7 => ?_) (fun q7 => ?_)
    · skip
      refine fp_iconst hx hb dX7_isText_14 ?_
      have hret : (bI (1 ≤ t ∧ t ≤ 3) : Int) = 0 := (by first | rfl | omega | (unfold bI; split <;> first | rfl | omega))
      exact fp_zret hx hb hr hlocks (by first | exact Or.inl rfl | exact Or.inr rfl | exact bI_01 _ | omega) dX7_isText_15 (congrArg (fun z : Int => Value.int (iI z)) hret)
    · skip
      refine fp_iconst hx hb dX7_isText_10 ?_
      refine lv_goto (tgt := 15) hx hb dX7_isText_11 (by decide) ?_
      have hret : (bI (1 ≤ t ∧ t ≤ 3) : Int) = 1 := (by first | rfl | omega | (unfold bI; split <;> first | rfl | omega))
      exact fp_zret hx hb hr hlocks (by first | exact Or.inl rfl | exact Or.inr rfl | exact bI_01 _ | omega) dX7_isText_15 (congrArg (fun z : Int => Value.int (iI z)) hret)
set_option maxHeartbeats 4000000 in
set_option maxRecDepth 100000 in
theorem c_X7_isPlate (l : Launch) (D : va_G) (cyI : ClassId) (t : Int) (ht : -2147483648 ≤ t ∧ t ≤ 2147483647) : fp_M l yX7_isPlate wsX7_isPlate ({ frames := 0, cells := 0, slots := 0, locals := 0 } : Room) D cyI [] [.int (iI (t))] (some (.int (iI (bI (0 ≤ t ∧ t ≤ 2))))) := by
  refine fp_start (cc := cX7_isPlate) (maxL := 1) (ret := (some .boolean)) (by decide) rfl (Nat.le_of_ble_eq_true rfl) ?_
  intro pg en sx mi ar bl mt cd ls hx hb hr hts hown hlocks hml hnm hP hK hD hl
  have hown : sx.vm.findClass RX7 = some mi.cls := hown
  have hl : lv_has ls 1 [(0, .int (iI (t)))] := hl
  refine lv_iload_n hx hb dX7_isPlate_0 rfl (lv_at hl 0 rfl) ?_
  refine fp_if_lt (tgt := 13) hx hb (by omega) dX7_isPlate_1 (by decide) (fun q1 => ?_) (fun q1 => ?_)
  · skip
    refine fp_iconst hx hb dX7_isPlate_13 ?_
    have hret : (bI (0 ≤ t ∧ t ≤ 2) : Int) = 0 := (by first | rfl | omega | (unfold bI; split <;> first | rfl | omega))
    exact fp_zret hx hb hr hlocks (by first | exact Or.inl rfl | exact Or.inr rfl | exact bI_01 _ | omega) dX7_isPlate_14 (congrArg (fun z : Int => Value.int (iI z)) hret)
  · skip
    refine lv_iload_n hx hb dX7_isPlate_4 rfl (lv_at hl 0 rfl) ?_
    refine fp_iconst hx hb dX7_isPlate_5 ?_
    refine fp_icmp_gt (tgt := 13) hx hb (by omega) dX7_isPlate_6 (by decide) (fun q6 => ?_) (fun q6 => ?_)
    · skip
      refine fp_iconst hx hb dX7_isPlate_13 ?_
      have hret : (bI (0 ≤ t ∧ t ≤ 2) : Int) = 0 := (by first | rfl | omega | (unfold bI; split <;> first | rfl | omega))
      exact fp_zret hx hb hr hlocks (by first | exact Or.inl rfl | exact Or.inr rfl | exact bI_01 _ | omega) dX7_isPlate_14 (congrArg (fun z : Int => Value.int (iI z)) hret)
    · skip
      refine fp_iconst hx hb dX7_isPlate_9 ?_
      refine lv_goto (tgt := 14) hx hb dX7_isPlate_10 (by decide) ?_
      have hret : (bI (0 ≤ t ∧ t ≤ 2) : Int) = 1 := (by first | rfl | omega | (unfold bI; split <;> first | rfl | omega))
      exact fp_zret hx hb hr hlocks (by first | exact Or.inl rfl | exact Or.inr rfl | exact bI_01 _ | omega) dX7_isPlate_14 (congrArg (fun z : Int => Value.int (iI z)) hret)
set_option maxHeartbeats 4000000 in
set_option maxRecDepth 100000 in
theorem c_X7_isSetting (l : Launch) (D : va_G) (cyI : ClassId) (w : Int) (v : Int) (hw : -2147483648 ≤ w ∧ w ≤ 2147483647) (hv : -2147483648 ≤ v ∧ v ≤ 2147483647) : fp_M l yX7_isSetting wsX7_isSetting ({ frames := 0, cells := 0, slots := 0, locals := 0 } : Room) D cyI [] [.int (iI (w)), .int (iI (v))] (some (.int (iI (bI ((w = 0 ∧ (v = 4 ∨ v = 8 ∨ v = 16)) ∨ (¬ w = 0 ∧ 0 ≤ v ∧ (v ≤ 99 ∨ (w = 4 ∧ v ≤ 999)))))))) := by
  refine fp_start (cc := cX7_isSetting) (maxL := 2) (ret := (some .boolean)) (by decide) rfl (Nat.le_of_ble_eq_true rfl) ?_
  intro pg en sx mi ar bl mt cd ls hx hb hr hts hown hlocks hml hnm hP hK hD hl
  have hown : sx.vm.findClass RX7 = some mi.cls := hown
  have hl : lv_has ls 2 [(0, .int (iI (w))), (1, .int (iI (v)))] := hl
  refine lv_iload_n hx hb dX7_isSetting_0 rfl (lv_at hl 0 rfl) ?_
  refine fp_if_ne (tgt := 27) hx hb (by omega) dX7_isSetting_1 (by decide) (fun q1 => ?_) (fun q1 => ?_)
  · skip
    refine lv_iload_n hx hb dX7_isSetting_27 rfl (lv_at hl 1 rfl) ?_
    refine fp_if_lt (tgt := 52) hx hb (by omega) dX7_isSetting_28 (by decide) (fun q28 => ?_) (fun q28 => ?_)
    · skip
      refine fp_iconst hx hb dX7_isSetting_52 ?_
      have hret : (bI ((w = 0 ∧ (v = 4 ∨ v = 8 ∨ v = 16)) ∨ (¬ w = 0 ∧ 0 ≤ v ∧ (v ≤ 99 ∨ (w = 4 ∧ v ≤ 999)))) : Int) = 0 := (by first | rfl | omega | (unfold bI; split <;> first | rfl | omega))
      exact fp_zret hx hb hr hlocks (by first | exact Or.inl rfl | exact Or.inr rfl | exact bI_01 _ | omega) dX7_isSetting_53 (congrArg (fun z : Int => Value.int (iI z)) hret)
    · skip
      refine lv_iload_n hx hb dX7_isSetting_31 rfl (lv_at hl 1 rfl) ?_
      refine lv_iload_n hx hb dX7_isSetting_32 rfl (lv_at hl 0 rfl) ?_
      refine fp_iconst hx hb dX7_isSetting_33 ?_
      refine fp_icmp_ne (tgt := 43) hx hb (by omega) dX7_isSetting_34 (by decide) (fun q34 => ?_) (fun q34 => ?_)
      · skip
        refine fp_bipush hx hb dX7_isSetting_43 (by decide) ?_
        refine fp_icmp_gt (tgt := 52) hx hb (by omega) dX7_isSetting_45 (by decide) (fun q45 => ?_) (fun q45 => ?_)
        · skip
          refine fp_iconst hx hb dX7_isSetting_52 ?_
          have hret : (bI ((w = 0 ∧ (v = 4 ∨ v = 8 ∨ v = 16)) ∨ (¬ w = 0 ∧ 0 ≤ v ∧ (v ≤ 99 ∨ (w = 4 ∧ v ≤ 999)))) : Int) = 0 := (by first | rfl | omega | (unfold bI; split <;> first | rfl | omega))
          exact fp_zret hx hb hr hlocks (by first | exact Or.inl rfl | exact Or.inr rfl | exact bI_01 _ | omega) dX7_isSetting_53 (congrArg (fun z : Int => Value.int (iI z)) hret)
        · skip
          refine fp_iconst hx hb dX7_isSetting_48 ?_
          refine lv_goto (tgt := 53) hx hb dX7_isSetting_49 (by decide) ?_
          have hret : (bI ((w = 0 ∧ (v = 4 ∨ v = 8 ∨ v = 16)) ∨ (¬ w = 0 ∧ 0 ≤ v ∧ (v ≤ 99 ∨ (w = 4 ∧ v ≤ 999)))) : Int) = 1 := (by first | rfl | omega | (unfold bI; split <;> first | rfl | omega))
          exact fp_zret hx hb hr hlocks (by first | exact Or.inl rfl | exact Or.inr rfl | exact bI_01 _ | omega) dX7_isSetting_53 (congrArg (fun z : Int => Value.int (iI z)) hret)
      · skip
        refine fp_sipush hx hb dX7_isSetting_37 (by decide) ?_
        refine lv_goto (tgt := 45) hx hb dX7_isSetting_40 (by decide) ?_
        refine fp_icmp_gt (tgt := 52) hx hb (by omega) dX7_isSetting_45 (by decide) (fun q45 => ?_) (fun q45 => ?_)
        · skip
          refine fp_iconst hx hb dX7_isSetting_52 ?_
          have hret : (bI ((w = 0 ∧ (v = 4 ∨ v = 8 ∨ v = 16)) ∨ (¬ w = 0 ∧ 0 ≤ v ∧ (v ≤ 99 ∨ (w = 4 ∧ v ≤ 999)))) : Int) = 0 := (by first | rfl | omega | (unfold bI; split <;> first | rfl | omega))
          exact fp_zret hx hb hr hlocks (by first | exact Or.inl rfl | exact Or.inr rfl | exact bI_01 _ | omega) dX7_isSetting_53 (congrArg (fun z : Int => Value.int (iI z)) hret)
        · skip
          refine fp_iconst hx hb dX7_isSetting_48 ?_
          refine lv_goto (tgt := 53) hx hb dX7_isSetting_49 (by decide) ?_
          have hret : (bI ((w = 0 ∧ (v = 4 ∨ v = 8 ∨ v = 16)) ∨ (¬ w = 0 ∧ 0 ≤ v ∧ (v ≤ 99 ∨ (w = 4 ∧ v ≤ 999)))) : Int) = 1 := (by first | rfl | omega | (unfold bI; split <;> first | rfl | omega))
          exact fp_zret hx hb hr hlocks (by first | exact Or.inl rfl | exact Or.inr rfl | exact bI_01 _ | omega) dX7_isSetting_53 (congrArg (fun z : Int => Value.int (iI z)) hret)
  · skip
    refine lv_iload_n hx hb dX7_isSetting_4 rfl (lv_at hl 1 rfl) ?_
    refine fp_iconst hx hb dX7_isSetting_5 ?_
    refine fp_icmp_eq (tgt := 21) hx hb (by omega) dX7_isSetting_6 (by decide) (fun q6 => ?_) (fun q6 => ?_)
    · skip
      refine fp_iconst hx hb dX7_isSetting_21 ?_
      refine lv_goto (tgt := 26) hx hb dX7_isSetting_22 (by decide) ?_
      have hret : (bI ((w = 0 ∧ (v = 4 ∨ v = 8 ∨ v = 16)) ∨ (¬ w = 0 ∧ 0 ≤ v ∧ (v ≤ 99 ∨ (w = 4 ∧ v ≤ 999)))) : Int) = 1 := (by first | rfl | omega | (unfold bI; split <;> first | rfl | omega))
      exact fp_zret hx hb hr hlocks (by first | exact Or.inl rfl | exact Or.inr rfl | exact bI_01 _ | omega) dX7_isSetting_26 (congrArg (fun z : Int => Value.int (iI z)) hret)
    · skip
      refine lv_iload_n hx hb dX7_isSetting_9 rfl (lv_at hl 1 rfl) ?_
      refine fp_bipush hx hb dX7_isSetting_10 (by decide) ?_
      refine fp_icmp_eq (tgt := 21) hx hb (by omega) dX7_isSetting_12 (by decide) (fun q12 => ?_) (fun q12 => ?_)
      · skip
        refine fp_iconst hx hb dX7_isSetting_21 ?_
        refine lv_goto (tgt := 26) hx hb dX7_isSetting_22 (by decide) ?_
        have hret : (bI ((w = 0 ∧ (v = 4 ∨ v = 8 ∨ v = 16)) ∨ (¬ w = 0 ∧ 0 ≤ v ∧ (v ≤ 99 ∨ (w = 4 ∧ v ≤ 999)))) : Int) = 1 := (by first | rfl | omega | (unfold bI; split <;> first | rfl | omega))
        exact fp_zret hx hb hr hlocks (by first | exact Or.inl rfl | exact Or.inr rfl | exact bI_01 _ | omega) dX7_isSetting_26 (congrArg (fun z : Int => Value.int (iI z)) hret)
      · skip
        refine lv_iload_n hx hb dX7_isSetting_15 rfl (lv_at hl 1 rfl) ?_
        refine fp_bipush hx hb dX7_isSetting_16 (by decide) ?_
        refine fp_icmp_ne (tgt := 25) hx hb (by omega) dX7_isSetting_18 (by decide) (fun q18 => ?_) (fun q18 => ?_)
        · skip
          refine fp_iconst hx hb dX7_isSetting_25 ?_
          have hret : (bI ((w = 0 ∧ (v = 4 ∨ v = 8 ∨ v = 16)) ∨ (¬ w = 0 ∧ 0 ≤ v ∧ (v ≤ 99 ∨ (w = 4 ∧ v ≤ 999)))) : Int) = 0 := (by first | rfl | omega | (unfold bI; split <;> first | rfl | omega))
          exact fp_zret hx hb hr hlocks (by first | exact Or.inl rfl | exact Or.inr rfl | exact bI_01 _ | omega) dX7_isSetting_26 (congrArg (fun z : Int => Value.int (iI z)) hret)
        · skip
          refine fp_iconst hx hb dX7_isSetting_21 ?_
          refine lv_goto (tgt := 26) hx hb dX7_isSetting_22 (by decide) ?_
          have hret : (bI ((w = 0 ∧ (v = 4 ∨ v = 8 ∨ v = 16)) ∨ (¬ w = 0 ∧ 0 ≤ v ∧ (v ≤ 99 ∨ (w = 4 ∧ v ≤ 999)))) : Int) = 1 := (by first | rfl | omega | (unfold bI; split <;> first | rfl | omega))
          exact fp_zret hx hb hr hlocks (by first | exact Or.inl rfl | exact Or.inr rfl | exact bI_01 _ | omega) dX7_isSetting_26 (congrArg (fun z : Int => Value.int (iI z)) hret)
set_option maxHeartbeats 4000000 in
set_option maxRecDepth 100000 in
theorem c_X7_gatheringOfPage (l : Launch) (D : va_G) (cyI : ClassId) (q : Int) (g : Int) (hg : g = 4 ∨ g = 8 ∨ g = 16) (hq : 1 ≤ q ∧ q ≤ 10000) : fp_M l yX7_gatheringOfPage wsX7_gatheringOfPage ({ frames := 0, cells := 0, slots := 0, locals := 0 } : Room) D cyI [] [.int (iI (q)), .int (iI (g))] (some (.int (iI ((q - 1) / g)))) := by
  refine fp_start (cc := cX7_gatheringOfPage) (maxL := 2) (ret := (some .int)) (by decide) rfl (Nat.le_of_ble_eq_true rfl) ?_
  intro pg en sx mi ar bl mt cd ls hx hb hr hts hown hlocks hml hnm hP hK hD hl
  have hown : sx.vm.findClass RX7 = some mi.cls := hown
  have hl : lv_has ls 2 [(0, .int (iI (q))), (1, .int (iI (g)))] := hl
  refine lv_iload_n hx hb dX7_gatheringOfPage_0 rfl (lv_at hl 0 rfl) ?_
  refine fp_iconst hx hb dX7_gatheringOfPage_1 ?_
  refine fp_icmp_lt (tgt := 10) hx hb (by omega) dX7_gatheringOfPage_2 (by decide) (fun q2 => ?_) (fun q2 => ?_)
  · skip
    refine fp_iconst hx hb dX7_gatheringOfPage_10 ?_
    refine lv_goto (tgt := 19) hx hb dX7_gatheringOfPage_11 (by decide) ?_
    have hret : ((q - 1) / g : Int) = 0 := (by first | rfl | omega | (unfold bI; split <;> first | rfl | omega))
    exact fp_ret hx hb hr hlocks dX7_gatheringOfPage_19 (congrArg (fun z : Int => Value.int (iI z)) hret)
  · skip
    refine lv_iload_n hx hb dX7_gatheringOfPage_5 rfl (lv_at hl 1 rfl) ?_
    refine fp_iconst hx hb dX7_gatheringOfPage_6 ?_
    refine fp_icmp_ge (tgt := 14) hx hb (by omega) dX7_gatheringOfPage_7 (by decide) (fun q7 => ?_) (fun q7 => ?_)
    · skip
      refine lv_iload_n hx hb dX7_gatheringOfPage_14 rfl (lv_at hl 0 rfl) ?_
      refine fp_iconst hx hb dX7_gatheringOfPage_15 ?_
      refine fp_isub hx hb dX7_gatheringOfPage_16 ?_
      refine lv_iload_n hx hb dX7_gatheringOfPage_17 rfl (lv_at hl 1 rfl) ?_
      refine fp_idiv hx hb (by omega) dX7_gatheringOfPage_18 ?_
      have hret : ((q - 1) / g : Int) = (q - 1) / g := (by first | rfl | omega | (unfold bI; split <;> first | rfl | omega))
      exact fp_ret hx hb hr hlocks dX7_gatheringOfPage_19 (congrArg (fun z : Int => Value.int (iI z)) hret)
    · skip
      refine fp_iconst hx hb dX7_gatheringOfPage_10 ?_
      refine lv_goto (tgt := 19) hx hb dX7_gatheringOfPage_11 (by decide) ?_
      have hret : ((q - 1) / g : Int) = 0 := (by first | rfl | omega | (unfold bI; split <;> first | rfl | omega))
      exact fp_ret hx hb hr hlocks dX7_gatheringOfPage_19 (congrArg (fun z : Int => Value.int (iI z)) hret)
def gfI (q g : Int) : Int := (q + g - 1) / g
theorem gd_rg {q g : Int} (hg : g = 4 ∨ g = 8 ∨ g = 16) (hq : 1 ≤ q ∧ q ≤ 10000) : 0 ≤ (q - 1) / g ∧ (q - 1) / g ≤ 10000 := by
  rcases hg with rfl | rfl | rfl <;> omega
set_option maxHeartbeats 4000000 in
set_option maxRecDepth 100000 in
theorem c_X7_gatheringsFor (l : Launch) (D : va_G) (cyI : ClassId) (q : Int) (g : Int) (hg : g = 4 ∨ g = 8 ∨ g = 16) (hq : 0 ≤ q ∧ q ≤ 10000) : fp_M l yX7_gatheringsFor wsX7_gatheringsFor ({ frames := 1, cells := 0, slots := 0, locals := 21 } : Room) D cyI [] [.int (iI (q)), .int (iI (g))] (some (.int (iI (gfI q g)))) := by
  refine fp_start (cc := cX7_gatheringsFor) (maxL := 2) (ret := (some .int)) (by decide) rfl (Nat.le_of_ble_eq_true rfl) ?_
  intro pg en sx mi ar bl mt cd ls hx hb hr hts hown hlocks hml hnm hP hK hD hl
  have hown : sx.vm.findClass RX7 = some mi.cls := hown
  have hl : lv_has ls 2 [(0, .int (iI (q))), (1, .int (iI (g)))] := hl
  refine lv_iload_n hx hb dX7_gatheringsFor_0 rfl (lv_at hl 0 rfl) ?_
  refine fp_iconst hx hb dX7_gatheringsFor_1 ?_
  refine fp_icmp_ge (tgt := 9) hx hb (by omega) dX7_gatheringsFor_2 (by decide) (fun q2 => ?_) (fun q2 => ?_)
  · skip
    refine lv_iload_n hx hb dX7_gatheringsFor_9 rfl (lv_at hl 0 rfl) ?_
    refine lv_iload_n hx hb dX7_gatheringsFor_10 rfl (lv_at hl 1 rfl) ?_
    refine fp_pS (As := [.int (iI (q)), .int (iI (g))]) (rest := []) (wsC := []) ⟨hx, hb, hml, hown, hts⟩ (c_X7_gatheringOfPage l D cyI q g hg (by omega)) (va_cwS 2 hts gX7_gatheringsFor_X7_gatheringOfPage rfl rfl rfl (by decide +kernel) ⟨Nat.le_of_ble_eq_true rfl, Nat.le_of_ble_eq_true rfl⟩) hK hP hD [] (by decide) rfl rfl hl.1 rfl (Nat.le_of_ble_eq_true rfl) dX7_gatheringsFor_11 ⟨Nat.zero_le _, Nat.zero_le _⟩ ?_
    refine fp_iconst hx hb dX7_gatheringsFor_14 ?_
    refine fp_iadd hx hb dX7_gatheringsFor_15 ?_
    have hret : (gfI q g : Int) = ((q - 1) / g) + 1 := (by unfold gfI; rcases hg with rfl | rfl | rfl <;> omega)
    exact fp_ret hx hb hr hlocks dX7_gatheringsFor_16 (congrArg (fun z : Int => Value.int (iI z)) hret)
  · skip
    refine fp_iconst hx hb dX7_gatheringsFor_5 ?_
    refine lv_goto (tgt := 16) hx hb dX7_gatheringsFor_6 (by decide) ?_
    have hret : (gfI q g : Int) = 0 := (by unfold gfI; rcases hg with rfl | rfl | rfl <;> omega)
    exact fp_ret hx hb hr hlocks dX7_gatheringsFor_16 (congrArg (fun z : Int => Value.int (iI z)) hret)
set_option maxHeartbeats 4000000 in
set_option maxRecDepth 100000 in
theorem c_X7_sideOfPage (l : Launch) (D : va_G) (cyI : ClassId) (q : Int) (hq : 0 ≤ q ∧ q ≤ 10000) : fp_M l yX7_sideOfPage wsX7_sideOfPage ({ frames := 0, cells := 0, slots := 0, locals := 0 } : Room) D cyI [] [.int (iI (q))] (some (.int (iI (bI (2 ≤ q % 4))))) := by
  refine fp_start (cc := cX7_sideOfPage) (maxL := 2) (ret := (some .int)) (by decide) rfl (Nat.le_of_ble_eq_true rfl) ?_
  intro pg en sx mi ar bl mt cd ls hx hb hr hts hown hlocks hml hnm hP hK hD hl
  have hown : sx.vm.findClass RX7 = some mi.cls := hown
  have hl : lv_has ls 2 [(0, .int (iI (q)))] := hl
  refine lv_iload_n hx hb dX7_sideOfPage_0 rfl (lv_at hl 0 rfl) ?_
  refine fp_iconst hx hb dX7_sideOfPage_1 ?_
  refine fp_and3 hx hb (by omega) dX7_sideOfPage_2 ?_
  refine lv_istore_n (lv' := [(1, .int (iI (q % 4))), (0, .int (iI (q)))]) hx hb dX7_sideOfPage_3 rfl hl (by decide) rfl (fun ls hl => ?_)
  refine lv_iload_n hx hb dX7_sideOfPage_4 rfl (lv_at hl 0 rfl) ?_
  refine fp_if_eq (tgt := 13) hx hb (by omega) dX7_sideOfPage_5 (by decide) (fun q5 => ?_) (fun q5 => ?_)
  · skip
    refine fp_iconst hx hb dX7_sideOfPage_13 ?_
    refine lv_goto (tgt := 18) hx hb dX7_sideOfPage_14 (by decide) ?_
    have hret : (bI (2 ≤ q % 4) : Int) = 0 := (by first | rfl | omega | (unfold bI; split <;> first | rfl | omega))
    exact fp_ret hx hb hr hlocks dX7_sideOfPage_18 (congrArg (fun z : Int => Value.int (iI z)) hret)
  · skip
    refine lv_iload_n hx hb dX7_sideOfPage_8 rfl (lv_at hl 0 rfl) ?_
    refine fp_iconst hx hb dX7_sideOfPage_9 ?_
    refine fp_icmp_ne (tgt := 17) hx hb (by omega) dX7_sideOfPage_10 (by decide) (fun q10 => ?_) (fun q10 => ?_)
    · skip
      refine fp_iconst hx hb dX7_sideOfPage_17 ?_
      have hret : (bI (2 ≤ q % 4) : Int) = 1 := (by first | rfl | omega | (unfold bI; split <;> first | rfl | omega))
      exact fp_ret hx hb hr hlocks dX7_sideOfPage_18 (congrArg (fun z : Int => Value.int (iI z)) hret)
    · skip
      refine fp_iconst hx hb dX7_sideOfPage_13 ?_
      refine lv_goto (tgt := 18) hx hb dX7_sideOfPage_14 (by decide) ?_
      have hret : (bI (2 ≤ q % 4) : Int) = 0 := (by first | rfl | omega | (unfold bI; split <;> first | rfl | omega))
      exact fp_ret hx hb hr hlocks dX7_sideOfPage_18 (congrArg (fun z : Int => Value.int (iI z)) hret)
theorem fl_X6_length_20 : Cond.fieldLink RX6 20 "FacingPlates$Typed" "length" "I" ∈ wsX6_length := by decide +kernel
set_option maxHeartbeats 4000000 in
set_option maxRecDepth 100000 in
theorem c_X6_length (l : Launch) (D : va_G) (cyI : ClassId) (h : Nat) (r : Nat) (n : Int) : fp_M l yX6_length wsX6_length ({ frames := 0, cells := 0, slots := 0, locals := 0 } : Room) D cyI [(h, .inr (6, [.ref r, .int (iI (n))]))] [.ref h] (some (.int (iI (n)))) := by
  refine fp_start (cc := cX6_length) (maxL := 1) (ret := (some .int)) (by decide) rfl (Nat.le_of_ble_eq_true rfl) ?_
  intro pg en sx mi ar bl mt cd ls hx hb hr hts hown hlocks hml hnm hP hK hD hl
  have hown : sx.vm.findClass RX6 = some mi.cls := hown
  have hl : lv_has ls 1 [(0, .ref h)] := hl
  refine lv_aload_n hx hb dX6_length_0 rfl (lv_at hl 0 rfl) ?_
  refine va_get (D := D) (ci := 6) (ws := [(h, .inr (6, [.ref r, .int (iI (n))]))]) (v := .int (iI (n))) (C := RX6) (T := TX6) (N := 2) hx hb hts (fun _ h => List.mem_cons_of_mem _ (List.mem_append_right _ h)) hown hK.1 hP 0 rfl rfl 1 (by decide) (hts _ fl_X6_length_20) (fun _ h9 => h9) rfl dX6_length_1 ?_
  have hret : (n : Int) = n := (by first | rfl | omega | (unfold bI; split <;> first | rfl | omega))
  exact fp_ret hx hb hr hlocks dX6_length_4 (congrArg (fun z : Int => Value.int (iI z)) hret)
theorem fl_X6_append_14 : Cond.fieldLink RX6 14 "FacingPlates$Typed" "characters" "LFacingPlates$Row;" ∈ wsX6_append := by decide +kernel
theorem fl_X6_append_20 : Cond.fieldLink RX6 20 "FacingPlates$Typed" "length" "I" ∈ wsX6_append := by decide +kernel
set_option maxHeartbeats 4000000 in
set_option maxRecDepth 100000 in
theorem c_X6_append (l : Launch) (D : va_G) (cyI : ClassId) (h : Nat) (r : Nat) (a : Nat) (x : Int → Int) (n : Int) (v : Int) (hn60 : 0 ≤ n ∧ n < 60) : fp_MW l yX6_append wsX6_append ({ frames := 1, cells := 0, slots := 0, locals := 22 } : Room) D cyI [(h, .inr (6, [.ref r, .int (iI (n))])), (r, .inr (5, [.ref a])), (a, fA cyI 60 x)] [.ref h, .int (iI (v))] (fun (u9 : Unit) => True) (fun (u9 : Unit) => none) (fun (u9 : Unit) => [(h, .inr (6, [.ref r, .int (iI (n + 1))])), (r, .inr (5, [.ref a])), (a, fA cyI 60 (upI x n v))]) := by
  refine fp_start (cc := cX6_append) (maxL := 2) (ret := none) (by decide) rfl (Nat.le_of_ble_eq_true rfl) ?_
  intro pg en sx mi ar bl mt cd ls hx hb hr hts hown hlocks hml hnm hP hK hD hl
  have hown : sx.vm.findClass RX6 = some mi.cls := hown
  have hl : lv_has ls 2 [(0, .ref h), (1, .int (iI (v)))] := hl
  have hD := fp_self hD
  have hS : va_S (fp_A [(h, .inr (6, [.ref r, .int (iI (n))])), (r, .inr (5, [.ref a])), (a, fA cyI 60 x)]) sx.heap sx.heap [] := va_S.rf
  refine lv_aload_n hx hb dX6_append_0 rfl (lv_at hl 0 rfl) ?_
  refine va_get (D := D) (ci := 6) (ws := [(h, .inr (6, [.ref r, .int (iI (n))])), (r, .inr (5, [.ref a])), (a, fA cyI 60 x)]) (v := .ref r) (C := RX6) (T := TX6) (N := 2) hx hb hts (fun _ h => List.mem_cons_of_mem _ (List.mem_append_left _ (List.mem_append_right _ h))) hown hK.1 hP 0 rfl rfl 0 (by decide) (hts _ fl_X6_append_14) (fun _ h9 => h9) rfl dX6_append_1 ?_
  refine lv_aload_n hx hb dX6_append_4 rfl (lv_at hl 0 rfl) ?_
  refine va_get (D := D) (ci := 6) (ws := [(h, .inr (6, [.ref r, .int (iI (n))])), (r, .inr (5, [.ref a])), (a, fA cyI 60 x)]) (v := .int (iI (n))) (C := RX6) (T := TX6) (N := 2) hx hb hts (fun _ h => List.mem_cons_of_mem _ (List.mem_append_left _ (List.mem_append_right _ h))) hown hK.1 hP 0 rfl rfl 1 (by decide) (hts _ fl_X6_append_20) (fun _ h9 => h9) rfl dX6_append_5 ?_
  refine lv_iload_n hx hb dX6_append_8 rfl (lv_at hl 1 rfl) ?_
  refine fp_wV (As := [.int (iI (n)), .int (iI (v))]) (rest := []) (wsC := [(h, .inr (6, [.ref r, .int (iI (n))])), (r, .inr (5, [.ref a])), (a, fA cyI 60 x)]) ⟨hx, hb, hml, hown, hts⟩ (c_X5_put l D cyI r a 60 x n v (by omega) (by decide)) (cwV 2 hts gX6_append_X5_put rfl rfl rfl (by decide +kernel) ⟨Nat.le_of_ble_eq_true rfl, Nat.le_of_ble_eq_true rfl⟩) (fun _ => rfl) hK hP hD hS [1, 2] (by decide) rfl rfl rfl rfl hl.1 rfl (Nat.le_of_ble_eq_true rfl) dX6_append_9 ⟨Nat.zero_le _, Nat.zero_le _⟩ (fun u9v H locs hu hP hD hS => ?_)
  refine W.eq (g2 := F0 mi 12 ls []) rfl ?_
  have hP : va_P D vwCl [(h, .inr (6, [.ref r, .int (iI (n))])), (r, .inr (5, [.ref a])), (a, fA cyI 60 (upI x n v))] H := hP
  have hD : va_D (fp_A [(h, .inr (6, [.ref r, .int (iI (n))])), (r, .inr (5, [.ref a])), (a, fA cyI 60 x)]) [(h, .inr (6, [.ref r, .int (iI (n))])), (r, .inr (5, [.ref a])), (a, fA cyI 60 (upI x n v))] := hD
  refine lv_aload_n hx hb dX6_append_12 rfl (lv_at hl 0 rfl) ?_
  refine lv_dup hx hb dX6_append_13 rfl ?_
  refine va_get (D := D) (ci := 6) (ws := [(h, .inr (6, [.ref r, .int (iI (n))])), (r, .inr (5, [.ref a])), (a, fA cyI 60 (upI x n v))]) (v := .int (iI (n))) (C := RX6) (T := TX6) (N := 2) hx hb hts (fun _ h => List.mem_cons_of_mem _ (List.mem_append_left _ (List.mem_append_right _ h))) hown hK.1 hP 0 rfl rfl 1 (by decide) (hts _ fl_X6_append_20) (fun _ h9 => h9) rfl dX6_append_14 ?_
  refine fp_iconst hx hb dX6_append_17 ?_
  refine fp_iadd hx hb dX6_append_18 ?_
  refine va_put (D := D) (ci := 6) (ws := [(h, .inr (6, [.ref r, .int (iI (n))])), (r, .inr (5, [.ref a])), (a, fA cyI 60 (upI x n v))]) (v := .int (iI (n + 1))) (ty := .int) (C := RX6) (T := TX6) (N := 2) hx hb hts (fun _ h => List.mem_cons_of_mem _ (List.mem_append_left _ (List.mem_append_right _ h))) tyX6 tyX6_ok nmX6 hown hK.1 hP hD hS 0 rfl rfl 1 (by decide) (hts _ fl_X6_append_20) (fun _ h9 => h9) rfl (by decide +kernel) rfl rfl (Nat.le_of_ble_eq_true rfl) dX6_append_19 (fun H locs hP hD hS => ?_)
  have hP : va_P D vwCl [(h, .inr (6, [.ref r, .int (iI (n + 1))])), (r, .inr (5, [.ref a])), (a, fA cyI 60 (upI x n v))] H := hP
  have hD : va_D (fp_A [(h, .inr (6, [.ref r, .int (iI (n))])), (r, .inr (5, [.ref a])), (a, fA cyI 60 x)]) [(h, .inr (6, [.ref r, .int (iI (n + 1))])), (r, .inr (5, [.ref a])), (a, fA cyI 60 (upI x n v))] := hD
  exact fp_wvret () hx hb hr hlocks hS hP trivial rfl dX6_append_22
theorem fl_X6_empty_20 : Cond.fieldLink RX6 20 "FacingPlates$Typed" "length" "I" ∈ wsX6_empty := by decide +kernel
set_option maxHeartbeats 4000000 in
set_option maxRecDepth 100000 in
theorem c_X6_empty (l : Launch) (D : va_G) (cyI : ClassId) (h : Nat) (r : Nat) (n : Int) : fp_MW l yX6_empty wsX6_empty ({ frames := 0, cells := 0, slots := 0, locals := 0 } : Room) D cyI [(h, .inr (6, [.ref r, .int (iI (n))]))] [.ref h] (fun (u9 : Unit) => True) (fun (u9 : Unit) => none) (fun (u9 : Unit) => [(h, .inr (6, [.ref r, .int (iI (0))]))]) := by
  refine fp_start (cc := cX6_empty) (maxL := 1) (ret := none) (by decide) rfl (Nat.le_of_ble_eq_true rfl) ?_
  intro pg en sx mi ar bl mt cd ls hx hb hr hts hown hlocks hml hnm hP hK hD hl
  have hown : sx.vm.findClass RX6 = some mi.cls := hown
  have hl : lv_has ls 1 [(0, .ref h)] := hl
  have hD := fp_self hD
  have hS : va_S (fp_A [(h, .inr (6, [.ref r, .int (iI (n))]))]) sx.heap sx.heap [] := va_S.rf
  refine lv_aload_n hx hb dX6_empty_0 rfl (lv_at hl 0 rfl) ?_
  refine fp_iconst hx hb dX6_empty_1 ?_
  refine va_put (D := D) (ci := 6) (ws := [(h, .inr (6, [.ref r, .int (iI (n))]))]) (v := .int (iI (0))) (ty := .int) (C := RX6) (T := TX6) (N := 2) hx hb hts (fun _ h => List.mem_cons_of_mem _ (List.mem_append_right _ h)) tyX6 tyX6_ok nmX6 hown hK.1 hP hD hS 0 rfl rfl 1 (by decide) (hts _ fl_X6_empty_20) (fun _ h9 => h9) rfl (by decide +kernel) rfl rfl (Nat.le_of_ble_eq_true rfl) dX6_empty_2 (fun H locs hP hD hS => ?_)
  have hP : va_P D vwCl [(h, .inr (6, [.ref r, .int (iI (0))]))] H := hP
  have hD : va_D (fp_A [(h, .inr (6, [.ref r, .int (iI (n))]))]) [(h, .inr (6, [.ref r, .int (iI (0))]))] := hD
  exact fp_wvret () hx hb hr hlocks hS hP trivial rfl dX6_empty_5
theorem fl_X6_at_20 : Cond.fieldLink RX6 20 "FacingPlates$Typed" "length" "I" ∈ wsX6_at := by decide +kernel
theorem fl_X6_at_14 : Cond.fieldLink RX6 14 "FacingPlates$Typed" "characters" "LFacingPlates$Row;" ∈ wsX6_at := by decide +kernel
set_option maxHeartbeats 4000000 in
set_option maxRecDepth 100000 in
theorem c_X6_at (l : Launch) (D : va_G) (cyI : ClassId) (h : Nat) (r : Nat) (a : Nat) (x : Int → Int) (n : Int) (i : Int) (hn60 : 0 ≤ n ∧ n ≤ 60) (hi : -2147483648 ≤ i ∧ i ≤ 2147483647) : fp_M l yX6_at wsX6_at ({ frames := 1, cells := 0, slots := 0, locals := 21 } : Room) D cyI [(h, .inr (6, [.ref r, .int (iI (n))])), (r, .inr (5, [.ref a])), (a, fA cyI 60 x)] [.ref h, .int (iI (i))] (some (.int (iI (chI x n i)))) := by
  refine fp_start (cc := cX6_at) (maxL := 2) (ret := (some .int)) (by decide) rfl (Nat.le_of_ble_eq_true rfl) ?_
  intro pg en sx mi ar bl mt cd ls hx hb hr hts hown hlocks hml hnm hP hK hD hl
  have hown : sx.vm.findClass RX6 = some mi.cls := hown
  have hl : lv_has ls 2 [(0, .ref h), (1, .int (iI (i)))] := hl
  refine lv_iload_n hx hb dX6_at_0 rfl (lv_at hl 1 rfl) ?_
  refine fp_if_lt (tgt := 23) hx hb (by omega) dX6_at_1 (by decide) (fun q1 => ?_) (fun q1 => ?_)
  · skip
    refine fp_iconst hx hb dX6_at_23 ?_
    have hret : (chI x n i : Int) = (-1) := (by unfold chI; first | rw [if_pos (by omega)] | rw [if_neg (by omega)])
    exact fp_ret hx hb hr hlocks dX6_at_24 (congrArg (fun z : Int => Value.int (iI z)) hret)
  · skip
    refine lv_iload_n hx hb dX6_at_4 rfl (lv_at hl 1 rfl) ?_
    refine lv_aload_n hx hb dX6_at_5 rfl (lv_at hl 0 rfl) ?_
    refine va_get (D := D) (ci := 6) (ws := [(h, .inr (6, [.ref r, .int (iI (n))])), (r, .inr (5, [.ref a])), (a, fA cyI 60 x)]) (v := .int (iI (n))) (C := RX6) (T := TX6) (N := 2) hx hb hts (fun _ h => List.mem_cons_of_mem _ (List.mem_append_left _ (List.mem_append_right _ h))) hown hK.1 hP 0 rfl rfl 1 (by decide) (hts _ fl_X6_at_20) (fun _ h9 => h9) rfl dX6_at_6 ?_
    refine fp_icmp_ge (tgt := 23) hx hb (by omega) dX6_at_9 (by decide) (fun q9 => ?_) (fun q9 => ?_)
    · skip
      refine fp_iconst hx hb dX6_at_23 ?_
      have hret : (chI x n i : Int) = (-1) := (by unfold chI; first | rw [if_pos (by omega)] | rw [if_neg (by omega)])
      exact fp_ret hx hb hr hlocks dX6_at_24 (congrArg (fun z : Int => Value.int (iI z)) hret)
    · skip
      refine lv_aload_n hx hb dX6_at_12 rfl (lv_at hl 0 rfl) ?_
      refine va_get (D := D) (ci := 6) (ws := [(h, .inr (6, [.ref r, .int (iI (n))])), (r, .inr (5, [.ref a])), (a, fA cyI 60 x)]) (v := .ref r) (C := RX6) (T := TX6) (N := 2) hx hb hts (fun _ h => List.mem_cons_of_mem _ (List.mem_append_left _ (List.mem_append_right _ h))) hown hK.1 hP 0 rfl rfl 0 (by decide) (hts _ fl_X6_at_14) (fun _ h9 => h9) rfl dX6_at_13 ?_
      refine lv_iload_n hx hb dX6_at_16 rfl (lv_at hl 1 rfl) ?_
      refine fp_pV (As := [.int (iI (i))]) (rest := []) (wsC := [(h, .inr (6, [.ref r, .int (iI (n))])), (r, .inr (5, [.ref a])), (a, fA cyI 60 x)]) ⟨hx, hb, hml, hown, hts⟩ (c_X5_at l D cyI r a 60 x i (by omega) (by decide)) (cwV 1 hts gX6_at_X5_at rfl rfl rfl (by decide +kernel) ⟨Nat.le_of_ble_eq_true rfl, Nat.le_of_ble_eq_true rfl⟩) hK hP hD [1, 2] (by decide) rfl rfl rfl rfl hl.1 rfl (Nat.le_of_ble_eq_true rfl) dX6_at_17 ⟨Nat.zero_le _, Nat.zero_le _⟩ ?_
      refine lv_goto (tgt := 24) hx hb dX6_at_20 (by decide) ?_
      have hret : (chI x n i : Int) = x i := (by unfold chI; first | rw [if_pos (by omega)] | rw [if_neg (by omega)])
      exact fp_ret hx hb hr hlocks dX6_at_24 (congrArg (fun z : Int => Value.int (iI z)) hret)
theorem fl_X1_states_22 : Cond.fieldLink RX1 22 "FacingPlates$History" "states" "I" ∈ wsX1_states := by decide +kernel
set_option maxHeartbeats 4000000 in
set_option maxRecDepth 100000 in
theorem c_X1_states (l : Launch) (D : va_G) (cyI : ClassId) (h : Nat) (r : Nat) (n : Int) : fp_M l yX1_states wsX1_states ({ frames := 0, cells := 0, slots := 0, locals := 0 } : Room) D cyI [(h, .inr (1, [.ref r, .int (iI (n))]))] [.ref h] (some (.int (iI (n)))) := by
  refine fp_start (cc := cX1_states) (maxL := 1) (ret := (some .int)) (by decide) rfl (Nat.le_of_ble_eq_true rfl) ?_
  intro pg en sx mi ar bl mt cd ls hx hb hr hts hown hlocks hml hnm hP hK hD hl
  have hown : sx.vm.findClass RX1 = some mi.cls := hown
  have hl : lv_has ls 1 [(0, .ref h)] := hl
  refine lv_aload_n hx hb dX1_states_0 rfl (lv_at hl 0 rfl) ?_
  refine va_get (D := D) (ci := 1) (ws := [(h, .inr (1, [.ref r, .int (iI (n))]))]) (v := .int (iI (n))) (C := RX1) (T := TX1) (N := 2) hx hb hts (fun _ h => List.mem_cons_of_mem _ (List.mem_append_right _ h)) hown hK.1 hP 0 rfl rfl 1 (by decide) (hts _ fl_X1_states_22) (fun _ h9 => h9) rfl dX1_states_1 ?_
  have hret : (n : Int) = n := (by first | rfl | omega | (unfold bI; split <;> first | rfl | omega))
  exact fp_ret hx hb hr hlocks dX1_states_4 (congrArg (fun z : Int => Value.int (iI z)) hret)
theorem fl_X1_record_22 : Cond.fieldLink RX1 22 "FacingPlates$History" "states" "I" ∈ wsX1_record := by decide +kernel
theorem fl_X1_record_16 : Cond.fieldLink RX1 16 "FacingPlates$History" "shelf" "LFacingPlates$Row;" ∈ wsX1_record := by decide +kernel
set_option maxHeartbeats 4000000 in
set_option maxRecDepth 100000 in
theorem c_X1_record (l : Launch) (D : va_G) (cyI : ClassId) (h : Nat) (r : Nat) (a : Nat) (d : Int → Int) (n : Int) (h2 : Nat) (r2 : Nat) (a2 : Nat) (c : Int → Int) (hn4 : 0 ≤ n ∧ n ≤ 4) : fp_MW l yX1_record wsX1_record ({ frames := 3, cells := 0, slots := 0, locals := 69 } : Room) D cyI [(h, .inr (1, [.ref r, .int (iI (n))])), (r, .inr (5, [.ref a])), (a, fA cyI 216 d), (h2, .inr (0, [.ref r2])), (r2, .inr (5, [.ref a2])), (a2, fA cyI 54 c)] [.ref h, .ref h2] (fun (u9 : Unit) => True) (fun (u9 : Unit) => none) (fun (u9 : Unit) => [(h, .inr (1, [.ref r, .int (iI (recN n))])), (r, .inr (5, [.ref a])), (a, fA cyI 216 (recH d c n)), (h2, .inr (0, [.ref r2])), (r2, .inr (5, [.ref a2])), (a2, fA cyI 54 c)]) := by
  refine fp_start (cc := cX1_record) (maxL := 2) (ret := none) (by decide) rfl (Nat.le_of_ble_eq_true rfl) ?_
  intro pg en sx mi ar bl mt cd ls hx hb hr hts hown hlocks hml hnm hP hK hD hl
  have hown : sx.vm.findClass RX1 = some mi.cls := hown
  have hl : lv_has ls 2 [(0, .ref h), (1, .ref h2)] := hl
  have hD := fp_self hD
  have hS : va_S (fp_A [(h, .inr (1, [.ref r, .int (iI (n))])), (r, .inr (5, [.ref a])), (a, fA cyI 216 d), (h2, .inr (0, [.ref r2])), (r2, .inr (5, [.ref a2])), (a2, fA cyI 54 c)]) sx.heap sx.heap [] := va_S.rf
  refine lv_aload_n hx hb dX1_record_0 rfl (lv_at hl 0 rfl) ?_
  refine va_get (D := D) (ci := 1) (ws := [(h, .inr (1, [.ref r, .int (iI (n))])), (r, .inr (5, [.ref a])), (a, fA cyI 216 d), (h2, .inr (0, [.ref r2])), (r2, .inr (5, [.ref a2])), (a2, fA cyI 54 c)]) (v := .int (iI (n))) (C := RX1) (T := TX1) (N := 2) hx hb hts (fun _ h => List.mem_cons_of_mem _ (List.mem_append_left _ (List.mem_append_left _ (List.mem_append_right _ h)))) hown hK.1 hP 0 rfl rfl 1 (by decide) (hts _ fl_X1_record_22) (fun _ h9 => h9) rfl dX1_record_1 ?_
  refine fp_iconst hx hb dX1_record_4 ?_
  refine fp_icmp_lt (tgt := 34) hx hb (by omega) dX1_record_5 (by decide) (fun q5 => ?_) (fun q5 => ?_)
  · skip
    refine lv_aload_n hx hb dX1_record_34 rfl (lv_at hl 1 rfl) ?_
    refine lv_aload_n hx hb dX1_record_35 rfl (lv_at hl 0 rfl) ?_
    refine va_get (D := D) (ci := 1) (ws := [(h, .inr (1, [.ref r, .int (iI (n))])), (r, .inr (5, [.ref a])), (a, fA cyI 216 d), (h2, .inr (0, [.ref r2])), (r2, .inr (5, [.ref a2])), (a2, fA cyI 54 c)]) (v := .ref r) (C := RX1) (T := TX1) (N := 2) hx hb hts (fun _ h => List.mem_cons_of_mem _ (List.mem_append_left _ (List.mem_append_left _ (List.mem_append_right _ h)))) hown hK.1 hP 0 rfl rfl 0 (by decide) (hts _ fl_X1_record_16) (fun _ h9 => h9) rfl dX1_record_36 ?_
    refine lv_aload_n hx hb dX1_record_39 rfl (lv_at hl 0 rfl) ?_
    refine va_get (D := D) (ci := 1) (ws := [(h, .inr (1, [.ref r, .int (iI (n))])), (r, .inr (5, [.ref a])), (a, fA cyI 216 d), (h2, .inr (0, [.ref r2])), (r2, .inr (5, [.ref a2])), (a2, fA cyI 54 c)]) (v := .int (iI (n))) (C := RX1) (T := TX1) (N := 2) hx hb hts (fun _ h => List.mem_cons_of_mem _ (List.mem_append_left _ (List.mem_append_left _ (List.mem_append_right _ h)))) hown hK.1 hP 0 rfl rfl 1 (by decide) (hts _ fl_X1_record_22) (fun _ h9 => h9) rfl dX1_record_40 ?_
    refine fp_bipush hx hb dX1_record_43 (by decide) ?_
    refine fp_imul hx hb dX1_record_45 ?_
    refine fp_wV (As := [.ref r, .int (iI (n * 54))]) (rest := []) (wsC := [(h, .inr (1, [.ref r, .int (iI (n))])), (r, .inr (5, [.ref a])), (a, fA cyI 216 d), (h2, .inr (0, [.ref r2])), (r2, .inr (5, [.ref a2])), (a2, fA cyI 54 c)]) ⟨hx, hb, hml, hown, hts⟩ (c_X0_writeTo l D cyI h2 r2 a2 c r a 216 d (n * 54) (by omega) (by decide)) (cwV 2 hts gX1_record_X0_writeTo rfl rfl rfl (by decide +kernel) ⟨Nat.le_of_ble_eq_true rfl, Nat.le_of_ble_eq_true rfl⟩) (fun _ => rfl) hK hP hD hS [3, 4, 5, 1, 2] (by decide) rfl rfl rfl rfl hl.1 rfl (Nat.le_of_ble_eq_true rfl) dX1_record_46 ⟨Nat.zero_le _, Nat.zero_le _⟩ (fun u9v H locs hu hP hD hS => ?_)
    refine W.eq (g2 := F0 mi 49 ls []) rfl ?_
    have hP : va_P D vwCl [(h, .inr (1, [.ref r, .int (iI (n))])), (r, .inr (5, [.ref a])), (a, fA cyI 216 (cpI d c (n * 54) 0 54)), (h2, .inr (0, [.ref r2])), (r2, .inr (5, [.ref a2])), (a2, fA cyI 54 c)] H := hP
    have hD : va_D (fp_A [(h, .inr (1, [.ref r, .int (iI (n))])), (r, .inr (5, [.ref a])), (a, fA cyI 216 d), (h2, .inr (0, [.ref r2])), (r2, .inr (5, [.ref a2])), (a2, fA cyI 54 c)]) [(h, .inr (1, [.ref r, .int (iI (n))])), (r, .inr (5, [.ref a])), (a, fA cyI 216 (cpI d c (n * 54) 0 54)), (h2, .inr (0, [.ref r2])), (r2, .inr (5, [.ref a2])), (a2, fA cyI 54 c)] := hD
    refine lv_aload_n hx hb dX1_record_49 rfl (lv_at hl 0 rfl) ?_
    refine lv_dup hx hb dX1_record_50 rfl ?_
    refine va_get (D := D) (ci := 1) (ws := [(h, .inr (1, [.ref r, .int (iI (n))])), (r, .inr (5, [.ref a])), (a, fA cyI 216 (cpI d c (n * 54) 0 54)), (h2, .inr (0, [.ref r2])), (r2, .inr (5, [.ref a2])), (a2, fA cyI 54 c)]) (v := .int (iI (n))) (C := RX1) (T := TX1) (N := 2) hx hb hts (fun _ h => List.mem_cons_of_mem _ (List.mem_append_left _ (List.mem_append_left _ (List.mem_append_right _ h)))) hown hK.1 hP 0 rfl rfl 1 (by decide) (hts _ fl_X1_record_22) (fun _ h9 => h9) rfl dX1_record_51 ?_
    refine fp_iconst hx hb dX1_record_54 ?_
    refine fp_iadd hx hb dX1_record_55 ?_
    refine va_put (D := D) (ci := 1) (ws := [(h, .inr (1, [.ref r, .int (iI (n))])), (r, .inr (5, [.ref a])), (a, fA cyI 216 (cpI d c (n * 54) 0 54)), (h2, .inr (0, [.ref r2])), (r2, .inr (5, [.ref a2])), (a2, fA cyI 54 c)]) (v := .int (iI (n + 1))) (ty := .int) (C := RX1) (T := TX1) (N := 2) hx hb hts (fun _ h => List.mem_cons_of_mem _ (List.mem_append_left _ (List.mem_append_left _ (List.mem_append_right _ h)))) tyX1 tyX1_ok nmX1 hown hK.1 hP hD hS 0 rfl rfl 1 (by decide) (hts _ fl_X1_record_22) (fun _ h9 => h9) rfl (by decide +kernel) rfl rfl (Nat.le_of_ble_eq_true rfl) dX1_record_56 (fun H locs hP hD hS => ?_)
    have hP : va_P D vwCl [(h, .inr (1, [.ref r, .int (iI (n + 1))])), (r, .inr (5, [.ref a])), (a, fA cyI 216 (cpI d c (n * 54) 0 54)), (h2, .inr (0, [.ref r2])), (r2, .inr (5, [.ref a2])), (a2, fA cyI 54 c)] H := hP
    have hD : va_D (fp_A [(h, .inr (1, [.ref r, .int (iI (n))])), (r, .inr (5, [.ref a])), (a, fA cyI 216 d), (h2, .inr (0, [.ref r2])), (r2, .inr (5, [.ref a2])), (a2, fA cyI 54 c)]) [(h, .inr (1, [.ref r, .int (iI (n + 1))])), (r, .inr (5, [.ref a])), (a, fA cyI 216 (cpI d c (n * 54) 0 54)), (h2, .inr (0, [.ref r2])), (r2, .inr (5, [.ref a2])), (a2, fA cyI 54 c)] := hD
    have hP : va_P D vwCl [(h, .inr (1, [.ref r, .int (iI (recN n))])), (r, .inr (5, [.ref a])), (a, fA cyI 216 (recH d c n)), (h2, .inr (0, [.ref r2])), (r2, .inr (5, [.ref a2])), (a2, fA cyI 54 c)] H := by
      rw [(show (cpI d c (n * 54) 0 54 : Int → Int) = recH d c n from (by unfold recH; first | rw [if_pos (by omega)] | rw [if_neg (by omega)])).symm]
      rw [(show (n + 1 : Int) = recN n from (by unfold recN; split <;> omega)).symm]
      exact hP
    exact fp_wvret () hx hb hr hlocks hS hP trivial rfl dX1_record_59
  · skip
    refine lv_aload_n hx hb dX1_record_8 rfl (lv_at hl 0 rfl) ?_
    refine fp_iconst hx hb dX1_record_9 ?_
    refine va_put (D := D) (ci := 1) (ws := [(h, .inr (1, [.ref r, .int (iI (n))])), (r, .inr (5, [.ref a])), (a, fA cyI 216 d), (h2, .inr (0, [.ref r2])), (r2, .inr (5, [.ref a2])), (a2, fA cyI 54 c)]) (v := .int (iI (3))) (ty := .int) (C := RX1) (T := TX1) (N := 2) hx hb hts (fun _ h => List.mem_cons_of_mem _ (List.mem_append_left _ (List.mem_append_left _ (List.mem_append_right _ h)))) tyX1 tyX1_ok nmX1 hown hK.1 hP hD hS 0 rfl rfl 1 (by decide) (hts _ fl_X1_record_22) (fun _ h9 => h9) rfl (by decide +kernel) rfl rfl (Nat.le_of_ble_eq_true rfl) dX1_record_10 (fun H locs hP hD hS => ?_)
    have hP : va_P D vwCl [(h, .inr (1, [.ref r, .int (iI (3))])), (r, .inr (5, [.ref a])), (a, fA cyI 216 d), (h2, .inr (0, [.ref r2])), (r2, .inr (5, [.ref a2])), (a2, fA cyI 54 c)] H := hP
    have hD : va_D (fp_A [(h, .inr (1, [.ref r, .int (iI (n))])), (r, .inr (5, [.ref a])), (a, fA cyI 216 d), (h2, .inr (0, [.ref r2])), (r2, .inr (5, [.ref a2])), (a2, fA cyI 54 c)]) [(h, .inr (1, [.ref r, .int (iI (3))])), (r, .inr (5, [.ref a])), (a, fA cyI 216 d), (h2, .inr (0, [.ref r2])), (r2, .inr (5, [.ref a2])), (a2, fA cyI 54 c)] := hD
    refine lv_aload_n hx hb dX1_record_13 rfl (lv_at hl 0 rfl) ?_
    refine va_get (D := D) (ci := 1) (ws := [(h, .inr (1, [.ref r, .int (iI (3))])), (r, .inr (5, [.ref a])), (a, fA cyI 216 d), (h2, .inr (0, [.ref r2])), (r2, .inr (5, [.ref a2])), (a2, fA cyI 54 c)]) (v := .ref r) (C := RX1) (T := TX1) (N := 2) hx hb hts (fun _ h => List.mem_cons_of_mem _ (List.mem_append_left _ (List.mem_append_left _ (List.mem_append_right _ h)))) hown hK.1 hP 0 rfl rfl 0 (by decide) (hts _ fl_X1_record_16) (fun _ h9 => h9) rfl dX1_record_14 ?_
    refine fp_iconst hx hb dX1_record_17 ?_
    refine lv_aload_n hx hb dX1_record_18 rfl (lv_at hl 0 rfl) ?_
    refine va_get (D := D) (ci := 1) (ws := [(h, .inr (1, [.ref r, .int (iI (3))])), (r, .inr (5, [.ref a])), (a, fA cyI 216 d), (h2, .inr (0, [.ref r2])), (r2, .inr (5, [.ref a2])), (a2, fA cyI 54 c)]) (v := .ref r) (C := RX1) (T := TX1) (N := 2) hx hb hts (fun _ h => List.mem_cons_of_mem _ (List.mem_append_left _ (List.mem_append_left _ (List.mem_append_right _ h)))) hown hK.1 hP 0 rfl rfl 0 (by decide) (hts _ fl_X1_record_16) (fun _ h9 => h9) rfl dX1_record_19 ?_
    refine fp_bipush hx hb dX1_record_22 (by decide) ?_
    refine lv_aload_n hx hb dX1_record_24 rfl (lv_at hl 0 rfl) ?_
    refine va_get (D := D) (ci := 1) (ws := [(h, .inr (1, [.ref r, .int (iI (3))])), (r, .inr (5, [.ref a])), (a, fA cyI 216 d), (h2, .inr (0, [.ref r2])), (r2, .inr (5, [.ref a2])), (a2, fA cyI 54 c)]) (v := .int (iI (3))) (C := RX1) (T := TX1) (N := 2) hx hb hts (fun _ h => List.mem_cons_of_mem _ (List.mem_append_left _ (List.mem_append_left _ (List.mem_append_right _ h)))) hown hK.1 hP 0 rfl rfl 1 (by decide) (hts _ fl_X1_record_22) (fun _ h9 => h9) rfl dX1_record_25 ?_
    refine fp_bipush hx hb dX1_record_28 (by decide) ?_
    refine fp_imul hx hb dX1_record_30 ?_
    refine fp_wV (As := [.int (iI (0)), .ref r, .int (iI (54)), .int (iI (3 * 54))]) (rest := []) (wsC := [(h, .inr (1, [.ref r, .int (iI (3))])), (r, .inr (5, [.ref a])), (a, fA cyI 216 d), (h2, .inr (0, [.ref r2])), (r2, .inr (5, [.ref a2])), (a2, fA cyI 54 c)]) ⟨hx, hb, hml, hown, hts⟩ (c_X5_copyS l D cyI r a 216 d 0 54 (3 * 54) (by omega) (by omega) (by decide)) (cwV 4 hts gX1_record_X5_copy rfl rfl rfl (by decide +kernel) ⟨Nat.le_of_ble_eq_true rfl, Nat.le_of_ble_eq_true rfl⟩) (fun _ => rfl) hK hP hD hS [1, 2] (by decide) rfl rfl rfl rfl hl.1 rfl (Nat.le_of_ble_eq_true rfl) dX1_record_31 ⟨Nat.zero_le _, Nat.zero_le _⟩ (fun u9v H locs hu hP hD hS => ?_)
    refine W.eq (g2 := F0 mi 34 ls []) rfl ?_
    have hP : va_P D vwCl [(h, .inr (1, [.ref r, .int (iI (3))])), (r, .inr (5, [.ref a])), (a, fA cyI 216 (cpI d d 0 54 (3 * 54))), (h2, .inr (0, [.ref r2])), (r2, .inr (5, [.ref a2])), (a2, fA cyI 54 c)] H := hP
    have hD : va_D (fp_A [(h, .inr (1, [.ref r, .int (iI (n))])), (r, .inr (5, [.ref a])), (a, fA cyI 216 d), (h2, .inr (0, [.ref r2])), (r2, .inr (5, [.ref a2])), (a2, fA cyI 54 c)]) [(h, .inr (1, [.ref r, .int (iI (3))])), (r, .inr (5, [.ref a])), (a, fA cyI 216 (cpI d d 0 54 (3 * 54))), (h2, .inr (0, [.ref r2])), (r2, .inr (5, [.ref a2])), (a2, fA cyI 54 c)] := hD
    refine lv_aload_n hx hb dX1_record_34 rfl (lv_at hl 1 rfl) ?_
    refine lv_aload_n hx hb dX1_record_35 rfl (lv_at hl 0 rfl) ?_
    refine va_get (D := D) (ci := 1) (ws := [(h, .inr (1, [.ref r, .int (iI (3))])), (r, .inr (5, [.ref a])), (a, fA cyI 216 (cpI d d 0 54 (3 * 54))), (h2, .inr (0, [.ref r2])), (r2, .inr (5, [.ref a2])), (a2, fA cyI 54 c)]) (v := .ref r) (C := RX1) (T := TX1) (N := 2) hx hb hts (fun _ h => List.mem_cons_of_mem _ (List.mem_append_left _ (List.mem_append_left _ (List.mem_append_right _ h)))) hown hK.1 hP 0 rfl rfl 0 (by decide) (hts _ fl_X1_record_16) (fun _ h9 => h9) rfl dX1_record_36 ?_
    refine lv_aload_n hx hb dX1_record_39 rfl (lv_at hl 0 rfl) ?_
    refine va_get (D := D) (ci := 1) (ws := [(h, .inr (1, [.ref r, .int (iI (3))])), (r, .inr (5, [.ref a])), (a, fA cyI 216 (cpI d d 0 54 (3 * 54))), (h2, .inr (0, [.ref r2])), (r2, .inr (5, [.ref a2])), (a2, fA cyI 54 c)]) (v := .int (iI (3))) (C := RX1) (T := TX1) (N := 2) hx hb hts (fun _ h => List.mem_cons_of_mem _ (List.mem_append_left _ (List.mem_append_left _ (List.mem_append_right _ h)))) hown hK.1 hP 0 rfl rfl 1 (by decide) (hts _ fl_X1_record_22) (fun _ h9 => h9) rfl dX1_record_40 ?_
    refine fp_bipush hx hb dX1_record_43 (by decide) ?_
    refine fp_imul hx hb dX1_record_45 ?_
    refine fp_wV (As := [.ref r, .int (iI (3 * 54))]) (rest := []) (wsC := [(h, .inr (1, [.ref r, .int (iI (3))])), (r, .inr (5, [.ref a])), (a, fA cyI 216 (cpI d d 0 54 (3 * 54))), (h2, .inr (0, [.ref r2])), (r2, .inr (5, [.ref a2])), (a2, fA cyI 54 c)]) ⟨hx, hb, hml, hown, hts⟩ (c_X0_writeTo l D cyI h2 r2 a2 c r a 216 (cpI d d 0 54 (3 * 54)) (3 * 54) (by omega) (by decide)) (cwV 2 hts gX1_record_X0_writeTo rfl rfl rfl (by decide +kernel) ⟨Nat.le_of_ble_eq_true rfl, Nat.le_of_ble_eq_true rfl⟩) (fun _ => rfl) hK hP hD hS [3, 4, 5, 1, 2] (by decide) rfl rfl rfl rfl hl.1 rfl (Nat.le_of_ble_eq_true rfl) dX1_record_46 ⟨Nat.zero_le _, Nat.zero_le _⟩ (fun u9v H locs hu hP hD hS => ?_)
    refine W.eq (g2 := F0 mi 49 ls []) rfl ?_
    have hP : va_P D vwCl [(h, .inr (1, [.ref r, .int (iI (3))])), (r, .inr (5, [.ref a])), (a, fA cyI 216 (cpI (cpI d d 0 54 (3 * 54)) c (3 * 54) 0 54)), (h2, .inr (0, [.ref r2])), (r2, .inr (5, [.ref a2])), (a2, fA cyI 54 c)] H := hP
    have hD : va_D (fp_A [(h, .inr (1, [.ref r, .int (iI (n))])), (r, .inr (5, [.ref a])), (a, fA cyI 216 d), (h2, .inr (0, [.ref r2])), (r2, .inr (5, [.ref a2])), (a2, fA cyI 54 c)]) [(h, .inr (1, [.ref r, .int (iI (3))])), (r, .inr (5, [.ref a])), (a, fA cyI 216 (cpI (cpI d d 0 54 (3 * 54)) c (3 * 54) 0 54)), (h2, .inr (0, [.ref r2])), (r2, .inr (5, [.ref a2])), (a2, fA cyI 54 c)] := hD
    refine lv_aload_n hx hb dX1_record_49 rfl (lv_at hl 0 rfl) ?_
    refine lv_dup hx hb dX1_record_50 rfl ?_
    refine va_get (D := D) (ci := 1) (ws := [(h, .inr (1, [.ref r, .int (iI (3))])), (r, .inr (5, [.ref a])), (a, fA cyI 216 (cpI (cpI d d 0 54 (3 * 54)) c (3 * 54) 0 54)), (h2, .inr (0, [.ref r2])), (r2, .inr (5, [.ref a2])), (a2, fA cyI 54 c)]) (v := .int (iI (3))) (C := RX1) (T := TX1) (N := 2) hx hb hts (fun _ h => List.mem_cons_of_mem _ (List.mem_append_left _ (List.mem_append_left _ (List.mem_append_right _ h)))) hown hK.1 hP 0 rfl rfl 1 (by decide) (hts _ fl_X1_record_22) (fun _ h9 => h9) rfl dX1_record_51 ?_
    refine fp_iconst hx hb dX1_record_54 ?_
    refine fp_iadd hx hb dX1_record_55 ?_
    refine va_put (D := D) (ci := 1) (ws := [(h, .inr (1, [.ref r, .int (iI (3))])), (r, .inr (5, [.ref a])), (a, fA cyI 216 (cpI (cpI d d 0 54 (3 * 54)) c (3 * 54) 0 54)), (h2, .inr (0, [.ref r2])), (r2, .inr (5, [.ref a2])), (a2, fA cyI 54 c)]) (v := .int (iI (3 + 1))) (ty := .int) (C := RX1) (T := TX1) (N := 2) hx hb hts (fun _ h => List.mem_cons_of_mem _ (List.mem_append_left _ (List.mem_append_left _ (List.mem_append_right _ h)))) tyX1 tyX1_ok nmX1 hown hK.1 hP hD hS 0 rfl rfl 1 (by decide) (hts _ fl_X1_record_22) (fun _ h9 => h9) rfl (by decide +kernel) rfl rfl (Nat.le_of_ble_eq_true rfl) dX1_record_56 (fun H locs hP hD hS => ?_)
    have hP : va_P D vwCl [(h, .inr (1, [.ref r, .int (iI (3 + 1))])), (r, .inr (5, [.ref a])), (a, fA cyI 216 (cpI (cpI d d 0 54 (3 * 54)) c (3 * 54) 0 54)), (h2, .inr (0, [.ref r2])), (r2, .inr (5, [.ref a2])), (a2, fA cyI 54 c)] H := hP
    have hD : va_D (fp_A [(h, .inr (1, [.ref r, .int (iI (n))])), (r, .inr (5, [.ref a])), (a, fA cyI 216 d), (h2, .inr (0, [.ref r2])), (r2, .inr (5, [.ref a2])), (a2, fA cyI 54 c)]) [(h, .inr (1, [.ref r, .int (iI (3 + 1))])), (r, .inr (5, [.ref a])), (a, fA cyI 216 (cpI (cpI d d 0 54 (3 * 54)) c (3 * 54) 0 54)), (h2, .inr (0, [.ref r2])), (r2, .inr (5, [.ref a2])), (a2, fA cyI 54 c)] := hD
    have hP : va_P D vwCl [(h, .inr (1, [.ref r, .int (iI (recN n))])), (r, .inr (5, [.ref a])), (a, fA cyI 216 (recH d c n)), (h2, .inr (0, [.ref r2])), (r2, .inr (5, [.ref a2])), (a2, fA cyI 54 c)] H := by
      rw [(show (cpI (cpI d d 0 54 (3 * 54)) c (3 * 54) 0 54 : Int → Int) = recH d c n from (by unfold recH; first | rw [if_pos (by omega)] | rw [if_neg (by omega)])).symm]
      rw [(show (3 + 1 : Int) = recN n from (by unfold recN; split <;> omega)).symm]
      exact hP
    exact fp_wvret () hx hb hr hlocks hS hP trivial rfl dX1_record_59
theorem fl_X1_takeLatest_22 : Cond.fieldLink RX1 22 "FacingPlates$History" "states" "I" ∈ wsX1_takeLatest := by decide +kernel
theorem fl_X1_takeLatest_16 : Cond.fieldLink RX1 16 "FacingPlates$History" "shelf" "LFacingPlates$Row;" ∈ wsX1_takeLatest := by decide +kernel
set_option maxHeartbeats 4000000 in
set_option maxRecDepth 100000 in
theorem c_X1_takeLatest (l : Launch) (D : va_G) (cyI : ClassId) (h : Nat) (r : Nat) (a : Nat) (d : Int → Int) (n : Int) (h2 : Nat) (r2 : Nat) (a2 : Nat) (c : Int → Int) (hn4 : 1 ≤ n ∧ n ≤ 4) : fp_MW l yX1_takeLatest wsX1_takeLatest ({ frames := 3, cells := 0, slots := 0, locals := 69 } : Room) D cyI [(h, .inr (1, [.ref r, .int (iI (n))])), (r, .inr (5, [.ref a])), (a, fA cyI 216 d), (h2, .inr (0, [.ref r2])), (r2, .inr (5, [.ref a2])), (a2, fA cyI 54 c)] [.ref h, .ref h2] (fun (u9 : Unit) => True) (fun (u9 : Unit) => none) (fun (u9 : Unit) => [(h, .inr (1, [.ref r, .int (iI (n - 1))])), (r, .inr (5, [.ref a])), (a, fA cyI 216 d), (h2, .inr (0, [.ref r2])), (r2, .inr (5, [.ref a2])), (a2, fA cyI 54 (shfI d ((n - 1) * 54)))]) := by
  refine fp_start (cc := cX1_takeLatest) (maxL := 2) (ret := none) (by decide) rfl (Nat.le_of_ble_eq_true rfl) ?_
  intro pg en sx mi ar bl mt cd ls hx hb hr hts hown hlocks hml hnm hP hK hD hl
  have hown : sx.vm.findClass RX1 = some mi.cls := hown
  have hl : lv_has ls 2 [(0, .ref h), (1, .ref h2)] := hl
  have hD := fp_self hD
  have hS : va_S (fp_A [(h, .inr (1, [.ref r, .int (iI (n))])), (r, .inr (5, [.ref a])), (a, fA cyI 216 d), (h2, .inr (0, [.ref r2])), (r2, .inr (5, [.ref a2])), (a2, fA cyI 54 c)]) sx.heap sx.heap [] := va_S.rf
  refine lv_aload_n hx hb dX1_takeLatest_0 rfl (lv_at hl 0 rfl) ?_
  refine va_get (D := D) (ci := 1) (ws := [(h, .inr (1, [.ref r, .int (iI (n))])), (r, .inr (5, [.ref a])), (a, fA cyI 216 d), (h2, .inr (0, [.ref r2])), (r2, .inr (5, [.ref a2])), (a2, fA cyI 54 c)]) (v := .int (iI (n))) (C := RX1) (T := TX1) (N := 2) hx hb hts (fun _ h => List.mem_cons_of_mem _ (List.mem_append_left _ (List.mem_append_left _ (List.mem_append_right _ h)))) hown hK.1 hP 0 rfl rfl 1 (by decide) (hts _ fl_X1_takeLatest_22) (fun _ h9 => h9) rfl dX1_takeLatest_1 ?_
  refine fp_if_le (tgt := 32) hx hb (by omega) dX1_takeLatest_4 (by decide) (fun q4 => ?_) (fun q4 => ?_)
  · skip
    have hP : va_P D vwCl [(h, .inr (1, [.ref r, .int (iI (n - 1))])), (r, .inr (5, [.ref a])), (a, fA cyI 216 d), (h2, .inr (0, [.ref r2])), (r2, .inr (5, [.ref a2])), (a2, fA cyI 54 (shfI d ((n - 1) * 54)))] sx.heap := by
      rw [(show (c : Int → Int) = shfI d ((n - 1) * 54) from (by exfalso; omega)).symm]
      rw [(show (n : Int) = n - 1 from (by exfalso; omega)).symm]
      exact hP
    exact fp_wvret () hx hb hr hlocks hS hP trivial rfl dX1_takeLatest_32
  · skip
    refine lv_aload_n hx hb dX1_takeLatest_7 rfl (lv_at hl 0 rfl) ?_
    refine lv_dup hx hb dX1_takeLatest_8 rfl ?_
    refine va_get (D := D) (ci := 1) (ws := [(h, .inr (1, [.ref r, .int (iI (n))])), (r, .inr (5, [.ref a])), (a, fA cyI 216 d), (h2, .inr (0, [.ref r2])), (r2, .inr (5, [.ref a2])), (a2, fA cyI 54 c)]) (v := .int (iI (n))) (C := RX1) (T := TX1) (N := 2) hx hb hts (fun _ h => List.mem_cons_of_mem _ (List.mem_append_left _ (List.mem_append_left _ (List.mem_append_right _ h)))) hown hK.1 hP 0 rfl rfl 1 (by decide) (hts _ fl_X1_takeLatest_22) (fun _ h9 => h9) rfl dX1_takeLatest_9 ?_
    refine fp_iconst hx hb dX1_takeLatest_12 ?_
    refine fp_isub hx hb dX1_takeLatest_13 ?_
    refine va_put (D := D) (ci := 1) (ws := [(h, .inr (1, [.ref r, .int (iI (n))])), (r, .inr (5, [.ref a])), (a, fA cyI 216 d), (h2, .inr (0, [.ref r2])), (r2, .inr (5, [.ref a2])), (a2, fA cyI 54 c)]) (v := .int (iI (n - 1))) (ty := .int) (C := RX1) (T := TX1) (N := 2) hx hb hts (fun _ h => List.mem_cons_of_mem _ (List.mem_append_left _ (List.mem_append_left _ (List.mem_append_right _ h)))) tyX1 tyX1_ok nmX1 hown hK.1 hP hD hS 0 rfl rfl 1 (by decide) (hts _ fl_X1_takeLatest_22) (fun _ h9 => h9) rfl (by decide +kernel) rfl rfl (Nat.le_of_ble_eq_true rfl) dX1_takeLatest_14 (fun H locs hP hD hS => ?_)
    have hP : va_P D vwCl [(h, .inr (1, [.ref r, .int (iI (n - 1))])), (r, .inr (5, [.ref a])), (a, fA cyI 216 d), (h2, .inr (0, [.ref r2])), (r2, .inr (5, [.ref a2])), (a2, fA cyI 54 c)] H := hP
    have hD : va_D (fp_A [(h, .inr (1, [.ref r, .int (iI (n))])), (r, .inr (5, [.ref a])), (a, fA cyI 216 d), (h2, .inr (0, [.ref r2])), (r2, .inr (5, [.ref a2])), (a2, fA cyI 54 c)]) [(h, .inr (1, [.ref r, .int (iI (n - 1))])), (r, .inr (5, [.ref a])), (a, fA cyI 216 d), (h2, .inr (0, [.ref r2])), (r2, .inr (5, [.ref a2])), (a2, fA cyI 54 c)] := hD
    refine lv_aload_n hx hb dX1_takeLatest_17 rfl (lv_at hl 1 rfl) ?_
    refine lv_aload_n hx hb dX1_takeLatest_18 rfl (lv_at hl 0 rfl) ?_
    refine va_get (D := D) (ci := 1) (ws := [(h, .inr (1, [.ref r, .int (iI (n - 1))])), (r, .inr (5, [.ref a])), (a, fA cyI 216 d), (h2, .inr (0, [.ref r2])), (r2, .inr (5, [.ref a2])), (a2, fA cyI 54 c)]) (v := .ref r) (C := RX1) (T := TX1) (N := 2) hx hb hts (fun _ h => List.mem_cons_of_mem _ (List.mem_append_left _ (List.mem_append_left _ (List.mem_append_right _ h)))) hown hK.1 hP 0 rfl rfl 0 (by decide) (hts _ fl_X1_takeLatest_16) (fun _ h9 => h9) rfl dX1_takeLatest_19 ?_
    refine lv_aload_n hx hb dX1_takeLatest_22 rfl (lv_at hl 0 rfl) ?_
    refine va_get (D := D) (ci := 1) (ws := [(h, .inr (1, [.ref r, .int (iI (n - 1))])), (r, .inr (5, [.ref a])), (a, fA cyI 216 d), (h2, .inr (0, [.ref r2])), (r2, .inr (5, [.ref a2])), (a2, fA cyI 54 c)]) (v := .int (iI (n - 1))) (C := RX1) (T := TX1) (N := 2) hx hb hts (fun _ h => List.mem_cons_of_mem _ (List.mem_append_left _ (List.mem_append_left _ (List.mem_append_right _ h)))) hown hK.1 hP 0 rfl rfl 1 (by decide) (hts _ fl_X1_takeLatest_22) (fun _ h9 => h9) rfl dX1_takeLatest_23 ?_
    refine fp_bipush hx hb dX1_takeLatest_26 (by decide) ?_
    refine fp_imul hx hb dX1_takeLatest_28 ?_
    refine fp_wV (As := [.ref r, .int (iI ((n - 1) * 54))]) (rest := []) (wsC := [(h, .inr (1, [.ref r, .int (iI (n - 1))])), (r, .inr (5, [.ref a])), (a, fA cyI 216 d), (h2, .inr (0, [.ref r2])), (r2, .inr (5, [.ref a2])), (a2, fA cyI 54 c)]) ⟨hx, hb, hml, hown, hts⟩ (c_X0_readFrom l D cyI h2 r2 a2 c r a 216 d ((n - 1) * 54) (by omega) (by decide)) (cwV 2 hts gX1_takeLatest_X0_readFrom rfl rfl rfl (by decide +kernel) ⟨Nat.le_of_ble_eq_true rfl, Nat.le_of_ble_eq_true rfl⟩) (fun _ => rfl) hK hP hD hS [3, 4, 5, 1, 2] (by decide) rfl rfl rfl rfl hl.1 rfl (Nat.le_of_ble_eq_true rfl) dX1_takeLatest_29 ⟨Nat.zero_le _, Nat.zero_le _⟩ (fun u9v H locs hu hP hD hS => ?_)
    refine W.eq (g2 := F0 mi 32 ls []) rfl ?_
    have hP : va_P D vwCl [(h, .inr (1, [.ref r, .int (iI (n - 1))])), (r, .inr (5, [.ref a])), (a, fA cyI 216 d), (h2, .inr (0, [.ref r2])), (r2, .inr (5, [.ref a2])), (a2, fA cyI 54 (shfI d ((n - 1) * 54)))] H := hP
    have hD : va_D (fp_A [(h, .inr (1, [.ref r, .int (iI (n))])), (r, .inr (5, [.ref a])), (a, fA cyI 216 d), (h2, .inr (0, [.ref r2])), (r2, .inr (5, [.ref a2])), (a2, fA cyI 54 c)]) [(h, .inr (1, [.ref r, .int (iI (n - 1))])), (r, .inr (5, [.ref a])), (a, fA cyI 216 d), (h2, .inr (0, [.ref r2])), (r2, .inr (5, [.ref a2])), (a2, fA cyI 54 (shfI d ((n - 1) * 54)))] := hD
    exact fp_wvret () hx hb hr hlocks hS hP trivial rfl dX1_takeLatest_32
