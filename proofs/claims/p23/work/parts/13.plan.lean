/-! the cheapest choices, as the planner finds them -/
def gI (G x : Int) : Int := (x - 1) / G
def bitI (x : Int) : Int := 1 + bI (2 ≤ x % 4)
def sdI (G a s b : Int) : Int := if gI G a = gI G b then s else 0
def facI (x q t : Int) : Int := if x % 2 = 0 then bI (q < t) else bI (0 < q)
def sbI (c : Int → Int) (G k p nx s b q : Int) : Int := if c (k * 4 + 2) = 2 ∧ gI G (p + 1 + b + q) = gI G (nx + 1) then orI (sdI G (p + 1) s (nx + 1)) (bitI (p + 1 + b + q)) else sdI G (p + 1) s (nx + 1)
def saV (c : Int → Int) (G k p s b q : Int) : Int := if c (k * 4 + 2) = 2 ∧ andI (sdI G (p + 1) s (p + 1 + b + q)) (bitI (p + 1 + b + q)) = 0 then c (49 + 2) else 0
def ctV (c : Int → Int) (G k p s b q v : Int) : Int := if ¬ c (k * 4 + 2) = 0 ∧ facI (p + 1 + b + q) q (c (k * 4 + 1)) = 0 then 1000000 else min (v + b * c (49 + 3) + saV c G k p s b q) 1000000
def stB (f : Int → Int) (G : Int) (ah : Int → Int) (k st b q : Int) : Int := (st / 4 + b) * 4 + sbI f G k (ah k + st / 4) (ah (k + 1) + st / 4 + b) (st % 4) b q
def ctR (f : Int → Int) (G : Int) (ah le : Int → Int) (k st b q : Int) : Int := ctV f G k (ah k + st / 4) (st % 4) b q (le ((k + 1) * 52 + stB f G ah k st b q))
def mnI (f : Int → Int) : Nat → Int → Int
  | 0, z => z
  | i + 1, z => min (mnI f i z) (f (i : Int))
theorem mnI_s (f : Int → Int) {i : Int} (z : Int) (h : 0 ≤ i) : mnI f (i + 1).toNat z = min (mnI f i.toNat z) (f i) := by
  obtain ⟨n, rfl⟩ := Int.eq_ofNat_of_zero_le h
  rfl
def mnB (F : Int → Int → Int) (w : Nat) : Nat → Int
  | 0 => 1000000
  | b + 1 => mnI (F (b : Int)) w (mnB F w b)
theorem mnB_s (F : Int → Int → Int) (w : Nat) {b : Int} (h : 0 ≤ b) : mnB F w (b + 1).toNat = mnI (F b) w (mnB F w b.toNat) := by
  obtain ⟨n, rfl⟩ := Int.eq_ofNat_of_zero_le h
  rfl
theorem mnI_rg {f : Int → Int} {z : Int} (hz : 0 ≤ z ∧ z ≤ 1000000) : ∀ n : Nat, (∀ i : Int, 0 ≤ i → i < n → 0 ≤ f i) → 0 ≤ mnI f n z ∧ mnI f n z ≤ 1000000 := by
  intro n
  induction n with
  | zero => intro _; exact hz
  | succ n ih =>
    intro h
    have h1 := ih (fun i a b => h i a (by omega))
    have h2 := h n (by omega) (by omega)
    show 0 ≤ min (mnI f n z) (f n) ∧ min (mnI f n z) (f n) ≤ 1000000
    omega
theorem mnI_c {f g : Int → Int} {z : Int} : ∀ n : Nat, (∀ i : Int, 0 ≤ i → i < n → f i = g i) → mnI f n z = mnI g n z := by
  intro n
  induction n with
  | zero => intro _; rfl
  | succ n ih =>
    intro h
    show min (mnI f n z) (f n) = min (mnI g n z) (g n)
    rw [ih (fun i a b => h i a (by omega)), h n (by omega) (by omega)]
theorem mnB_rg {F : Int → Int → Int} {w : Nat} : ∀ n : Nat, (∀ b i : Int, 0 ≤ b → b < n → 0 ≤ i → i < w → 0 ≤ F b i) → 0 ≤ mnB F w n ∧ mnB F w n ≤ 1000000 := by
  intro n
  induction n with
  | zero => intro _; exact ⟨by show (0 : Int) ≤ 1000000; omega, Int.le_refl _⟩
  | succ n ih =>
    intro h
    have h1 := ih (fun b i a1 a2 a3 a4 => h b i a1 (by omega) a3 a4)
    exact mnI_rg h1 w (fun i a b => h n i (by omega) (by omega) a b)
theorem mnB_c {F F' : Int → Int → Int} {w : Nat} : ∀ n : Nat, (∀ b i : Int, 0 ≤ b → b < n → 0 ≤ i → i < w → F b i = F' b i) → mnB F w n = mnB F' w n := by
  intro n
  induction n with
  | zero => intro _; rfl
  | succ n ih =>
    intro h
    show mnI (F n) w (mnB F w n) = mnI (F' n) w (mnB F' w n)
    rw [ih (fun b i a1 a2 a3 a4 => h b i a1 (by omega) a3 a4)]
    exact mnI_c w (fun i a b => h n i (by omega) (by omega) a b)
def wgR (f : Int → Int) (G : Int) (ah le : Int → Int) (k st : Int) : Int := mnB (ctR f G ah le k st) (mostC f k + 1).toNat 2
theorem bit_rg (x : Int) : 1 ≤ bitI x ∧ bitI x ≤ 2 := by
  have h := bI_rg (2 ≤ x % 4)
  unfold bitI
  omega
theorem sd_rg {G a s b : Int} (h : 0 ≤ s ∧ s ≤ 3) : 0 ≤ sdI G a s b ∧ sdI G a s b ≤ 3 := by
  unfold sdI
  split <;> omega
theorem sb_rg {c : Int → Int} {G k p nx s b q : Int} (h : 0 ≤ s ∧ s ≤ 3) : 0 ≤ sbI c G k p nx s b q ∧ sbI c G k p nx s b q ≤ 3 := by
  have h1 := sd_rg (G := G) (a := p + 1) (b := nx + 1) h
  have h2 := bit_rg (p + 1 + b + q)
  unfold sbI
  split
  · exact orI_rg (by omega)
  · exact h1
theorem sa_rg {c : Int → Int} (hC : CatOK c) {G k p s b q : Int} : 0 ≤ saV c G k p s b q ∧ saV c G k p s b q ≤ 99 := by
  have h1 := hC.2.2
  unfold SetOK at h1
  unfold saV
  split <;> omega
theorem most_rg {c : Int → Int} (hC : CatOK c) {k : Int} (hk : 0 ≤ k ∧ k < c 0) : 0 ≤ mostC c k ∧ mostC c k ≤ 3 := by
  have h := lot_f hC hk
  unfold LotOK at h
  unfold mostC
  split <;> omega
theorem ct_rg {c : Int → Int} (hC : CatOK c) {G k p s b q v : Int} (hb : 0 ≤ b ∧ b ≤ 1) (hv : 0 ≤ v) : 0 ≤ ctV c G k p s b q v ∧ ctV c G k p s b q v ≤ 1000000 := by
  have h1 := hC.2.2
  unfold SetOK at h1
  have h2 := sa_rg hC (G := G) (k := k) (p := p) (s := s) (b := b) (q := q)
  have h3 : 0 ≤ b * c (49 + 3) := Int.mul_nonneg hb.1 (by omega)
  unfold ctV
  split <;> omega
theorem stB_rg {f : Int → Int} {G : Int} {ah : Int → Int} {k st b q : Int} (hs : 0 ≤ st ∧ st < (k + 1) * 4) (hb : 0 ≤ b ∧ b ≤ 1) : 0 ≤ stB f G ah k st b q ∧ stB f G ah k st b q < (k + 2) * 4 := by
  have h1 := sb_rg (c := f) (G := G) (k := k) (p := ah k + st / 4) (nx := ah (k + 1) + st / 4 + b) (s := st % 4) (b := b) (q := q) (by omega)
  unfold stB
  omega
theorem ctR_c {f : Int → Int} {G : Int} {ah le l : Int → Int} {k st b q : Int} (hs : 0 ≤ st ∧ st < (k + 1) * 4) (hb : 0 ≤ b ∧ b ≤ 1) (h : ∀ j : Int, (k + 1) * 52 ≤ j → l j = le j) : ctR f G ah l k st b q = ctR f G ah le k st b q := by
  have h1 := stB_rg (f := f) (G := G) (ah := ah) (q := q) hs hb
  unfold ctR
  rw [h _ (by omega)]
set_option maxHeartbeats 4000000 in
set_option maxRecDepth 100000 in
theorem c_X3_blanksIn (l : Launch) (D : va_G) (cyI : ClassId) (st : Int) (hst : 0 ≤ st ∧ st ≤ 1000) : fp_M l yX3_blanksIn wsX3_blanksIn ({ frames := 0, cells := 0, slots := 0, locals := 0 } : Room) D cyI [] [.int (iI (st))] (some (.int (iI (st / 4)))) := by
  refine fp_start (cc := cX3_blanksIn) (maxL := 1) (ret := (some .int)) (by decide) rfl (Nat.le_of_ble_eq_true rfl) ?_
  intro pg en sx mi ar bl mt cd ls hx hb hr hts hown hlocks hml hnm hP hK hD hl
  have hown : sx.vm.findClass RX3 = some mi.cls := hown
  have hl : lv_has ls 1 [(0, .int (iI (st)))] := hl
  refine lv_iload_n hx hb dX3_blanksIn_0 rfl (lv_at hl 0 rfl) ?_
  refine fp_iconst hx hb dX3_blanksIn_1 ?_
  refine fp_idiv hx hb (by omega) dX3_blanksIn_2 ?_
  have hret : (st / 4 : Int) = st / 4 := (by first | rfl | omega | (unfold bI; split <;> first | rfl | omega))
  exact fp_ret hx hb hr hlocks dX3_blanksIn_3 (congrArg (fun z : Int => Value.int (iI z)) hret)
theorem ini_X3_bitOf_X7 : Cond.initialized RX7 ∈ wsX3_bitOf := by decide +kernel
theorem stt_X3_bitOf_X7_sideOfPage : Cond.static yX7_sideOfPage ∈ wsX3_bitOf := by decide +kernel
set_option maxHeartbeats 4000000 in
set_option maxRecDepth 100000 in
theorem c_X3_bitOf (l : Launch) (D : va_G) (cyI : ClassId) (q : Int) (hq : 0 ≤ q ∧ q ≤ 10000) : fp_M l yX3_bitOf wsX3_bitOf ({ frames := 1, cells := 0, slots := 0, locals := 21 } : Room) D cyI [] [.int (iI (q))] (some (.int (iI (bitI q)))) := by
  refine fp_start (cc := cX3_bitOf) (maxL := 1) (ret := (some .int)) (by decide) rfl (Nat.le_of_ble_eq_true rfl) ?_
  intro pg en sx mi ar bl mt cd ls hx hb hr hts hown hlocks hml hnm hP hK hD hl
  have hown : sx.vm.findClass RX3 = some mi.cls := hown
  have hl : lv_has ls 1 [(0, .int (iI (q)))] := hl
  refine lv_iload_n hx hb dX3_bitOf_0 rfl (lv_at hl 0 rfl) ?_
  refine fp_pSN (As := [.int (iI (q))]) (rest := []) (wsC := []) ⟨hx, hb, hml, hown, hts⟩ (c_X7_sideOfPage l D cyI q (by omega)) ⟨va_cnB 1 hts gX3_bitOf_X7_sideOfPage_n136 rfl rfl rfl hK.2.2.2.2.2.2.1 (hts _ ini_X3_bitOf_X7) (by decide +kernel) ⟨Nat.le_of_ble_eq_true rfl, Nat.le_of_ble_eq_true rfl⟩, (hts _ stt_X3_bitOf_X7_sideOfPage), trivial⟩ hK hP hD [] (by decide) rfl rfl hl.1 rfl (Nat.le_of_ble_eq_true rfl) dX3_bitOf_1 ⟨Nat.zero_le _, Nat.zero_le _⟩ ?_
  refine fp_if_ne (tgt := 11) hx hb (bI_r32 _) dX3_bitOf_4 (by decide) (fun q4 => ?_) (fun q4 => ?_)
  · skip
    have w4 := bI_ne q4
    have c4 := bI_ne q4
    refine fp_iconst hx hb dX3_bitOf_11 ?_
    have hret : (bitI q : Int) = 2 := (by unfold bitI; first | rw [bI_t c4]; rfl | rw [bI_f c4]; rfl)
    exact fp_ret hx hb hr hlocks dX3_bitOf_12 (congrArg (fun z : Int => Value.int (iI z)) hret)
  · skip
    have w4 := bI_e q4
    have c4 := bI_e q4
    refine fp_iconst hx hb dX3_bitOf_7 ?_
    refine lv_goto (tgt := 12) hx hb dX3_bitOf_8 (by decide) ?_
    have hret : (bitI q : Int) = 1 := (by unfold bitI; first | rw [bI_t c4]; rfl | rw [bI_f c4]; rfl)
    exact fp_ret hx hb hr hlocks dX3_bitOf_12 (congrArg (fun z : Int => Value.int (iI z)) hret)
set_option maxHeartbeats 4000000 in
set_option maxRecDepth 100000 in
theorem c_X3_faces (l : Launch) (D : va_G) (cyI : ClassId) (x : Int) (q : Int) (t : Int) (hx0 : 0 ≤ x ∧ x ≤ 10000) (hq : 0 ≤ q ∧ q ≤ 10) (ht : 0 ≤ t ∧ t ≤ 10) : fp_M l yX3_faces wsX3_faces ({ frames := 0, cells := 0, slots := 0, locals := 0 } : Room) D cyI [] [.int (iI (x)), .int (iI (q)), .int (iI (t))] (some (.int (iI (facI x q t)))) := by
  refine fp_start (cc := cX3_faces) (maxL := 3) (ret := (some .boolean)) (by decide) rfl (Nat.le_of_ble_eq_true rfl) ?_
  intro pg en sx mi ar bl mt cd ls hx hb hr hts hown hlocks hml hnm hP hK hD hl
  have hown : sx.vm.findClass RX3 = some mi.cls := hown
  have hl : lv_has ls 3 [(0, .int (iI (x))), (1, .int (iI (q))), (2, .int (iI (t)))] := hl
  refine lv_iload_n hx hb dX3_faces_0 rfl (lv_at hl 0 rfl) ?_
  refine fp_iconst hx hb dX3_faces_1 ?_
  refine fp_and1 hx hb (by omega) dX3_faces_2 ?_
  refine fp_if_ne (tgt := 19) hx hb (by omega) dX3_faces_3 (by decide) (fun q3 => ?_) (fun q3 => ?_)
  · skip
    refine lv_iload_n hx hb dX3_faces_19 rfl (lv_at hl 1 rfl) ?_
    refine fp_if_le (tgt := 27) hx hb (by omega) dX3_faces_20 (by decide) (fun q20 => ?_) (fun q20 => ?_)
    · skip
      refine fp_iconst hx hb dX3_faces_27 ?_
      have hret : (facI x q t : Int) = 0 := (by unfold facI; first | rw [if_pos (by omega), bI_t (by omega)] | rw [if_pos (by omega), bI_f (by omega)] | rw [if_neg (by omega), bI_t (by omega)] | rw [if_neg (by omega), bI_f (by omega)])
      exact fp_zret hx hb hr hlocks (by first | exact Or.inl rfl | exact Or.inr rfl | exact bI_01 _ | omega) dX3_faces_28 (congrArg (fun z : Int => Value.int (iI z)) hret)
    · skip
      refine fp_iconst hx hb dX3_faces_23 ?_
      refine lv_goto (tgt := 28) hx hb dX3_faces_24 (by decide) ?_
      have hret : (facI x q t : Int) = 1 := (by unfold facI; first | rw [if_pos (by omega), bI_t (by omega)] | rw [if_pos (by omega), bI_f (by omega)] | rw [if_neg (by omega), bI_t (by omega)] | rw [if_neg (by omega), bI_f (by omega)])
      exact fp_zret hx hb hr hlocks (by first | exact Or.inl rfl | exact Or.inr rfl | exact bI_01 _ | omega) dX3_faces_28 (congrArg (fun z : Int => Value.int (iI z)) hret)
  · skip
    refine lv_iload_n hx hb dX3_faces_6 rfl (lv_at hl 1 rfl) ?_
    refine lv_iload_n hx hb dX3_faces_7 rfl (lv_at hl 2 rfl) ?_
    refine fp_icmp_ge (tgt := 15) hx hb (by omega) dX3_faces_8 (by decide) (fun q8 => ?_) (fun q8 => ?_)
    · skip
      refine fp_iconst hx hb dX3_faces_15 ?_
      refine lv_goto (tgt := 28) hx hb dX3_faces_16 (by decide) ?_
      have hret : (facI x q t : Int) = 0 := (by unfold facI; first | rw [if_pos (by omega), bI_t (by omega)] | rw [if_pos (by omega), bI_f (by omega)] | rw [if_neg (by omega), bI_t (by omega)] | rw [if_neg (by omega), bI_f (by omega)])
      exact fp_zret hx hb hr hlocks (by first | exact Or.inl rfl | exact Or.inr rfl | exact bI_01 _ | omega) dX3_faces_28 (congrArg (fun z : Int => Value.int (iI z)) hret)
    · skip
      refine fp_iconst hx hb dX3_faces_11 ?_
      refine lv_goto (tgt := 28) hx hb dX3_faces_12 (by decide) ?_
      have hret : (facI x q t : Int) = 1 := (by unfold facI; first | rw [if_pos (by omega), bI_t (by omega)] | rw [if_pos (by omega), bI_f (by omega)] | rw [if_neg (by omega), bI_t (by omega)] | rw [if_neg (by omega), bI_f (by omega)])
      exact fp_zret hx hb hr hlocks (by first | exact Or.inl rfl | exact Or.inr rfl | exact bI_01 _ | omega) dX3_faces_28 (congrArg (fun z : Int => Value.int (iI z)) hret)
theorem fl_X3_chosen_14 : Cond.fieldLink RX3 14 "FacingPlates$Planner" "chosen" "LFacingPlates$Catalogue;" ∈ wsX3_chosen := by decide +kernel
set_option maxHeartbeats 4000000 in
set_option maxRecDepth 100000 in
theorem c_X3_chosen (l : Launch) (D : va_G) (cyI : ClassId) (h : Nat) (hc : Nat) (ra : Nat) (rl : Nat) (size : Int) : fp_M l yX3_chosen wsX3_chosen ({ frames := 0, cells := 0, slots := 0, locals := 0 } : Room) D cyI [(h, .inr (3, [.ref hc, .ref ra, .ref rl, .int (iI (size))]))] [.ref h] (some (.ref hc)) := by
  refine fp_start (cc := cX3_chosen) (maxL := 1) (ret := (some (.object "FacingPlates$Catalogue"))) (by decide) rfl (Nat.le_of_ble_eq_true rfl) ?_
  intro pg en sx mi ar bl mt cd ls hx hb hr hts hown hlocks hml hnm hP hK hD hl
  have hown : sx.vm.findClass RX3 = some mi.cls := hown
  have hl : lv_has ls 1 [(0, .ref h)] := hl
  refine lv_aload_n hx hb dX3_chosen_0 rfl (lv_at hl 0 rfl) ?_
  refine va_get (D := D) (ci := 3) (ws := [(h, .inr (3, [.ref hc, .ref ra, .ref rl, .int (iI (size))]))]) (v := .ref hc) (C := RX3) (T := TX3) (N := 4) hx hb hts (fun _ h => List.mem_cons_of_mem _ (List.mem_append_right _ h)) hown hK.1 hP 0 rfl rfl 0 (by decide) (hts _ fl_X3_chosen_14) (fun _ h9 => h9) rfl dX3_chosen_1 ?_
  exact fp_areth hx hb hr hlocks dX3_chosen_4
theorem fl_X3_pagesAhead_23 : Cond.fieldLink RX3 23 "FacingPlates$Planner" "ahead" "LFacingPlates$Row;" ∈ wsX3_pagesAhead := by decide +kernel
set_option maxHeartbeats 4000000 in
set_option maxRecDepth 100000 in
theorem c_X3_pagesAhead (l : Launch) (D : va_G) (cyI : ClassId) (h : Nat) (hc : Nat) (ra : Nat) (rl : Nat) (size : Int) (aa : Nat) (ah : Int → Int) (k : Int) (st : Int) (hk : 0 ≤ k ∧ k ≤ 12) (hst : 0 ≤ st ∧ st ≤ 1000) : fp_M l yX3_pagesAhead wsX3_pagesAhead ({ frames := 1, cells := 0, slots := 0, locals := 21 } : Room) D cyI [(h, .inr (3, [.ref hc, .ref ra, .ref rl, .int (iI (size))])), (ra, .inr (5, [.ref aa])), (aa, fA cyI 13 ah)] [.ref h, .int (iI (k)), .int (iI (st))] (some (.int (iI (ah k + st / 4)))) := by
  refine fp_start (cc := cX3_pagesAhead) (maxL := 3) (ret := (some .int)) (by decide) rfl (Nat.le_of_ble_eq_true rfl) ?_
  intro pg en sx mi ar bl mt cd ls hx hb hr hts hown hlocks hml hnm hP hK hD hl
  have hown : sx.vm.findClass RX3 = some mi.cls := hown
  have hl : lv_has ls 3 [(0, .ref h), (1, .int (iI (k))), (2, .int (iI (st)))] := hl
  refine lv_aload_n hx hb dX3_pagesAhead_0 rfl (lv_at hl 0 rfl) ?_
  refine va_get (D := D) (ci := 3) (ws := [(h, .inr (3, [.ref hc, .ref ra, .ref rl, .int (iI (size))])), (ra, .inr (5, [.ref aa])), (aa, fA cyI 13 ah)]) (v := .ref ra) (C := RX3) (T := TX3) (N := 4) hx hb hts (fun _ h => List.mem_cons_of_mem _ (List.mem_append_left _ (List.mem_append_right _ h))) hown hK.1 hP 0 rfl rfl 1 (by decide) (hts _ fl_X3_pagesAhead_23) (fun _ h9 => h9) rfl dX3_pagesAhead_1 ?_
  refine lv_iload_n hx hb dX3_pagesAhead_4 rfl (lv_at hl 1 rfl) ?_
  refine fp_pV (As := [.int (iI (k))]) (rest := []) (wsC := [(h, .inr (3, [.ref hc, .ref ra, .ref rl, .int (iI (size))])), (ra, .inr (5, [.ref aa])), (aa, fA cyI 13 ah)]) ⟨hx, hb, hml, hown, hts⟩ (c_X5_at l D cyI ra aa 13 ah k (by omega) (by decide)) (cwV 1 hts gX3_pagesAhead_X5_at rfl rfl rfl (by decide +kernel) ⟨Nat.le_of_ble_eq_true rfl, Nat.le_of_ble_eq_true rfl⟩) hK hP hD [1, 2] (by decide) rfl rfl rfl rfl hl.1 rfl (Nat.le_of_ble_eq_true rfl) dX3_pagesAhead_5 ⟨Nat.zero_le _, Nat.zero_le _⟩ ?_
  refine lv_iload_n hx hb dX3_pagesAhead_8 rfl (lv_at hl 2 rfl) ?_
  refine fp_pS (As := [.int (iI (st))]) (rest := [.int (iI (ah k))]) (wsC := [(h, .inr (3, [.ref hc, .ref ra, .ref rl, .int (iI (size))])), (ra, .inr (5, [.ref aa])), (aa, fA cyI 13 ah)]) ⟨hx, hb, hml, hown, hts⟩ (c_X3_blanksIn l D cyI st (by omega)) (va_cwS 1 hts gX3_pagesAhead_X3_blanksIn rfl rfl rfl (by decide +kernel) ⟨Nat.le_of_ble_eq_true rfl, Nat.le_of_ble_eq_true rfl⟩) hK hP hD [] (by decide) rfl rfl hl.1 rfl (Nat.le_of_ble_eq_true rfl) dX3_pagesAhead_9 ⟨Nat.zero_le _, Nat.zero_le _⟩ ?_
  refine fp_iadd hx hb dX3_pagesAhead_12 ?_
  have hret : (ah k + st / 4 : Int) = (ah k) + (st / 4) := (by first | rfl | omega | (unfold bI; split <;> first | rfl | omega))
  exact fp_ret hx hb hr hlocks dX3_pagesAhead_13 (congrArg (fun z : Int => Value.int (iI z)) hret)
theorem fl_X3_leastFrom_27 : Cond.fieldLink RX3 27 "FacingPlates$Planner" "least" "LFacingPlates$Row;" ∈ wsX3_leastFrom := by decide +kernel
set_option maxHeartbeats 4000000 in
set_option maxRecDepth 100000 in
theorem c_X3_leastFrom (l : Launch) (D : va_G) (cyI : ClassId) (h : Nat) (hc : Nat) (ra : Nat) (rl : Nat) (size : Int) (al : Nat) (le : Int → Int) (k : Int) (st : Int) (hk : 0 ≤ k ∧ k ≤ 12) (hst : 0 ≤ st ∧ st < 52) : fp_M l yX3_leastFrom wsX3_leastFrom ({ frames := 1, cells := 0, slots := 0, locals := 21 } : Room) D cyI [(h, .inr (3, [.ref hc, .ref ra, .ref rl, .int (iI (size))])), (rl, .inr (5, [.ref al])), (al, fA cyI 676 le)] [.ref h, .int (iI (k)), .int (iI (st))] (some (.int (iI (le (k * 52 + st))))) := by
  refine fp_start (cc := cX3_leastFrom) (maxL := 3) (ret := (some .int)) (by decide) rfl (Nat.le_of_ble_eq_true rfl) ?_
  intro pg en sx mi ar bl mt cd ls hx hb hr hts hown hlocks hml hnm hP hK hD hl
  have hown : sx.vm.findClass RX3 = some mi.cls := hown
  have hl : lv_has ls 3 [(0, .ref h), (1, .int (iI (k))), (2, .int (iI (st)))] := hl
  refine lv_aload_n hx hb dX3_leastFrom_0 rfl (lv_at hl 0 rfl) ?_
  refine va_get (D := D) (ci := 3) (ws := [(h, .inr (3, [.ref hc, .ref ra, .ref rl, .int (iI (size))])), (rl, .inr (5, [.ref al])), (al, fA cyI 676 le)]) (v := .ref rl) (C := RX3) (T := TX3) (N := 4) hx hb hts (fun _ h => List.mem_cons_of_mem _ (List.mem_append_left _ (List.mem_append_right _ h))) hown hK.1 hP 0 rfl rfl 2 (by decide) (hts _ fl_X3_leastFrom_27) (fun _ h9 => h9) rfl dX3_leastFrom_1 ?_
  refine lv_iload_n hx hb dX3_leastFrom_4 rfl (lv_at hl 1 rfl) ?_
  refine fp_bipush hx hb dX3_leastFrom_5 (by decide) ?_
  refine fp_imul hx hb dX3_leastFrom_7 ?_
  refine lv_iload_n hx hb dX3_leastFrom_8 rfl (lv_at hl 2 rfl) ?_
  refine fp_iadd hx hb dX3_leastFrom_9 ?_
  refine fp_pV (As := [.int (iI ((k * 52) + st))]) (rest := []) (wsC := [(h, .inr (3, [.ref hc, .ref ra, .ref rl, .int (iI (size))])), (rl, .inr (5, [.ref al])), (al, fA cyI 676 le)]) ⟨hx, hb, hml, hown, hts⟩ (c_X5_at l D cyI rl al 676 le ((k * 52) + st) (by omega) (by decide)) (cwV 1 hts gX3_leastFrom_X5_at rfl rfl rfl (by decide +kernel) ⟨Nat.le_of_ble_eq_true rfl, Nat.le_of_ble_eq_true rfl⟩) hK hP hD [1, 2] (by decide) rfl rfl rfl rfl hl.1 rfl (Nat.le_of_ble_eq_true rfl) dX3_leastFrom_10 ⟨Nat.zero_le _, Nat.zero_le _⟩ ?_
  have hret : (le (k * 52 + st) : Int) = le ((k * 52) + st) := (by first | rfl | omega | (unfold bI; split <;> first | rfl | omega))
  exact fp_ret hx hb hr hlocks dX3_leastFrom_13 (congrArg (fun z : Int => Value.int (iI z)) hret)
theorem fl_X3_putLeast_27 : Cond.fieldLink RX3 27 "FacingPlates$Planner" "least" "LFacingPlates$Row;" ∈ wsX3_putLeast := by decide +kernel
set_option maxHeartbeats 4000000 in
set_option maxRecDepth 100000 in
theorem c_X3_putLeast (l : Launch) (D : va_G) (cyI : ClassId) (h : Nat) (hc : Nat) (ra : Nat) (rl : Nat) (size : Int) (al : Nat) (le : Int → Int) (k : Int) (st : Int) (v : Int) (hk : 0 ≤ k ∧ k ≤ 12) (hst : 0 ≤ st ∧ st < 52) : fp_MW l yX3_putLeast wsX3_putLeast ({ frames := 1, cells := 0, slots := 0, locals := 22 } : Room) D cyI [(h, .inr (3, [.ref hc, .ref ra, .ref rl, .int (iI (size))])), (rl, .inr (5, [.ref al])), (al, fA cyI 676 le)] [.ref h, .int (iI (k)), .int (iI (st)), .int (iI (v))] (fun (u9 : Unit) => True) (fun (u9 : Unit) => none) (fun (u9 : Unit) => [(h, .inr (3, [.ref hc, .ref ra, .ref rl, .int (iI (size))])), (rl, .inr (5, [.ref al])), (al, fA cyI 676 (upI le (k * 52 + st) v))]) := by
  refine fp_start (cc := cX3_putLeast) (maxL := 4) (ret := none) (by decide) rfl (Nat.le_of_ble_eq_true rfl) ?_
  intro pg en sx mi ar bl mt cd ls hx hb hr hts hown hlocks hml hnm hP hK hD hl
  have hown : sx.vm.findClass RX3 = some mi.cls := hown
  have hl : lv_has ls 4 [(0, .ref h), (1, .int (iI (k))), (2, .int (iI (st))), (3, .int (iI (v)))] := hl
  have hD := fp_self hD
  have hS : va_S (fp_A [(h, .inr (3, [.ref hc, .ref ra, .ref rl, .int (iI (size))])), (rl, .inr (5, [.ref al])), (al, fA cyI 676 le)]) sx.heap sx.heap [] := va_S.rf
  refine lv_aload_n hx hb dX3_putLeast_0 rfl (lv_at hl 0 rfl) ?_
  refine va_get (D := D) (ci := 3) (ws := [(h, .inr (3, [.ref hc, .ref ra, .ref rl, .int (iI (size))])), (rl, .inr (5, [.ref al])), (al, fA cyI 676 le)]) (v := .ref rl) (C := RX3) (T := TX3) (N := 4) hx hb hts (fun _ h => List.mem_cons_of_mem _ (List.mem_append_left _ (List.mem_append_right _ h))) hown hK.1 hP 0 rfl rfl 2 (by decide) (hts _ fl_X3_putLeast_27) (fun _ h9 => h9) rfl dX3_putLeast_1 ?_
  refine lv_iload_n hx hb dX3_putLeast_4 rfl (lv_at hl 1 rfl) ?_
  refine fp_bipush hx hb dX3_putLeast_5 (by decide) ?_
  refine fp_imul hx hb dX3_putLeast_7 ?_
  refine lv_iload_n hx hb dX3_putLeast_8 rfl (lv_at hl 2 rfl) ?_
  refine fp_iadd hx hb dX3_putLeast_9 ?_
  refine lv_iload_n hx hb dX3_putLeast_10 rfl (lv_at hl 3 rfl) ?_
  refine fp_wV (As := [.int (iI ((k * 52) + st)), .int (iI (v))]) (rest := []) (wsC := [(h, .inr (3, [.ref hc, .ref ra, .ref rl, .int (iI (size))])), (rl, .inr (5, [.ref al])), (al, fA cyI 676 le)]) ⟨hx, hb, hml, hown, hts⟩ (c_X5_put l D cyI rl al 676 le ((k * 52) + st) v (by omega) (by decide)) (cwV 2 hts gX3_putLeast_X5_put rfl rfl rfl (by decide +kernel) ⟨Nat.le_of_ble_eq_true rfl, Nat.le_of_ble_eq_true rfl⟩) (fun _ => rfl) hK hP hD hS [1, 2] (by decide) rfl rfl rfl rfl hl.1 rfl (Nat.le_of_ble_eq_true rfl) dX3_putLeast_11 ⟨Nat.zero_le _, Nat.zero_le _⟩ (fun u9v H locs hu hP hD hS => ?_)
  refine W.eq (g2 := F0 mi 14 ls []) rfl ?_
  have hP : va_P D vwCl [(h, .inr (3, [.ref hc, .ref ra, .ref rl, .int (iI (size))])), (rl, .inr (5, [.ref al])), (al, fA cyI 676 (upI le ((k * 52) + st) v))] H := hP
  have hD : va_D (fp_A [(h, .inr (3, [.ref hc, .ref ra, .ref rl, .int (iI (size))])), (rl, .inr (5, [.ref al])), (al, fA cyI 676 le)]) [(h, .inr (3, [.ref hc, .ref ra, .ref rl, .int (iI (size))])), (rl, .inr (5, [.ref al])), (al, fA cyI 676 (upI le ((k * 52) + st) v))] := hD
  have hP : va_P D vwCl [(h, .inr (3, [.ref hc, .ref ra, .ref rl, .int (iI (size))])), (rl, .inr (5, [.ref al])), (al, fA cyI 676 (upI le (k * 52 + st) v))] H := by
    rw [(show (upI le ((k * 52) + st) v : Int → Int) = upI le (k * 52 + st) v from (by first | rfl | (exfalso; omega))).symm]
    exact hP
  exact fp_wvret () hx hb hr hlocks hS hP trivial rfl dX3_putLeast_14
theorem fl_X3_sidesAt_30 : Cond.fieldLink RX3 30 "FacingPlates$Planner" "size" "I" ∈ wsX3_sidesAt := by decide +kernel
theorem ini_X3_sidesAt_X7 : Cond.initialized RX7 ∈ wsX3_sidesAt := by decide +kernel
theorem stt_X3_sidesAt_X7_gatheringOfPage : Cond.static yX7_gatheringOfPage ∈ wsX3_sidesAt := by decide +kernel
set_option maxHeartbeats 4000000 in
set_option maxRecDepth 100000 in
theorem c_X3_sidesAt (l : Launch) (D : va_G) (cyI : ClassId) (h : Nat) (hc : Nat) (ra : Nat) (rl : Nat) (size : Int) (fi : Int) (st : Int) (x : Int) (hg : size = 4 ∨ size = 8 ∨ size = 16) (hfi : 1 ≤ fi ∧ fi ≤ 1000) (hst : 0 ≤ st ∧ st ≤ 1000) (hx1 : 1 ≤ x ∧ x ≤ 1000) : fp_M l yX3_sidesAt wsX3_sidesAt ({ frames := 1, cells := 0, slots := 0, locals := 21 } : Room) D cyI [(h, .inr (3, [.ref hc, .ref ra, .ref rl, .int (iI (size))]))] [.ref h, .int (iI (fi)), .int (iI (st)), .int (iI (x))] (some (.int (iI (sdI size fi (st % 4) x)))) := by
  refine fp_start (cc := cX3_sidesAt) (maxL := 5) (ret := (some .int)) (by decide) rfl (Nat.le_of_ble_eq_true rfl) ?_
  intro pg en sx mi ar bl mt cd ls hx hb hr hts hown hlocks hml hnm hP hK hD hl
  have hown : sx.vm.findClass RX3 = some mi.cls := hown
  have hl : lv_has ls 5 [(0, .ref h), (1, .int (iI (fi))), (2, .int (iI (st))), (3, .int (iI (x)))] := hl
  have hd1 := gd_rg (q := fi) hg (by omega)
  have hd2 := gd_rg (q := x) hg (by omega)
  refine lv_iload_n hx hb dX3_sidesAt_0 rfl (lv_at hl 1 rfl) ?_
  refine lv_aload_n hx hb dX3_sidesAt_1 rfl (lv_at hl 0 rfl) ?_
  refine va_get (D := D) (ci := 3) (ws := [(h, .inr (3, [.ref hc, .ref ra, .ref rl, .int (iI (size))]))]) (v := .int (iI (size))) (C := RX3) (T := TX3) (N := 4) hx hb hts (fun _ h => List.mem_cons_of_mem _ (List.mem_append_right _ h)) hown hK.1 hP 0 rfl rfl 3 (by decide) (hts _ fl_X3_sidesAt_30) (fun _ h9 => h9) rfl dX3_sidesAt_2 ?_
  refine fp_pSN (As := [.int (iI (fi)), .int (iI (size))]) (rest := []) (wsC := [(h, .inr (3, [.ref hc, .ref ra, .ref rl, .int (iI (size))]))]) ⟨hx, hb, hml, hown, hts⟩ (c_X7_gatheringOfPage l D cyI fi size hg (by omega)) ⟨va_cnB 2 hts gX3_sidesAt_X7_gatheringOfPage_n130 rfl rfl rfl hK.2.2.2.2.2.1 (hts _ ini_X3_sidesAt_X7) (by decide +kernel) ⟨Nat.le_of_ble_eq_true rfl, Nat.le_of_ble_eq_true rfl⟩, (hts _ stt_X3_sidesAt_X7_gatheringOfPage), trivial⟩ hK hP hD [] (by decide) rfl rfl hl.1 rfl (Nat.le_of_ble_eq_true rfl) dX3_sidesAt_5 ⟨Nat.zero_le _, Nat.zero_le _⟩ ?_
  refine lv_iload_n hx hb dX3_sidesAt_8 rfl (lv_at hl 3 rfl) ?_
  refine lv_aload_n hx hb dX3_sidesAt_9 rfl (lv_at hl 0 rfl) ?_
  refine va_get (D := D) (ci := 3) (ws := [(h, .inr (3, [.ref hc, .ref ra, .ref rl, .int (iI (size))]))]) (v := .int (iI (size))) (C := RX3) (T := TX3) (N := 4) hx hb hts (fun _ h => List.mem_cons_of_mem _ (List.mem_append_right _ h)) hown hK.1 hP 0 rfl rfl 3 (by decide) (hts _ fl_X3_sidesAt_30) (fun _ h9 => h9) rfl dX3_sidesAt_10 ?_
  refine fp_pSN (As := [.int (iI (x)), .int (iI (size))]) (rest := [.int (iI ((fi - 1) / size))]) (wsC := [(h, .inr (3, [.ref hc, .ref ra, .ref rl, .int (iI (size))]))]) ⟨hx, hb, hml, hown, hts⟩ (c_X7_gatheringOfPage l D cyI x size hg (by omega)) ⟨va_cnB 2 hts gX3_sidesAt_X7_gatheringOfPage_n130 rfl rfl rfl hK.2.2.2.2.2.1 (hts _ ini_X3_sidesAt_X7) (by decide +kernel) ⟨Nat.le_of_ble_eq_true rfl, Nat.le_of_ble_eq_true rfl⟩, (hts _ stt_X3_sidesAt_X7_gatheringOfPage), trivial⟩ hK hP hD [] (by decide) rfl rfl hl.1 rfl (Nat.le_of_ble_eq_true rfl) dX3_sidesAt_13 ⟨Nat.zero_le _, Nat.zero_le _⟩ ?_
  refine fp_icmp_ne (tgt := 23) hx hb (by omega) dX3_sidesAt_16 (by decide) (fun q16 => ?_) (fun q16 => ?_)
  · skip
    refine fp_iconst hx hb dX3_sidesAt_23 ?_
    refine lv_istore (lv' := [(4, .int (iI (0))), (0, .ref h), (1, .int (iI (fi))), (2, .int (iI (st))), (3, .int (iI (x)))]) hx hb dX3_sidesAt_24 hl (by decide) rfl (fun ls hl => ?_)
    refine lv_iload hx hb dX3_sidesAt_26 (lv_at hl 0 rfl) ?_
    refine fp_if_eq (tgt := 37) hx hb (by omega) dX3_sidesAt_28 (by decide) (fun q28 => ?_) (fun q28 => ?_)
    · skip
      refine fp_iconst hx hb dX3_sidesAt_37 ?_
      have hret : (sdI size fi (st % 4) x : Int) = 0 := (by first | (exfalso; omega) | (unfold sdI gI; first | rw [if_pos (by omega)] | rw [if_neg (by omega)]))
      exact fp_ret hx hb hr hlocks dX3_sidesAt_38 (congrArg (fun z : Int => Value.int (iI z)) hret)
    · skip
      refine lv_iload_n hx hb dX3_sidesAt_31 rfl (lv_at hl 3 rfl) ?_
      refine fp_iconst hx hb dX3_sidesAt_32 ?_
      refine fp_and3 hx hb (by omega) dX3_sidesAt_33 ?_
      refine lv_goto (tgt := 38) hx hb dX3_sidesAt_34 (by decide) ?_
      have hret : (sdI size fi (st % 4) x : Int) = st % 4 := (by first | (exfalso; omega) | (unfold sdI gI; first | rw [if_pos (by omega)] | rw [if_neg (by omega)]))
      exact fp_ret hx hb hr hlocks dX3_sidesAt_38 (congrArg (fun z : Int => Value.int (iI z)) hret)
  · skip
    refine fp_iconst hx hb dX3_sidesAt_19 ?_
    refine lv_goto (tgt := 24) hx hb dX3_sidesAt_20 (by decide) ?_
    refine lv_istore (lv' := [(4, .int (iI (1))), (0, .ref h), (1, .int (iI (fi))), (2, .int (iI (st))), (3, .int (iI (x)))]) hx hb dX3_sidesAt_24 hl (by decide) rfl (fun ls hl => ?_)
    refine lv_iload hx hb dX3_sidesAt_26 (lv_at hl 0 rfl) ?_
    refine fp_if_eq (tgt := 37) hx hb (by omega) dX3_sidesAt_28 (by decide) (fun q28 => ?_) (fun q28 => ?_)
    · skip
      refine fp_iconst hx hb dX3_sidesAt_37 ?_
      have hret : (sdI size fi (st % 4) x : Int) = 0 := (by first | (exfalso; omega) | (unfold sdI gI; first | rw [if_pos (by omega)] | rw [if_neg (by omega)]))
      exact fp_ret hx hb hr hlocks dX3_sidesAt_38 (congrArg (fun z : Int => Value.int (iI z)) hret)
    · skip
      refine lv_iload_n hx hb dX3_sidesAt_31 rfl (lv_at hl 3 rfl) ?_
      refine fp_iconst hx hb dX3_sidesAt_32 ?_
      refine fp_and3 hx hb (by omega) dX3_sidesAt_33 ?_
      refine lv_goto (tgt := 38) hx hb dX3_sidesAt_34 (by decide) ?_
      have hret : (sdI size fi (st % 4) x : Int) = st % 4 := (by first | (exfalso; omega) | (unfold sdI gI; first | rw [if_pos (by omega)] | rw [if_neg (by omega)]))
      exact fp_ret hx hb hr hlocks dX3_sidesAt_38 (congrArg (fun z : Int => Value.int (iI z)) hret)
theorem fl_X3_standingBehind_14 : Cond.fieldLink RX3 14 "FacingPlates$Planner" "chosen" "LFacingPlates$Catalogue;" ∈ wsX3_standingBehind := by decide +kernel
theorem fl_X3_standingBehind_30 : Cond.fieldLink RX3 30 "FacingPlates$Planner" "size" "I" ∈ wsX3_standingBehind := by decide +kernel
theorem ini_X3_standingBehind_X7 : Cond.initialized RX7 ∈ wsX3_standingBehind := by decide +kernel
theorem stt_X3_standingBehind_X7_gatheringOfPage : Cond.static yX7_gatheringOfPage ∈ wsX3_standingBehind := by decide +kernel
set_option maxHeartbeats 4000000 in
set_option maxRecDepth 100000 in
theorem c_X3_standingBehind (l : Launch) (D : va_G) (cyI : ClassId) (h : Nat) (hc : Nat) (ra : Nat) (rl : Nat) (size : Int) (aa : Nat) (ah : Int → Int) (cr : Nat) (ca : Nat) (f : Int → Int) (k : Int) (st : Int) (b : Int) (q : Int) (hC : CatOK f) (hk : 0 ≤ k ∧ k < f 0) (hst : 0 ≤ st ∧ st < (k + 1) * 4) (hb9 : 0 ≤ b ∧ b ≤ 1) (hq : 0 ≤ q ∧ q ≤ mostC f k) (hg : size = 4 ∨ size = 8 ∨ size = 16) (hah : (0 ≤ ah k ∧ ah k ≤ 48) ∧ (0 ≤ ah (k + 1) ∧ ah (k + 1) ≤ 48)) : fp_M l yX3_standingBehind wsX3_standingBehind ({ frames := 2, cells := 0, slots := 0, locals := 45 } : Room) D cyI [(h, .inr (3, [.ref hc, .ref ra, .ref rl, .int (iI (size))])), (ra, .inr (5, [.ref aa])), (aa, fA cyI 13 ah), (hc, .inr (0, [.ref cr])), (cr, .inr (5, [.ref ca])), (ca, fA cyI 54 f)] [.ref h, .int (iI (k)), .int (iI (st)), .int (iI (b)), .int (iI (q))] (some (.int (iI (stB f size ah k st b q)))) := by
  refine fp_start (cc := cX3_standingBehind) (maxL := 10) (ret := (some .int)) (by decide) rfl (Nat.le_of_ble_eq_true rfl) ?_
  intro pg en sx mi ar bl mt cd ls hx hb hr hts hown hlocks hml hnm hP hK hD hl
  have hown : sx.vm.findClass RX3 = some mi.cls := hown
  have hl : lv_has ls 10 [(0, .ref h), (1, .int (iI (k))), (2, .int (iI (st))), (3, .int (iI (b))), (4, .int (iI (q)))] := hl
  have hL := lot_f hC hk
  unfold LotOK at hL
  have hN := hC.1
  have hM := most_rg hC hk
  have hd1 := gd_rg (q := ah k + st / 4 + 1 + b + q) hg (by omega)
  have hd2 := gd_rg (q := ah (k + 1) + st / 4 + b + 1) hg (by omega)
  have hsd := sd_rg (G := size) (a := ah k + st / 4 + 1) (s := st % 4) (b := ah (k + 1) + st / 4 + b + 1) (by omega)
  have hbt := bit_rg (ah k + st / 4 + 1 + b + q)
  refine lv_aload_n hx hb dX3_standingBehind_0 rfl (lv_at hl 0 rfl) ?_
  refine lv_iload_n hx hb dX3_standingBehind_1 rfl (lv_at hl 1 rfl) ?_
  refine lv_iload_n hx hb dX3_standingBehind_2 rfl (lv_at hl 2 rfl) ?_
  refine fp_pV (As := [.int (iI (k)), .int (iI (st))]) (rest := []) (wsC := [(h, .inr (3, [.ref hc, .ref ra, .ref rl, .int (iI (size))])), (ra, .inr (5, [.ref aa])), (aa, fA cyI 13 ah), (hc, .inr (0, [.ref cr])), (cr, .inr (5, [.ref ca])), (ca, fA cyI 54 f)]) ⟨hx, hb, hml, hown, hts⟩ (c_X3_pagesAhead l D cyI h hc ra rl size aa ah k st (by omega) (by omega)) (cwV 2 hts gX3_standingBehind_X3_pagesAhead rfl rfl rfl (by decide +kernel) ⟨Nat.le_of_ble_eq_true rfl, Nat.le_of_ble_eq_true rfl⟩) hK hP hD [0, 1, 2] (by decide) rfl rfl rfl rfl hl.1 rfl (Nat.le_of_ble_eq_true rfl) dX3_standingBehind_3 ⟨Nat.zero_le _, Nat.zero_le _⟩ ?_
  refine fp_iconst hx hb dX3_standingBehind_6 ?_
  refine fp_iadd hx hb dX3_standingBehind_7 ?_
  refine lv_istore (lv' := [(5, .int (iI ((ah k + st / 4) + 1))), (0, .ref h), (1, .int (iI (k))), (2, .int (iI (st))), (3, .int (iI (b))), (4, .int (iI (q)))]) hx hb dX3_standingBehind_8 hl (by decide) rfl (fun ls hl => ?_)
  refine lv_iload hx hb dX3_standingBehind_10 (lv_at hl 0 rfl) ?_
  refine lv_iload_n hx hb dX3_standingBehind_12 rfl (lv_at hl 4 rfl) ?_
  refine fp_iadd hx hb dX3_standingBehind_13 ?_
  refine lv_iload hx hb dX3_standingBehind_14 (lv_at hl 5 rfl) ?_
  refine fp_iadd hx hb dX3_standingBehind_16 ?_
  refine lv_istore (lv' := [(6, .int (iI ((((ah k + st / 4) + 1) + b) + q))), (5, .int (iI ((ah k + st / 4) + 1))), (0, .ref h), (1, .int (iI (k))), (2, .int (iI (st))), (3, .int (iI (b))), (4, .int (iI (q)))]) hx hb dX3_standingBehind_17 hl (by decide) rfl (fun ls hl => ?_)
  refine lv_aload_n hx hb dX3_standingBehind_19 rfl (lv_at hl 2 rfl) ?_
  refine lv_iload_n hx hb dX3_standingBehind_20 rfl (lv_at hl 3 rfl) ?_
  refine fp_iconst hx hb dX3_standingBehind_21 ?_
  refine fp_iadd hx hb dX3_standingBehind_22 ?_
  refine lv_iload_n hx hb dX3_standingBehind_23 rfl (lv_at hl 4 rfl) ?_
  refine fp_pV (As := [.int (iI (k + 1)), .int (iI (st))]) (rest := []) (wsC := [(h, .inr (3, [.ref hc, .ref ra, .ref rl, .int (iI (size))])), (ra, .inr (5, [.ref aa])), (aa, fA cyI 13 ah), (hc, .inr (0, [.ref cr])), (cr, .inr (5, [.ref ca])), (ca, fA cyI 54 f)]) ⟨hx, hb, hml, hown, hts⟩ (c_X3_pagesAhead l D cyI h hc ra rl size aa ah (k + 1) st (by omega) (by omega)) (cwV 2 hts gX3_standingBehind_X3_pagesAhead rfl rfl rfl (by decide +kernel) ⟨Nat.le_of_ble_eq_true rfl, Nat.le_of_ble_eq_true rfl⟩) hK hP hD [0, 1, 2] (by decide) rfl rfl rfl rfl hl.1 rfl (Nat.le_of_ble_eq_true rfl) dX3_standingBehind_24 ⟨Nat.zero_le _, Nat.zero_le _⟩ ?_
  refine lv_iload_n hx hb dX3_standingBehind_27 rfl (lv_at hl 5 rfl) ?_
  refine fp_iadd hx hb dX3_standingBehind_28 ?_
  refine fp_iconst hx hb dX3_standingBehind_29 ?_
  refine fp_iadd hx hb dX3_standingBehind_30 ?_
  refine lv_istore (lv' := [(7, .int (iI (((ah (k + 1) + st / 4) + b) + 1))), (6, .int (iI ((((ah k + st / 4) + 1) + b) + q))), (5, .int (iI ((ah k + st / 4) + 1))), (0, .ref h), (1, .int (iI (k))), (2, .int (iI (st))), (3, .int (iI (b))), (4, .int (iI (q)))]) hx hb dX3_standingBehind_31 hl (by decide) rfl (fun ls hl => ?_)
  refine lv_aload_n hx hb dX3_standingBehind_33 rfl (lv_at hl 3 rfl) ?_
  refine lv_iload hx hb dX3_standingBehind_34 (lv_at hl 2 rfl) ?_
  refine lv_iload_n hx hb dX3_standingBehind_36 rfl (lv_at hl 5 rfl) ?_
  refine lv_iload hx hb dX3_standingBehind_37 (lv_at hl 0 rfl) ?_
  refine fp_pV (As := [.int (iI ((ah k + st / 4) + 1)), .int (iI (st)), .int (iI (((ah (k + 1) + st / 4) + b) + 1))]) (rest := []) (wsC := [(h, .inr (3, [.ref hc, .ref ra, .ref rl, .int (iI (size))])), (ra, .inr (5, [.ref aa])), (aa, fA cyI 13 ah), (hc, .inr (0, [.ref cr])), (cr, .inr (5, [.ref ca])), (ca, fA cyI 54 f)]) ⟨hx, hb, hml, hown, hts⟩ (c_X3_sidesAt l D cyI h hc ra rl size ((ah k + st / 4) + 1) st (((ah (k + 1) + st / 4) + b) + 1) hg (by omega) (by omega) (by omega)) (cwV 3 hts gX3_standingBehind_X3_sidesAt rfl rfl rfl (by decide +kernel) ⟨Nat.le_of_ble_eq_true rfl, Nat.le_of_ble_eq_true rfl⟩) hK hP hD [0] (by decide) rfl rfl rfl rfl hl.1 rfl (Nat.le_of_ble_eq_true rfl) dX3_standingBehind_39 ⟨Nat.zero_le _, Nat.zero_le _⟩ ?_
  refine lv_istore (lv' := [(8, .int (iI (sdI size ((ah k + st / 4) + 1) (st % 4) (((ah (k + 1) + st / 4) + b) + 1)))), (7, .int (iI (((ah (k + 1) + st / 4) + b) + 1))), (6, .int (iI ((((ah k + st / 4) + 1) + b) + q))), (5, .int (iI ((ah k + st / 4) + 1))), (0, .ref h), (1, .int (iI (k))), (2, .int (iI (st))), (3, .int (iI (b))), (4, .int (iI (q)))]) hx hb dX3_standingBehind_42 hl (by decide) rfl (fun ls hl => ?_)
  have jn0 : ∀ (cr9 : Int), (cr9 = bI (gI size (ah k + st / 4 + 1 + b + q) = gI size (ah (k + 1) + st / 4 + b + 1))) → ∀ (ls : Array Slot), lv_has ls 10 [(0, .ref h), (1, .int (iI (k))), (2, .int (iI (st))), (3, .int (iI (b))), (4, .int (iI (q))), (5, .int (iI ((ah k + st / 4) + 1))), (6, .int (iI ((((ah k + st / 4) + 1) + b) + q))), (7, .int (iI (((ah (k + 1) + st / 4) + b) + 1))), (8, .int (iI (sdI size ((ah k + st / 4) + 1) (st % 4) (((ah (k + 1) + st / 4) + b) + 1))))] → W pg l en ({ frames := 2, cells := 0, slots := 0, locals := 45 } : Room) sx mi ar bl mt cd sx.heap [] 0 0 (MQ bl (fp_Qp (some (.int (iI (stB f size ah k st b q))))) ar sx 0 0 (fun _ => False)) (F0 mi 70 ls [.int (iI (cr9))]) := by
    intro cr9 jc ls hl
    refine lv_istore (lv' := [(9, .int (iI (cr9))), (0, .ref h), (1, .int (iI (k))), (2, .int (iI (st))), (3, .int (iI (b))), (4, .int (iI (q))), (5, .int (iI ((ah k + st / 4) + 1))), (6, .int (iI ((((ah k + st / 4) + 1) + b) + q))), (7, .int (iI (((ah (k + 1) + st / 4) + b) + 1))), (8, .int (iI (sdI size ((ah k + st / 4) + 1) (st % 4) (((ah (k + 1) + st / 4) + b) + 1))))]) hx hb dX3_standingBehind_70 hl (by decide) rfl (fun ls hl => ?_)
    have h01 := bI_01 (gI size (ah k + st / 4 + 1 + b + q) = gI size (ah (k + 1) + st / 4 + b + 1))
    refine lv_aload_n hx hb dX3_standingBehind_72 rfl (lv_at hl 1 rfl) ?_
    refine va_get (D := D) (ci := 3) (ws := [(h, .inr (3, [.ref hc, .ref ra, .ref rl, .int (iI (size))])), (ra, .inr (5, [.ref aa])), (aa, fA cyI 13 ah), (hc, .inr (0, [.ref cr])), (cr, .inr (5, [.ref ca])), (ca, fA cyI 54 f)]) (v := .ref hc) (C := RX3) (T := TX3) (N := 4) hx hb hts (fun _ h => List.mem_cons_of_mem _ (List.mem_append_left _ (List.mem_append_left _ (List.mem_append_right _ h)))) hown hK.1 hP 0 rfl rfl 0 (by decide) (hts _ fl_X3_standingBehind_14) (fun _ h9 => h9) rfl dX3_standingBehind_73 ?_
    refine lv_iload_n hx hb dX3_standingBehind_76 rfl (lv_at hl 2 rfl) ?_
    refine fp_pV (As := [.int (iI (k))]) (rest := []) (wsC := [(h, .inr (3, [.ref hc, .ref ra, .ref rl, .int (iI (size))])), (ra, .inr (5, [.ref aa])), (aa, fA cyI 13 ah), (hc, .inr (0, [.ref cr])), (cr, .inr (5, [.ref ca])), (ca, fA cyI 54 f)]) ⟨hx, hb, hml, hown, hts⟩ (c_X0_plate l D cyI hc cr ca f k (by omega)) (cwV 1 hts gX3_standingBehind_X0_plate rfl rfl rfl (by decide +kernel) ⟨Nat.le_of_ble_eq_true rfl, Nat.le_of_ble_eq_true rfl⟩) hK hP hD [3, 4, 5] (by decide) rfl rfl rfl rfl hl.1 rfl (Nat.le_of_ble_eq_true rfl) dX3_standingBehind_77 ⟨Nat.zero_le _, Nat.zero_le _⟩ ?_
    refine fp_iconst hx hb dX3_standingBehind_80 ?_
    refine fp_icmp_ne (tgt := 99) hx hb (by omega) dX3_standingBehind_81 (by decide) (fun q81 => ?_) (fun q81 => ?_)
    · skip
      refine lv_iload_n hx hb dX3_standingBehind_99 rfl (lv_at hl 3 rfl) ?_
      refine fp_pS (As := [.int (iI (st))]) (rest := []) (wsC := [(h, .inr (3, [.ref hc, .ref ra, .ref rl, .int (iI (size))])), (ra, .inr (5, [.ref aa])), (aa, fA cyI 13 ah), (hc, .inr (0, [.ref cr])), (cr, .inr (5, [.ref ca])), (ca, fA cyI 54 f)]) ⟨hx, hb, hml, hown, hts⟩ (c_X3_blanksIn l D cyI st (by omega)) (va_cwS 1 hts gX3_standingBehind_X3_blanksIn rfl rfl rfl (by decide +kernel) ⟨Nat.le_of_ble_eq_true rfl, Nat.le_of_ble_eq_true rfl⟩) hK hP hD [] (by decide) rfl rfl hl.1 rfl (Nat.le_of_ble_eq_true rfl) dX3_standingBehind_100 ⟨Nat.zero_le _, Nat.zero_le _⟩ ?_
      refine lv_iload_n hx hb dX3_standingBehind_103 rfl (lv_at hl 4 rfl) ?_
      refine fp_iadd hx hb dX3_standingBehind_104 ?_
      refine fp_iconst hx hb dX3_standingBehind_105 ?_
      refine fp_imul hx hb dX3_standingBehind_106 ?_
      refine lv_iload hx hb dX3_standingBehind_107 (lv_at hl 9 rfl) ?_
      refine fp_iadd hx hb dX3_standingBehind_109 ?_
      have hret : (stB f size ah k st b q : Int) = (((st / 4) + b) * 4) + (sdI size ((ah k + st / 4) + 1) (st % 4) (((ah (k + 1) + st / 4) + b) + 1)) := (by unfold stB sbI; first | rw [if_neg (fun z => q81 z.1)] | rw [if_neg (fun z => bI_e (jc.symm.trans q86) z.2)] | rw [if_pos ⟨q81, c86⟩])
      exact fp_ret hx hb hr hlocks dX3_standingBehind_110 (congrArg (fun z : Int => Value.int (iI z)) hret)
    · skip
      refine lv_iload hx hb dX3_standingBehind_84 (lv_at hl 0 rfl) ?_
      refine fp_if_eq (tgt := 99) hx hb (by omega) dX3_standingBehind_86 (by decide) (fun q86 => ?_) (fun q86 => ?_)
      · skip
        refine lv_iload_n hx hb dX3_standingBehind_99 rfl (lv_at hl 3 rfl) ?_
        refine fp_pS (As := [.int (iI (st))]) (rest := []) (wsC := [(h, .inr (3, [.ref hc, .ref ra, .ref rl, .int (iI (size))])), (ra, .inr (5, [.ref aa])), (aa, fA cyI 13 ah), (hc, .inr (0, [.ref cr])), (cr, .inr (5, [.ref ca])), (ca, fA cyI 54 f)]) ⟨hx, hb, hml, hown, hts⟩ (c_X3_blanksIn l D cyI st (by omega)) (va_cwS 1 hts gX3_standingBehind_X3_blanksIn rfl rfl rfl (by decide +kernel) ⟨Nat.le_of_ble_eq_true rfl, Nat.le_of_ble_eq_true rfl⟩) hK hP hD [] (by decide) rfl rfl hl.1 rfl (Nat.le_of_ble_eq_true rfl) dX3_standingBehind_100 ⟨Nat.zero_le _, Nat.zero_le _⟩ ?_
        refine lv_iload_n hx hb dX3_standingBehind_103 rfl (lv_at hl 4 rfl) ?_
        refine fp_iadd hx hb dX3_standingBehind_104 ?_
        refine fp_iconst hx hb dX3_standingBehind_105 ?_
        refine fp_imul hx hb dX3_standingBehind_106 ?_
        refine lv_iload hx hb dX3_standingBehind_107 (lv_at hl 9 rfl) ?_
        refine fp_iadd hx hb dX3_standingBehind_109 ?_
        have hret : (stB f size ah k st b q : Int) = (((st / 4) + b) * 4) + (sdI size ((ah k + st / 4) + 1) (st % 4) (((ah (k + 1) + st / 4) + b) + 1)) := (by unfold stB sbI; first | rw [if_neg (fun z => q81 z.1)] | rw [if_neg (fun z => bI_e (jc.symm.trans q86) z.2)] | rw [if_pos ⟨q81, c86⟩])
        exact fp_ret hx hb hr hlocks dX3_standingBehind_110 (congrArg (fun z : Int => Value.int (iI z)) hret)
      · skip
        have c86 := bI_ne (fun z => q86 (jc.trans z))
        refine lv_iload hx hb dX3_standingBehind_89 (lv_at hl 9 rfl) ?_
        refine lv_iload hx hb dX3_standingBehind_91 (lv_at hl 7 rfl) ?_
        refine fp_pS (As := [.int (iI ((((ah k + st / 4) + 1) + b) + q))]) (rest := [.int (iI (sdI size ((ah k + st / 4) + 1) (st % 4) (((ah (k + 1) + st / 4) + b) + 1)))]) (wsC := [(h, .inr (3, [.ref hc, .ref ra, .ref rl, .int (iI (size))])), (ra, .inr (5, [.ref aa])), (aa, fA cyI 13 ah), (hc, .inr (0, [.ref cr])), (cr, .inr (5, [.ref ca])), (ca, fA cyI 54 f)]) ⟨hx, hb, hml, hown, hts⟩ (c_X3_bitOf l D cyI ((((ah k + st / 4) + 1) + b) + q) (by omega)) (va_cwS 1 hts gX3_standingBehind_X3_bitOf rfl rfl rfl (by decide +kernel) ⟨Nat.le_of_ble_eq_true rfl, Nat.le_of_ble_eq_true rfl⟩) hK hP hD [] (by decide) rfl rfl hl.1 rfl (Nat.le_of_ble_eq_true rfl) dX3_standingBehind_93 ⟨Nat.zero_le _, Nat.zero_le _⟩ ?_
        refine fp_ior hx hb (by omega) dX3_standingBehind_96 ?_
        refine lv_istore (lv' := [(8, .int (iI (orI (sdI size ((ah k + st / 4) + 1) (st % 4) (((ah (k + 1) + st / 4) + b) + 1)) (bitI ((((ah k + st / 4) + 1) + b) + q))))), (9, .int (iI (cr9))), (0, .ref h), (1, .int (iI (k))), (2, .int (iI (st))), (3, .int (iI (b))), (4, .int (iI (q))), (5, .int (iI ((ah k + st / 4) + 1))), (6, .int (iI ((((ah k + st / 4) + 1) + b) + q))), (7, .int (iI (((ah (k + 1) + st / 4) + b) + 1)))]) hx hb dX3_standingBehind_97 hl (by decide) rfl (fun ls hl => ?_)
        refine lv_iload_n hx hb dX3_standingBehind_99 rfl (lv_at hl 4 rfl) ?_
        refine fp_pS (As := [.int (iI (st))]) (rest := []) (wsC := [(h, .inr (3, [.ref hc, .ref ra, .ref rl, .int (iI (size))])), (ra, .inr (5, [.ref aa])), (aa, fA cyI 13 ah), (hc, .inr (0, [.ref cr])), (cr, .inr (5, [.ref ca])), (ca, fA cyI 54 f)]) ⟨hx, hb, hml, hown, hts⟩ (c_X3_blanksIn l D cyI st (by omega)) (va_cwS 1 hts gX3_standingBehind_X3_blanksIn rfl rfl rfl (by decide +kernel) ⟨Nat.le_of_ble_eq_true rfl, Nat.le_of_ble_eq_true rfl⟩) hK hP hD [] (by decide) rfl rfl hl.1 rfl (Nat.le_of_ble_eq_true rfl) dX3_standingBehind_100 ⟨Nat.zero_le _, Nat.zero_le _⟩ ?_
        refine lv_iload_n hx hb dX3_standingBehind_103 rfl (lv_at hl 5 rfl) ?_
        refine fp_iadd hx hb dX3_standingBehind_104 ?_
        refine fp_iconst hx hb dX3_standingBehind_105 ?_
        refine fp_imul hx hb dX3_standingBehind_106 ?_
        refine lv_iload hx hb dX3_standingBehind_107 (lv_at hl 0 rfl) ?_
        refine fp_iadd hx hb dX3_standingBehind_109 ?_
        have hret : (stB f size ah k st b q : Int) = (((st / 4) + b) * 4) + (orI (sdI size ((ah k + st / 4) + 1) (st % 4) (((ah (k + 1) + st / 4) + b) + 1)) (bitI ((((ah k + st / 4) + 1) + b) + q))) := (by unfold stB sbI; first | rw [if_neg (fun z => q81 z.1)] | rw [if_neg (fun z => bI_e (jc.symm.trans q86) z.2)] | rw [if_pos ⟨q81, c86⟩])
        exact fp_ret hx hb hr hlocks dX3_standingBehind_110 (congrArg (fun z : Int => Value.int (iI z)) hret)
  refine lv_iload hx hb dX3_standingBehind_44 (lv_at hl 2 rfl) ?_
  refine lv_aload_n hx hb dX3_standingBehind_46 rfl (lv_at hl 4 rfl) ?_
  refine va_get (D := D) (ci := 3) (ws := [(h, .inr (3, [.ref hc, .ref ra, .ref rl, .int (iI (size))])), (ra, .inr (5, [.ref aa])), (aa, fA cyI 13 ah), (hc, .inr (0, [.ref cr])), (cr, .inr (5, [.ref ca])), (ca, fA cyI 54 f)]) (v := .int (iI (size))) (C := RX3) (T := TX3) (N := 4) hx hb hts (fun _ h => List.mem_cons_of_mem _ (List.mem_append_left _ (List.mem_append_left _ (List.mem_append_right _ h)))) hown hK.1 hP 0 rfl rfl 3 (by decide) (hts _ fl_X3_standingBehind_30) (fun _ h9 => h9) rfl dX3_standingBehind_47 ?_
  refine fp_pSN (As := [.int (iI ((((ah k + st / 4) + 1) + b) + q)), .int (iI (size))]) (rest := []) (wsC := [(h, .inr (3, [.ref hc, .ref ra, .ref rl, .int (iI (size))])), (ra, .inr (5, [.ref aa])), (aa, fA cyI 13 ah), (hc, .inr (0, [.ref cr])), (cr, .inr (5, [.ref ca])), (ca, fA cyI 54 f)]) ⟨hx, hb, hml, hown, hts⟩ (c_X7_gatheringOfPage l D cyI ((((ah k + st / 4) + 1) + b) + q) size hg (by omega)) ⟨va_cnB 2 hts gX3_standingBehind_X7_gatheringOfPage_n130 rfl rfl rfl hK.2.2.2.2.2.1 (hts _ ini_X3_standingBehind_X7) (by decide +kernel) ⟨Nat.le_of_ble_eq_true rfl, Nat.le_of_ble_eq_true rfl⟩, (hts _ stt_X3_standingBehind_X7_gatheringOfPage), trivial⟩ hK hP hD [] (by decide) rfl rfl hl.1 rfl (Nat.le_of_ble_eq_true rfl) dX3_standingBehind_50 ⟨Nat.zero_le _, Nat.zero_le _⟩ ?_
  refine lv_iload hx hb dX3_standingBehind_53 (lv_at hl 1 rfl) ?_
  refine lv_aload_n hx hb dX3_standingBehind_55 rfl (lv_at hl 4 rfl) ?_
  refine va_get (D := D) (ci := 3) (ws := [(h, .inr (3, [.ref hc, .ref ra, .ref rl, .int (iI (size))])), (ra, .inr (5, [.ref aa])), (aa, fA cyI 13 ah), (hc, .inr (0, [.ref cr])), (cr, .inr (5, [.ref ca])), (ca, fA cyI 54 f)]) (v := .int (iI (size))) (C := RX3) (T := TX3) (N := 4) hx hb hts (fun _ h => List.mem_cons_of_mem _ (List.mem_append_left _ (List.mem_append_left _ (List.mem_append_right _ h)))) hown hK.1 hP 0 rfl rfl 3 (by decide) (hts _ fl_X3_standingBehind_30) (fun _ h9 => h9) rfl dX3_standingBehind_56 ?_
  refine fp_pSN (As := [.int (iI (((ah (k + 1) + st / 4) + b) + 1)), .int (iI (size))]) (rest := [.int (iI ((((((ah k + st / 4) + 1) + b) + q) - 1) / size))]) (wsC := [(h, .inr (3, [.ref hc, .ref ra, .ref rl, .int (iI (size))])), (ra, .inr (5, [.ref aa])), (aa, fA cyI 13 ah), (hc, .inr (0, [.ref cr])), (cr, .inr (5, [.ref ca])), (ca, fA cyI 54 f)]) ⟨hx, hb, hml, hown, hts⟩ (c_X7_gatheringOfPage l D cyI (((ah (k + 1) + st / 4) + b) + 1) size hg (by omega)) ⟨va_cnB 2 hts gX3_standingBehind_X7_gatheringOfPage_n130 rfl rfl rfl hK.2.2.2.2.2.1 (hts _ ini_X3_standingBehind_X7) (by decide +kernel) ⟨Nat.le_of_ble_eq_true rfl, Nat.le_of_ble_eq_true rfl⟩, (hts _ stt_X3_standingBehind_X7_gatheringOfPage), trivial⟩ hK hP hD [] (by decide) rfl rfl hl.1 rfl (Nat.le_of_ble_eq_true rfl) dX3_standingBehind_59 ⟨Nat.zero_le _, Nat.zero_le _⟩ ?_
  refine fp_icmp_ne (tgt := 69) hx hb (by omega) dX3_standingBehind_62 (by decide) (fun q62 => ?_) (fun q62 => ?_)
  · skip
    refine fp_iconst hx hb dX3_standingBehind_69 ?_
    exact jn0 0 (by first | (rw [bI_t]; unfold gI; omega) | (rw [bI_f]; unfold gI; omega)) ls (lv_sub hl [4, 5, 6, 7, 8, 3, 2, 1, 0] rfl)
  · skip
    refine fp_iconst hx hb dX3_standingBehind_65 ?_
    refine lv_goto (tgt := 70) hx hb dX3_standingBehind_66 (by decide) ?_
    exact jn0 1 (by first | (rw [bI_t]; unfold gI; omega) | (rw [bI_f]; unfold gI; omega)) ls (lv_sub hl [4, 5, 6, 7, 8, 3, 2, 1, 0] rfl)
theorem fl_X3_costThrough_14 : Cond.fieldLink RX3 14 "FacingPlates$Planner" "chosen" "LFacingPlates$Catalogue;" ∈ wsX3_costThrough := by decide +kernel
theorem ck_X3_costThrough_59 : Cond.constant RX3 59 (1000000) ∈ wsX3_costThrough := by decide +kernel
theorem ml_X3_costThrough_102 : Cond.methodLink RX3 102 Lib.Math.min.name ∈ wsX3_costThrough := by decide +kernel
theorem mm_X3_costThrough_s : Cond.static Lib.Math.min.name ∈ wsX3_costThrough := by decide +kernel
theorem mm_X3_costThrough_i : Cond.initialized "java/lang/Math" ∈ wsX3_costThrough := by decide +kernel
theorem mm_X3_costThrough_c : Cond.code Lib.Math.min.name Lib.Math.min.code 2 (some .int) ∈ wsX3_costThrough := by decide +kernel
set_option maxHeartbeats 4000000 in
set_option maxRecDepth 100000 in
theorem c_X3_costThrough (l : Launch) (D : va_G) (cyI : ClassId) (h : Nat) (hc : Nat) (ra : Nat) (rl : Nat) (size : Int) (aa : Nat) (ah : Int → Int) (al : Nat) (le : Int → Int) (cr : Nat) (ca : Nat) (f : Int → Int) (k : Int) (st : Int) (b : Int) (q : Int) (hC : CatOK f) (hk : 0 ≤ k ∧ k < f 0) (hst : 0 ≤ st ∧ st < (k + 1) * 4) (hb9 : 0 ≤ b ∧ b ≤ 1) (hq : 0 ≤ q ∧ q ≤ mostC f k) (hg : size = 4 ∨ size = 8 ∨ size = 16) (hah : (0 ≤ ah k ∧ ah k ≤ 48) ∧ (0 ≤ ah (k + 1) ∧ ah (k + 1) ≤ 48)) (hle : ∀ j : Int, (k + 1) * 52 ≤ j → j < (k + 1) * 52 + (k + 2) * 4 → 0 ≤ le j ∧ le j ≤ 1000000) : fp_M l yX3_costThrough wsX3_costThrough ({ frames := 3, cells := 0, slots := 0, locals := 74 } : Room) D cyI [(h, .inr (3, [.ref hc, .ref ra, .ref rl, .int (iI (size))])), (ra, .inr (5, [.ref aa])), (aa, fA cyI 13 ah), (rl, .inr (5, [.ref al])), (al, fA cyI 676 le), (hc, .inr (0, [.ref cr])), (cr, .inr (5, [.ref ca])), (ca, fA cyI 54 f)] [.ref h, .int (iI (k)), .int (iI (st)), .int (iI (b)), .int (iI (q))] (some (.int (iI (ctR f size ah le k st b q)))) := by
  refine fp_start (cc := cX3_costThrough) (maxL := 8) (ret := (some .int)) (by decide) rfl (Nat.le_of_ble_eq_true rfl) ?_
  intro pg en sx mi ar bl mt cd ls hx hb hr hts hown hlocks hml hnm hP hK hD hl
  have hown : sx.vm.findClass RX3 = some mi.cls := hown
  have hl : lv_has ls 8 [(0, .ref h), (1, .int (iI (k))), (2, .int (iI (st))), (3, .int (iI (b))), (4, .int (iI (q)))] := hl
  have hL := lot_f hC hk
  unfold LotOK at hL
  have hN := hC.1
  have hM := most_rg hC hk
  have hX := hC.2.2
  unfold SetOK at hX
  have hsd := sd_rg (G := size) (a := ah k + st / 4 + 1) (s := st % 4) (b := ah k + st / 4 + 1 + b + q) (by omega)
  have hbt := bit_rg (ah k + st / 4 + 1 + b + q)
  have hsr := stB_rg (f := f) (G := size) (ah := ah) (q := q) hst hb9
  have hlv := hle ((k + 1) * 52 + stB f size ah k st b q) (by omega) (by omega)
  have hbm : 0 ≤ b * f (49 + 3) ∧ b * f (49 + 3) ≤ 99 := by
    have hb2 : b = 0 ∨ b = 1 := by omega
    rcases hb2 with rfl | rfl <;> omega
  have hand := andI_rg (a := sdI size (ah k + st / 4 + 1) (st % 4) (ah k + st / 4 + 1 + b + q)) (b := bitI (ah k + st / 4 + 1 + b + q)) (by omega)
  refine lv_aload_n hx hb dX3_costThrough_0 rfl (lv_at hl 0 rfl) ?_
  refine lv_iload_n hx hb dX3_costThrough_1 rfl (lv_at hl 1 rfl) ?_
  refine lv_iload_n hx hb dX3_costThrough_2 rfl (lv_at hl 2 rfl) ?_
  refine fp_pV (As := [.int (iI (k)), .int (iI (st))]) (rest := []) (wsC := [(h, .inr (3, [.ref hc, .ref ra, .ref rl, .int (iI (size))])), (ra, .inr (5, [.ref aa])), (aa, fA cyI 13 ah), (rl, .inr (5, [.ref al])), (al, fA cyI 676 le), (hc, .inr (0, [.ref cr])), (cr, .inr (5, [.ref ca])), (ca, fA cyI 54 f)]) ⟨hx, hb, hml, hown, hts⟩ (c_X3_pagesAhead l D cyI h hc ra rl size aa ah k st (by omega) (by omega)) (cwV 2 hts gX3_costThrough_X3_pagesAhead rfl rfl rfl (by decide +kernel) ⟨Nat.le_of_ble_eq_true rfl, Nat.le_of_ble_eq_true rfl⟩) hK hP hD [0, 1, 2] (by decide) rfl rfl rfl rfl hl.1 rfl (Nat.le_of_ble_eq_true rfl) dX3_costThrough_3 ⟨Nat.zero_le _, Nat.zero_le _⟩ ?_
  refine fp_iconst hx hb dX3_costThrough_6 ?_
  refine fp_iadd hx hb dX3_costThrough_7 ?_
  refine lv_istore (lv' := [(5, .int (iI ((ah k + st / 4) + 1))), (0, .ref h), (1, .int (iI (k))), (2, .int (iI (st))), (3, .int (iI (b))), (4, .int (iI (q)))]) hx hb dX3_costThrough_8 hl (by decide) rfl (fun ls hl => ?_)
  refine lv_iload hx hb dX3_costThrough_10 (lv_at hl 0 rfl) ?_
  refine lv_iload_n hx hb dX3_costThrough_12 rfl (lv_at hl 4 rfl) ?_
  refine fp_iadd hx hb dX3_costThrough_13 ?_
  refine lv_iload hx hb dX3_costThrough_14 (lv_at hl 5 rfl) ?_
  refine fp_iadd hx hb dX3_costThrough_16 ?_
  refine lv_istore (lv' := [(6, .int (iI ((((ah k + st / 4) + 1) + b) + q))), (5, .int (iI ((ah k + st / 4) + 1))), (0, .ref h), (1, .int (iI (k))), (2, .int (iI (st))), (3, .int (iI (b))), (4, .int (iI (q)))]) hx hb dX3_costThrough_17 hl (by decide) rfl (fun ls hl => ?_)
  refine lv_aload_n hx hb dX3_costThrough_19 rfl (lv_at hl 2 rfl) ?_
  refine va_get (D := D) (ci := 3) (ws := [(h, .inr (3, [.ref hc, .ref ra, .ref rl, .int (iI (size))])), (ra, .inr (5, [.ref aa])), (aa, fA cyI 13 ah), (rl, .inr (5, [.ref al])), (al, fA cyI 676 le), (hc, .inr (0, [.ref cr])), (cr, .inr (5, [.ref ca])), (ca, fA cyI 54 f)]) (v := .ref hc) (C := RX3) (T := TX3) (N := 4) hx hb hts (fun _ h => List.mem_cons_of_mem _ (List.mem_append_left _ (List.mem_append_left _ (List.mem_append_right _ h)))) hown hK.1 hP 0 rfl rfl 0 (by decide) (hts _ fl_X3_costThrough_14) (fun _ h9 => h9) rfl dX3_costThrough_20 ?_
  refine lv_iload_n hx hb dX3_costThrough_23 rfl (lv_at hl 3 rfl) ?_
  refine fp_pV (As := [.int (iI (k))]) (rest := []) (wsC := [(h, .inr (3, [.ref hc, .ref ra, .ref rl, .int (iI (size))])), (ra, .inr (5, [.ref aa])), (aa, fA cyI 13 ah), (rl, .inr (5, [.ref al])), (al, fA cyI 676 le), (hc, .inr (0, [.ref cr])), (cr, .inr (5, [.ref ca])), (ca, fA cyI 54 f)]) ⟨hx, hb, hml, hown, hts⟩ (c_X0_plate l D cyI hc cr ca f k (by omega)) (cwV 1 hts gX3_costThrough_X0_plate rfl rfl rfl (by decide +kernel) ⟨Nat.le_of_ble_eq_true rfl, Nat.le_of_ble_eq_true rfl⟩) hK hP hD [5, 6, 7] (by decide) rfl rfl rfl rfl hl.1 rfl (Nat.le_of_ble_eq_true rfl) dX3_costThrough_24 ⟨Nat.zero_le _, Nat.zero_le _⟩ ?_
  have jn0 : (¬ (¬ f (k * 4 + 2) = 0 ∧ facI (ah k + st / 4 + 1 + b + q) q (f (k * 4 + 1)) = 0)) → ∀ (ls : Array Slot), lv_has ls 8 [(0, .ref h), (1, .int (iI (k))), (2, .int (iI (st))), (3, .int (iI (b))), (4, .int (iI (q))), (5, .int (iI ((ah k + st / 4) + 1))), (6, .int (iI ((((ah k + st / 4) + 1) + b) + q)))] → W pg l en ({ frames := 3, cells := 0, slots := 0, locals := 74 } : Room) sx mi ar bl mt cd sx.heap [] 0 0 (MQ bl (fp_Qp (some (.int (iI (ctR f size ah le k st b q))))) ar sx 0 0 (fun _ => False)) (F0 mi 51 ls []) := by
    intro  jf ls hl
    refine lv_aload_n hx hb dX3_costThrough_51 rfl (lv_at hl 0 rfl) ?_
    refine lv_iload_n hx hb dX3_costThrough_52 rfl (lv_at hl 1 rfl) ?_
    refine fp_iconst hx hb dX3_costThrough_53 ?_
    refine fp_iadd hx hb dX3_costThrough_54 ?_
    refine lv_aload_n hx hb dX3_costThrough_55 rfl (lv_at hl 0 rfl) ?_
    refine lv_iload_n hx hb dX3_costThrough_56 rfl (lv_at hl 1 rfl) ?_
    refine lv_iload_n hx hb dX3_costThrough_57 rfl (lv_at hl 2 rfl) ?_
    refine lv_iload_n hx hb dX3_costThrough_58 rfl (lv_at hl 3 rfl) ?_
    refine lv_iload hx hb dX3_costThrough_59 (lv_at hl 4 rfl) ?_
    refine fp_pV (As := [.int (iI (k)), .int (iI (st)), .int (iI (b)), .int (iI (q))]) (rest := [.int (iI (k + 1)), .ref h]) (wsC := [(h, .inr (3, [.ref hc, .ref ra, .ref rl, .int (iI (size))])), (ra, .inr (5, [.ref aa])), (aa, fA cyI 13 ah), (rl, .inr (5, [.ref al])), (al, fA cyI 676 le), (hc, .inr (0, [.ref cr])), (cr, .inr (5, [.ref ca])), (ca, fA cyI 54 f)]) ⟨hx, hb, hml, hown, hts⟩ (c_X3_standingBehind l D cyI h hc ra rl size aa ah cr ca f k st b q hC (by omega) (by omega) (by omega) (by omega) hg hah) (cwV 4 hts gX3_costThrough_X3_standingBehind rfl rfl rfl (by decide +kernel) ⟨Nat.le_of_ble_eq_true rfl, Nat.le_of_ble_eq_true rfl⟩) hK hP hD [0, 1, 2, 5, 6, 7] (by decide) rfl rfl rfl rfl hl.1 rfl (Nat.le_of_ble_eq_true rfl) dX3_costThrough_61 ⟨Nat.zero_le _, Nat.zero_le _⟩ ?_
    refine fp_pV (As := [.int (iI (k + 1)), .int (iI (stB f size ah k st b q))]) (rest := []) (wsC := [(h, .inr (3, [.ref hc, .ref ra, .ref rl, .int (iI (size))])), (ra, .inr (5, [.ref aa])), (aa, fA cyI 13 ah), (rl, .inr (5, [.ref al])), (al, fA cyI 676 le), (hc, .inr (0, [.ref cr])), (cr, .inr (5, [.ref ca])), (ca, fA cyI 54 f)]) ⟨hx, hb, hml, hown, hts⟩ (c_X3_leastFrom l D cyI h hc ra rl size al le (k + 1) (stB f size ah k st b q) (by omega) (by omega)) (cwV 2 hts gX3_costThrough_X3_leastFrom rfl rfl rfl (by decide +kernel) ⟨Nat.le_of_ble_eq_true rfl, Nat.le_of_ble_eq_true rfl⟩) hK hP hD [0, 3, 4] (by decide) rfl rfl rfl rfl hl.1 rfl (Nat.le_of_ble_eq_true rfl) dX3_costThrough_64 ⟨Nat.zero_le _, Nat.zero_le _⟩ ?_
    refine lv_iload_n hx hb dX3_costThrough_67 rfl (lv_at hl 3 rfl) ?_
    refine lv_aload_n hx hb dX3_costThrough_68 rfl (lv_at hl 0 rfl) ?_
    refine va_get (D := D) (ci := 3) (ws := [(h, .inr (3, [.ref hc, .ref ra, .ref rl, .int (iI (size))])), (ra, .inr (5, [.ref aa])), (aa, fA cyI 13 ah), (rl, .inr (5, [.ref al])), (al, fA cyI 676 le), (hc, .inr (0, [.ref cr])), (cr, .inr (5, [.ref ca])), (ca, fA cyI 54 f)]) (v := .ref hc) (C := RX3) (T := TX3) (N := 4) hx hb hts (fun _ h => List.mem_cons_of_mem _ (List.mem_append_left _ (List.mem_append_left _ (List.mem_append_right _ h)))) hown hK.1 hP 0 rfl rfl 0 (by decide) (hts _ fl_X3_costThrough_14) (fun _ h9 => h9) rfl dX3_costThrough_69 ?_
    refine fp_iconst hx hb dX3_costThrough_72 ?_
    refine fp_pV (As := [.int (iI (3))]) (rest := [.int (iI (b)), .int (iI (le ((k + 1) * 52 + (stB f size ah k st b q))))]) (wsC := [(h, .inr (3, [.ref hc, .ref ra, .ref rl, .int (iI (size))])), (ra, .inr (5, [.ref aa])), (aa, fA cyI 13 ah), (rl, .inr (5, [.ref al])), (al, fA cyI 676 le), (hc, .inr (0, [.ref cr])), (cr, .inr (5, [.ref ca])), (ca, fA cyI 54 f)]) ⟨hx, hb, hml, hown, hts⟩ (c_X0_setting l D cyI hc cr ca f 3 (by omega)) (cwV 1 hts gX3_costThrough_X0_setting rfl rfl rfl (by decide +kernel) ⟨Nat.le_of_ble_eq_true rfl, Nat.le_of_ble_eq_true rfl⟩) hK hP hD [5, 6, 7] (by decide) rfl rfl rfl rfl hl.1 rfl (Nat.le_of_ble_eq_true rfl) dX3_costThrough_73 ⟨Nat.zero_le _, Nat.zero_le _⟩ ?_
    refine fp_imul hx hb dX3_costThrough_76 ?_
    refine fp_iadd hx hb dX3_costThrough_77 ?_
    refine lv_istore (lv' := [(7, .int (iI ((le ((k + 1) * 52 + (stB f size ah k st b q))) + (b * (f (49 + 3)))))), (0, .ref h), (1, .int (iI (k))), (2, .int (iI (st))), (3, .int (iI (b))), (4, .int (iI (q))), (5, .int (iI ((ah k + st / 4) + 1))), (6, .int (iI ((((ah k + st / 4) + 1) + b) + q)))]) hx hb dX3_costThrough_78 hl (by decide) rfl (fun ls hl => ?_)
    refine lv_aload_n hx hb dX3_costThrough_80 rfl (lv_at hl 1 rfl) ?_
    refine va_get (D := D) (ci := 3) (ws := [(h, .inr (3, [.ref hc, .ref ra, .ref rl, .int (iI (size))])), (ra, .inr (5, [.ref aa])), (aa, fA cyI 13 ah), (rl, .inr (5, [.ref al])), (al, fA cyI 676 le), (hc, .inr (0, [.ref cr])), (cr, .inr (5, [.ref ca])), (ca, fA cyI 54 f)]) (v := .ref hc) (C := RX3) (T := TX3) (N := 4) hx hb hts (fun _ h => List.mem_cons_of_mem _ (List.mem_append_left _ (List.mem_append_left _ (List.mem_append_right _ h)))) hown hK.1 hP 0 rfl rfl 0 (by decide) (hts _ fl_X3_costThrough_14) (fun _ h9 => h9) rfl dX3_costThrough_81 ?_
    refine lv_iload_n hx hb dX3_costThrough_84 rfl (lv_at hl 2 rfl) ?_
    refine fp_pV (As := [.int (iI (k))]) (rest := []) (wsC := [(h, .inr (3, [.ref hc, .ref ra, .ref rl, .int (iI (size))])), (ra, .inr (5, [.ref aa])), (aa, fA cyI 13 ah), (rl, .inr (5, [.ref al])), (al, fA cyI 676 le), (hc, .inr (0, [.ref cr])), (cr, .inr (5, [.ref ca])), (ca, fA cyI 54 f)]) ⟨hx, hb, hml, hown, hts⟩ (c_X0_plate l D cyI hc cr ca f k (by omega)) (cwV 1 hts gX3_costThrough_X0_plate rfl rfl rfl (by decide +kernel) ⟨Nat.le_of_ble_eq_true rfl, Nat.le_of_ble_eq_true rfl⟩) hK hP hD [5, 6, 7] (by decide) rfl rfl rfl rfl hl.1 rfl (Nat.le_of_ble_eq_true rfl) dX3_costThrough_85 ⟨Nat.zero_le _, Nat.zero_le _⟩ ?_
    refine fp_iconst hx hb dX3_costThrough_88 ?_
    have jn1 : ∀ (cv : Int), (cv = le ((k + 1) * 52 + stB f size ah k st b q) + b * f (49 + 3) + saV f size k (ah k + st / 4) (st % 4) b q) → ∀ (ls : Array Slot), lv_has ls 8 [(0, .ref h), (1, .int (iI (k))), (2, .int (iI (st))), (3, .int (iI (b))), (4, .int (iI (q))), (5, .int (iI ((ah k + st / 4) + 1))), (6, .int (iI ((((ah k + st / 4) + 1) + b) + q))), (7, .int (iI (cv)))] → W pg l en ({ frames := 3, cells := 0, slots := 0, locals := 74 } : Room) sx mi ar bl mt cd sx.heap [] 0 0 (MQ bl (fp_Qp (some (.int (iI (ctR f size ah le k st b q))))) ar sx 0 0 (fun _ => False)) (F0 mi 123 ls []) := by
      intro cv jv ls hl
      have hsa := sa_rg hC (G := size) (k := k) (p := ah k + st / 4) (s := st % 4) (b := b) (q := q)
      refine lv_iload hx hb dX3_costThrough_123 (lv_at hl 7 rfl) ?_
      refine fp_ldc hx hb (1000000) rfl hown (hts _ ck_X3_costThrough_59) dX3_costThrough_125 ?_
      refine fp_mmin hx hb (hml.trans hl.1.symm) hown (hts _ ml_X3_costThrough_102) (hts _ mm_X3_costThrough_s) (hts _ mm_X3_costThrough_i) (hts _ mm_X3_costThrough_c) (Nat.le_of_ble_eq_true rfl) (Nat.le_of_ble_eq_true rfl) (by omega) dX3_costThrough_127 ?_
      have hret : (ctR f size ah le k st b q : Int) = min (cv) (1000000) := (by unfold ctR ctV; rw [if_neg jf, jv])
      exact fp_ret hx hb hr hlocks dX3_costThrough_130 (congrArg (fun z : Int => Value.int (iI z)) hret)
    refine fp_icmp_ne (tgt := 123) hx hb (by omega) dX3_costThrough_89 (by decide) (fun q89 => ?_) (fun q89 => ?_)
    · skip
      have hjv : le ((k + 1) * 52 + stB f size ah k st b q) + b * f (49 + 3) = le ((k + 1) * 52 + stB f size ah k st b q) + b * f (49 + 3) + saV f size k (ah k + st / 4) (st % 4) b q := by unfold saV; rw [if_neg (fun z => q89 z.1), Int.add_zero]
      exact jn1 ((le ((k + 1) * 52 + (stB f size ah k st b q))) + (b * (f (49 + 3)))) hjv ls (lv_sub hl [1, 2, 3, 4, 5, 6, 7, 0] rfl)
    · skip
      refine lv_aload_n hx hb dX3_costThrough_92 rfl (lv_at hl 1 rfl) ?_
      refine lv_iload hx hb dX3_costThrough_93 (lv_at hl 6 rfl) ?_
      refine lv_iload_n hx hb dX3_costThrough_95 rfl (lv_at hl 3 rfl) ?_
      refine lv_iload hx hb dX3_costThrough_96 (lv_at hl 7 rfl) ?_
      refine fp_pV (As := [.int (iI ((ah k + st / 4) + 1)), .int (iI (st)), .int (iI ((((ah k + st / 4) + 1) + b) + q))]) (rest := []) (wsC := [(h, .inr (3, [.ref hc, .ref ra, .ref rl, .int (iI (size))])), (ra, .inr (5, [.ref aa])), (aa, fA cyI 13 ah), (rl, .inr (5, [.ref al])), (al, fA cyI 676 le), (hc, .inr (0, [.ref cr])), (cr, .inr (5, [.ref ca])), (ca, fA cyI 54 f)]) ⟨hx, hb, hml, hown, hts⟩ (c_X3_sidesAt l D cyI h hc ra rl size ((ah k + st / 4) + 1) st ((((ah k + st / 4) + 1) + b) + q) hg (by omega) (by omega) (by omega)) (cwV 3 hts gX3_costThrough_X3_sidesAt rfl rfl rfl (by decide +kernel) ⟨Nat.le_of_ble_eq_true rfl, Nat.le_of_ble_eq_true rfl⟩) hK hP hD [0] (by decide) rfl rfl rfl rfl hl.1 rfl (Nat.le_of_ble_eq_true rfl) dX3_costThrough_98 ⟨Nat.zero_le _, Nat.zero_le _⟩ ?_
      refine lv_iload hx hb dX3_costThrough_101 (lv_at hl 7 rfl) ?_
      refine fp_pS (As := [.int (iI ((((ah k + st / 4) + 1) + b) + q))]) (rest := [.int (iI (sdI size ((ah k + st / 4) + 1) (st % 4) ((((ah k + st / 4) + 1) + b) + q)))]) (wsC := [(h, .inr (3, [.ref hc, .ref ra, .ref rl, .int (iI (size))])), (ra, .inr (5, [.ref aa])), (aa, fA cyI 13 ah), (rl, .inr (5, [.ref al])), (al, fA cyI 676 le), (hc, .inr (0, [.ref cr])), (cr, .inr (5, [.ref ca])), (ca, fA cyI 54 f)]) ⟨hx, hb, hml, hown, hts⟩ (c_X3_bitOf l D cyI ((((ah k + st / 4) + 1) + b) + q) (by omega)) (va_cwS 1 hts gX3_costThrough_X3_bitOf rfl rfl rfl (by decide +kernel) ⟨Nat.le_of_ble_eq_true rfl, Nat.le_of_ble_eq_true rfl⟩) hK hP hD [] (by decide) rfl rfl hl.1 rfl (Nat.le_of_ble_eq_true rfl) dX3_costThrough_103 ⟨Nat.zero_le _, Nat.zero_le _⟩ ?_
      refine fp_iand hx hb (by omega) dX3_costThrough_106 ?_
      refine fp_if_ne (tgt := 123) hx hb (by omega) dX3_costThrough_107 (by decide) (fun q107 => ?_) (fun q107 => ?_)
      · skip
        have hjv : le ((k + 1) * 52 + stB f size ah k st b q) + b * f (49 + 3) = le ((k + 1) * 52 + stB f size ah k st b q) + b * f (49 + 3) + saV f size k (ah k + st / 4) (st % 4) b q := by unfold saV; rw [if_neg (fun z => q107 z.2), Int.add_zero]
        exact jn1 ((le ((k + 1) * 52 + (stB f size ah k st b q))) + (b * (f (49 + 3)))) hjv ls (lv_sub hl [1, 2, 3, 4, 5, 6, 7, 0] rfl)
      · skip
        have hjv : le ((k + 1) * 52 + stB f size ah k st b q) + b * f (49 + 3) + f (49 + 2) = le ((k + 1) * 52 + stB f size ah k st b q) + b * f (49 + 3) + saV f size k (ah k + st / 4) (st % 4) b q := by unfold saV; rw [if_pos ⟨q89, q107⟩]
        refine lv_iload hx hb dX3_costThrough_110 (lv_at hl 0 rfl) ?_
        refine lv_aload_n hx hb dX3_costThrough_112 rfl (lv_at hl 1 rfl) ?_
        refine va_get (D := D) (ci := 3) (ws := [(h, .inr (3, [.ref hc, .ref ra, .ref rl, .int (iI (size))])), (ra, .inr (5, [.ref aa])), (aa, fA cyI 13 ah), (rl, .inr (5, [.ref al])), (al, fA cyI 676 le), (hc, .inr (0, [.ref cr])), (cr, .inr (5, [.ref ca])), (ca, fA cyI 54 f)]) (v := .ref hc) (C := RX3) (T := TX3) (N := 4) hx hb hts (fun _ h => List.mem_cons_of_mem _ (List.mem_append_left _ (List.mem_append_left _ (List.mem_append_right _ h)))) hown hK.1 hP 0 rfl rfl 0 (by decide) (hts _ fl_X3_costThrough_14) (fun _ h9 => h9) rfl dX3_costThrough_113 ?_
        refine fp_iconst hx hb dX3_costThrough_116 ?_
        refine fp_pV (As := [.int (iI (2))]) (rest := [.int (iI ((le ((k + 1) * 52 + (stB f size ah k st b q))) + (b * (f (49 + 3)))))]) (wsC := [(h, .inr (3, [.ref hc, .ref ra, .ref rl, .int (iI (size))])), (ra, .inr (5, [.ref aa])), (aa, fA cyI 13 ah), (rl, .inr (5, [.ref al])), (al, fA cyI 676 le), (hc, .inr (0, [.ref cr])), (cr, .inr (5, [.ref ca])), (ca, fA cyI 54 f)]) ⟨hx, hb, hml, hown, hts⟩ (c_X0_setting l D cyI hc cr ca f 2 (by omega)) (cwV 1 hts gX3_costThrough_X0_setting rfl rfl rfl (by decide +kernel) ⟨Nat.le_of_ble_eq_true rfl, Nat.le_of_ble_eq_true rfl⟩) hK hP hD [5, 6, 7] (by decide) rfl rfl rfl rfl hl.1 rfl (Nat.le_of_ble_eq_true rfl) dX3_costThrough_117 ⟨Nat.zero_le _, Nat.zero_le _⟩ ?_
        refine fp_iadd hx hb dX3_costThrough_120 ?_
        refine lv_istore (lv' := [(7, .int (iI (((le ((k + 1) * 52 + (stB f size ah k st b q))) + (b * (f (49 + 3)))) + (f (49 + 2))))), (0, .ref h), (1, .int (iI (k))), (2, .int (iI (st))), (3, .int (iI (b))), (4, .int (iI (q))), (5, .int (iI ((ah k + st / 4) + 1))), (6, .int (iI ((((ah k + st / 4) + 1) + b) + q)))]) hx hb dX3_costThrough_121 hl (by decide) rfl (fun ls hl => ?_)
        exact jn1 (((le ((k + 1) * 52 + (stB f size ah k st b q))) + (b * (f (49 + 3)))) + (f (49 + 2))) hjv ls (lv_sub hl [1, 2, 3, 4, 5, 6, 7, 0] rfl)
  refine fp_if_eq (tgt := 51) hx hb (by omega) dX3_costThrough_27 (by decide) (fun q27 => ?_) (fun q27 => ?_)
  · skip
    have hjf : ¬ (¬ f (k * 4 + 2) = 0 ∧ facI (ah k + st / 4 + 1 + b + q) q (f (k * 4 + 1)) = 0) := fun z => z.1 q27
    exact jn0  hjf ls (lv_sub hl [2, 3, 4, 5, 6, 1, 0] rfl)
  · skip
    refine lv_iload hx hb dX3_costThrough_30 (lv_at hl 0 rfl) ?_
    refine lv_iload hx hb dX3_costThrough_32 (lv_at hl 6 rfl) ?_
    refine lv_aload_n hx hb dX3_costThrough_34 rfl (lv_at hl 2 rfl) ?_
    refine va_get (D := D) (ci := 3) (ws := [(h, .inr (3, [.ref hc, .ref ra, .ref rl, .int (iI (size))])), (ra, .inr (5, [.ref aa])), (aa, fA cyI 13 ah), (rl, .inr (5, [.ref al])), (al, fA cyI 676 le), (hc, .inr (0, [.ref cr])), (cr, .inr (5, [.ref ca])), (ca, fA cyI 54 f)]) (v := .ref hc) (C := RX3) (T := TX3) (N := 4) hx hb hts (fun _ h => List.mem_cons_of_mem _ (List.mem_append_left _ (List.mem_append_left _ (List.mem_append_right _ h)))) hown hK.1 hP 0 rfl rfl 0 (by decide) (hts _ fl_X3_costThrough_14) (fun _ h9 => h9) rfl dX3_costThrough_35 ?_
    refine lv_iload_n hx hb dX3_costThrough_38 rfl (lv_at hl 3 rfl) ?_
    refine fp_pV (As := [.int (iI (k))]) (rest := [.int (iI (q)), .int (iI ((((ah k + st / 4) + 1) + b) + q))]) (wsC := [(h, .inr (3, [.ref hc, .ref ra, .ref rl, .int (iI (size))])), (ra, .inr (5, [.ref aa])), (aa, fA cyI 13 ah), (rl, .inr (5, [.ref al])), (al, fA cyI 676 le), (hc, .inr (0, [.ref cr])), (cr, .inr (5, [.ref ca])), (ca, fA cyI 54 f)]) ⟨hx, hb, hml, hown, hts⟩ (c_X0_text l D cyI hc cr ca f k (by omega)) (cwV 1 hts gX3_costThrough_X0_text rfl rfl rfl (by decide +kernel) ⟨Nat.le_of_ble_eq_true rfl, Nat.le_of_ble_eq_true rfl⟩) hK hP hD [5, 6, 7] (by decide) rfl rfl rfl rfl hl.1 rfl (Nat.le_of_ble_eq_true rfl) dX3_costThrough_39 ⟨Nat.zero_le _, Nat.zero_le _⟩ ?_
    refine fp_pS (As := [.int (iI ((((ah k + st / 4) + 1) + b) + q)), .int (iI (q)), .int (iI (f (k * 4 + 1)))]) (rest := []) (wsC := [(h, .inr (3, [.ref hc, .ref ra, .ref rl, .int (iI (size))])), (ra, .inr (5, [.ref aa])), (aa, fA cyI 13 ah), (rl, .inr (5, [.ref al])), (al, fA cyI 676 le), (hc, .inr (0, [.ref cr])), (cr, .inr (5, [.ref ca])), (ca, fA cyI 54 f)]) ⟨hx, hb, hml, hown, hts⟩ (c_X3_faces l D cyI ((((ah k + st / 4) + 1) + b) + q) q (f (k * 4 + 1)) (by omega) (by omega) (by omega)) (va_cwS 3 hts gX3_costThrough_X3_faces rfl rfl rfl (by decide +kernel) ⟨Nat.le_of_ble_eq_true rfl, Nat.le_of_ble_eq_true rfl⟩) hK hP hD [] (by decide) rfl rfl hl.1 rfl (Nat.le_of_ble_eq_true rfl) dX3_costThrough_42 ⟨Nat.zero_le _, Nat.zero_le _⟩ ?_
    refine fp_if_ne (tgt := 51) hx hb (by have := bI_rg (q < f (k * 4 + 1)); have := bI_rg (0 < q); unfold facI; split <;> omega) dX3_costThrough_45 (by decide) (fun q45 => ?_) (fun q45 => ?_)
    · skip
      have hjf : ¬ (¬ f (k * 4 + 2) = 0 ∧ facI (ah k + st / 4 + 1 + b + q) q (f (k * 4 + 1)) = 0) := fun z => q45 z.2
      exact jn0  hjf ls (lv_sub hl [2, 3, 4, 5, 6, 1, 0] rfl)
    · skip
      refine fp_ldc hx hb (1000000) rfl hown (hts _ ck_X3_costThrough_59) dX3_costThrough_48 ?_
      have hret : (ctR f size ah le k st b q : Int) = 1000000 := (by unfold ctR ctV; rw [if_pos ⟨q27, q45⟩])
      exact fp_ret hx hb hr hlocks dX3_costThrough_50 (congrArg (fun z : Int => Value.int (iI z)) hret)
