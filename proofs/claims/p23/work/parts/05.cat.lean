/-! pure words: sums, lots, catalogues -/
def sumI : Nat → (Int → Int) → Int
  | 0, _ => 0
  | n + 1, f => sumI n f + f (n : Int)
theorem sumI_0 (f : Int → Int) : sumI (0 : Int).toNat f = 0 := rfl
theorem sumI_s {k : Int} (f : Int → Int) (h : 0 ≤ k) : sumI (k + 1).toNat f = sumI k.toNat f + f k := by
  obtain ⟨n, rfl⟩ := Int.eq_ofNat_of_zero_le h
  rfl
theorem sumI_c {f g : Int → Int} : ∀ (n : Nat), (∀ k : Int, 0 ≤ k → k < n → f k = g k) → sumI n f = sumI n g := by
  intro n
  induction n with
  | zero => intro _; rfl
  | succ n ih =>
    intro h
    show sumI n f + f n = sumI n g + g n
    rw [ih (fun k h1 h2 => h k h1 (by omega)), h n (by omega) (by omega)]
theorem sumI_b {f : Int → Int} {lo hi : Int} : ∀ (n : Nat), (∀ k : Int, 0 ≤ k → k < n → lo ≤ f k ∧ f k ≤ hi) → lo * n ≤ sumI n f ∧ sumI n f ≤ hi * n := by
  intro n
  induction n with
  | zero => intro _; simp [sumI]
  | succ n ih =>
    intro h
    have h1 := ih (fun k h1 h2 => h k h1 (by omega))
    have h2 := h n (by omega) (by omega)
    have e1 : sumI (n + 1) f = sumI n f + f n := rfl
    rw [e1, show ((n + 1 : Nat) : Int) = (n : Int) + 1 from rfl, Int.mul_add, Int.mul_add]
    omega
def LotOK (t p b q : Int) : Prop := 1 ≤ t ∧ t ≤ 3 ∧ 0 ≤ p ∧ p ≤ 2 ∧ 0 ≤ b ∧ b ≤ 1 ∧ 0 ≤ q ∧ q ≤ t ∧ (p = 0 → q = 0)
def SetOK (g a b d e : Int) : Prop := (g = 4 ∨ g = 8 ∨ g = 16) ∧ 0 ≤ a ∧ a ≤ 99 ∧ 0 ≤ b ∧ b ≤ 99 ∧ 0 ≤ d ∧ d ≤ 99 ∧ 0 ≤ e ∧ e ≤ 999
def CatOK (c : Int → Int) : Prop := (0 ≤ c 0 ∧ c 0 ≤ 12) ∧ (∀ k : Int, 0 ≤ k → k < c 0 → LotOK (c (k * 4 + 1)) (c (k * 4 + 2)) (c (k * 4 + 3)) (c (k * 4 + 4))) ∧ SetOK (c (49 + 0)) (c (49 + 1)) (c (49 + 2)) (c (49 + 3)) (c (49 + 4))
def lenC (c : Int → Int) (k : Int) : Int := c (k * 4 + 1) + bI (¬ c (k * 4 + 2) = 0)
def itsC (c : Int → Int) (k : Int) : Int := c (k * 4 + 3) + lenC c k
def pgC (c : Int → Int) (k : Int) : Int := sumI k.toNat (itsC c)
def blC (c : Int → Int) : Int := sumI (c 0).toNat (fun k => c (k * 4 + 3))
def plC (c : Int → Int) (p : Int) : Int := sumI (c 0).toNat (fun k => bI (c (k * 4 + 2) = p))
def mostC (c : Int → Int) (k : Int) : Int := if c (k * 4 + 2) = 0 then 0 else c (k * 4 + 1)
def gcC (c : Int → Int) : Int := c (49 + 1) + c (49 + 4) / 10
def choL (c : Int → Int) (k b q : Int) : Int → Int := upI (upI c (k * 4 + 3) b) (k * 4 + 4) q
def putL (c : Int → Int) (k t p b q : Int) : Int → Int := choL (upI (upI c (k * 4 + 1) t) (k * 4 + 2) p) k b q
def appL (c : Int → Int) (t p b q : Int) : Int → Int := if c 0 < 12 then upI (putL c (c 0) t p b q) 0 (c 0 + 1) else c
def movI (lot to x : Int) : Int := if x = to then lot else if lot ≤ x ∧ x < to then x + 1 else if to < x ∧ x ≤ lot then x - 1 else x
def shL (c : Int → Int) (lot to : Int) : Int → Int := fun j => if 1 ≤ j ∧ j ≤ 48 then c (movI lot to ((j - 1) / 4) * 4 + 1 + (j - 1) % 4) else c j
def cpI (f g : Int → Int) (to fr len : Int) : Int → Int := fun j => if to ≤ j ∧ j < to + len then g (fr + (j - to)) else f j
theorem cpI_0 (f g : Int → Int) (to fr : Int) : cpI f g to fr 0 = f := by
  funext j
  exact if_neg (by omega)
theorem cpI_s (f g : Int → Int) (to fr i : Int) (h : 0 ≤ i) : upI (cpI f g to fr i) (to + i) (g (fr + i)) = cpI f g to fr (i + 1) := by
  funext j
  unfold upI cpI
  by_cases e : j = to + i
  · rw [if_pos e, if_pos (by omega)]
    congr 1
    omega
  · rw [if_neg e]
    by_cases e2 : to ≤ j ∧ j < to + i
    · rw [if_pos e2, if_pos (by omega)]
    · rw [if_neg e2, if_neg (by omega)]
theorem cpI_out {f g : Int → Int} {to fr len j : Int} (h : ¬ (to ≤ j ∧ j < to + len)) : cpI f g to fr len j = f j := if_neg h
theorem cpI_in {f g : Int → Int} {to fr len j : Int} (h : to ≤ j ∧ j < to + len) : cpI f g to fr len j = g (fr + (j - to)) := if_pos h
/-- the first n cells agree, as the loop tells it -/
def sameI (f g : Int → Int) : Nat → Int
  | 0 => bI (f 0 = g 0)
  | n + 1 => if sameI f g n = 1 ∧ f ((n : Int) + 1) = g ((n : Int) + 1) then 1 else 0
theorem sameI_01 (f g : Int → Int) (n : Nat) : sameI f g n = 0 ∨ sameI f g n = 1 := by
  cases n with
  | zero => exact bI_01 _
  | succ n =>
    show (if _ then _ else _) = _ ∨ (if _ then _ else _) = _
    split <;> simp
theorem sameI_s {f g : Int → Int} {k : Int} (h : 1 ≤ k) : sameI f g k.toNat = if sameI f g (k - 1).toNat = 1 ∧ f k = g k then 1 else 0 := by
  obtain ⟨n, rfl⟩ : ∃ n : Nat, k = (n : Int) + 1 := ⟨(k - 1).toNat, by omega⟩
  rw [show ((n : Int) + 1).toNat = n + 1 by omega, show ((n : Int) + 1 - 1).toNat = n by omega]
  rfl
theorem sameI_iff {f g : Int → Int} : ∀ n : Nat, sameI f g n = 1 ↔ ∀ j : Int, 0 ≤ j → j ≤ n → f j = g j := by
  intro n
  induction n with
  | zero =>
    constructor
    · intro h j h1 h2
      rw [show j = 0 by omega]
      exact Decidable.byContradiction fun q => by
        have h3 : bI (f 0 = g 0) = 1 := h
        rw [bI_f q] at h3
        omega
    · intro h
      exact bI_t (h 0 (by omega) (by omega))
  | succ n ih =>
    constructor
    · intro h j h1 h2
      have h3 : (if sameI f g n = 1 ∧ f ((n : Int) + 1) = g ((n : Int) + 1) then (1 : Int) else 0) = 1 := h
      split at h3
      · rename_i h4
        by_cases e : j = (n : Int) + 1
        · rw [e]
          exact h4.2
        · exact ih.mp h4.1 j h1 (by omega)
      · omega
    · intro h
      show (if _ then _ else _) = _
      rw [if_pos ⟨ih.mpr (fun j h1 h2 => h j h1 (by omega)), h _ (by omega) (by omega)⟩]
def shfI (d : Int → Int) (fr : Int) : Int → Int := fun j => d (fr + j)
set_option maxHeartbeats 4000000 in
set_option maxRecDepth 100000 in
theorem c_X0_mostPlace (l : Launch) (D : va_G) (cyI : ClassId) (h : Nat) (r : Nat) (a : Nat) (c : Int → Int) (k : Int) (hC : CatOK c) (hk : 0 ≤ k ∧ k < c 0) : fp_M l yX0_mostPlace wsX0_mostPlace ({ frames := 2, cells := 0, slots := 0, locals := 42 } : Room) D cyI [(h, .inr (0, [.ref r])), (r, .inr (5, [.ref a])), (a, fA cyI 54 c)] [.ref h, .int (iI (k))] (some (.int (iI (mostC c k)))) := by
  refine fp_start (cc := cX0_mostPlace) (maxL := 2) (ret := (some .int)) (by decide) rfl (Nat.le_of_ble_eq_true rfl) ?_
  intro pg en sx mi ar bl mt cd ls hx hb hr hts hown hlocks hml hnm hP hK hD hl
  have hown : sx.vm.findClass RX0 = some mi.cls := hown
  have hl : lv_has ls 2 [(0, .ref h), (1, .int (iI (k)))] := hl
  have hL := hC.2.1 k hk.1 hk.2
  unfold LotOK at hL
  have hN := hC.1
  refine lv_aload_n hx hb dX0_mostPlace_0 rfl (lv_at hl 0 rfl) ?_
  refine lv_iload_n hx hb dX0_mostPlace_1 rfl (lv_at hl 1 rfl) ?_
  refine fp_pV (As := [.int (iI (k))]) (rest := []) (wsC := [(h, .inr (0, [.ref r])), (r, .inr (5, [.ref a])), (a, fA cyI 54 c)]) ⟨hx, hb, hml, hown, hts⟩ (c_X0_plate l D cyI h r a c k (by omega)) (cwV 1 hts gX0_mostPlace_X0_plate rfl rfl rfl (by decide +kernel) ⟨Nat.le_of_ble_eq_true rfl, Nat.le_of_ble_eq_true rfl⟩) hK hP hD [0, 1, 2] (by decide) rfl rfl rfl rfl hl.1 rfl (Nat.le_of_ble_eq_true rfl) dX0_mostPlace_2 ⟨Nat.zero_le _, Nat.zero_le _⟩ ?_
  refine fp_if_ne (tgt := 12) hx hb (by omega) dX0_mostPlace_5 (by decide) (fun q5 => ?_) (fun q5 => ?_)
  · skip
    refine lv_aload_n hx hb dX0_mostPlace_12 rfl (lv_at hl 0 rfl) ?_
    refine lv_iload_n hx hb dX0_mostPlace_13 rfl (lv_at hl 1 rfl) ?_
    refine fp_pV (As := [.int (iI (k))]) (rest := []) (wsC := [(h, .inr (0, [.ref r])), (r, .inr (5, [.ref a])), (a, fA cyI 54 c)]) ⟨hx, hb, hml, hown, hts⟩ (c_X0_text l D cyI h r a c k (by omega)) (cwV 1 hts gX0_mostPlace_X0_text rfl rfl rfl (by decide +kernel) ⟨Nat.le_of_ble_eq_true rfl, Nat.le_of_ble_eq_true rfl⟩) hK hP hD [0, 1, 2] (by decide) rfl rfl rfl rfl hl.1 rfl (Nat.le_of_ble_eq_true rfl) dX0_mostPlace_14 ⟨Nat.zero_le _, Nat.zero_le _⟩ ?_
    have hret : (mostC c k : Int) = c (k * 4 + 1) := (by unfold mostC; split <;> first | rfl | omega)
    exact fp_ret hx hb hr hlocks dX0_mostPlace_17 (congrArg (fun z : Int => Value.int (iI z)) hret)
  · skip
    refine fp_iconst hx hb dX0_mostPlace_8 ?_
    refine lv_goto (tgt := 17) hx hb dX0_mostPlace_9 (by decide) ?_
    have hret : (mostC c k : Int) = 0 := (by unfold mostC; split <;> first | rfl | omega)
    exact fp_ret hx hb hr hlocks dX0_mostPlace_17 (congrArg (fun z : Int => Value.int (iI z)) hret)
set_option maxHeartbeats 4000000 in
set_option maxRecDepth 100000 in
theorem c_X0_allows (l : Launch) (D : va_G) (cyI : ClassId) (h : Nat) (r : Nat) (a : Nat) (c : Int → Int) (k : Int) (q : Int) (hC : CatOK c) (hk : 0 ≤ k ∧ k < c 0) (hq : -2147483648 ≤ q ∧ q ≤ 2147483647) : fp_M l yX0_allows wsX0_allows ({ frames := 3, cells := 0, slots := 0, locals := 63 } : Room) D cyI [(h, .inr (0, [.ref r])), (r, .inr (5, [.ref a])), (a, fA cyI 54 c)] [.ref h, .int (iI (k)), .int (iI (q))] (some (.int (iI (bI (0 ≤ q ∧ q ≤ mostC c k))))) := by
  refine fp_start (cc := cX0_allows) (maxL := 3) (ret := (some .boolean)) (by decide) rfl (Nat.le_of_ble_eq_true rfl) ?_
  intro pg en sx mi ar bl mt cd ls hx hb hr hts hown hlocks hml hnm hP hK hD hl
  have hown : sx.vm.findClass RX0 = some mi.cls := hown
  have hl : lv_has ls 3 [(0, .ref h), (1, .int (iI (k))), (2, .int (iI (q)))] := hl
  have hL := hC.2.1 k hk.1 hk.2
  unfold LotOK at hL
  have hN := hC.1
  have hM : 0 ≤ mostC c k ∧ mostC c k ≤ 3 := by unfold mostC; split <;> omega
  refine lv_iload_n hx hb dX0_allows_0 rfl (lv_at hl 2 rfl) ?_
  refine fp_if_lt (tgt := 17) hx hb (by omega) dX0_allows_1 (by decide) (fun q1 => ?_) (fun q1 => ?_)
  · skip
    refine fp_iconst hx hb dX0_allows_17 ?_
    have hret : (bI (0 ≤ q ∧ q ≤ mostC c k) : Int) = 0 := (by first | rfl | omega | (unfold bI; split <;> first | rfl | omega))
    exact fp_zret hx hb hr hlocks (by first | exact Or.inl rfl | exact Or.inr rfl | exact bI_01 _ | omega) dX0_allows_18 (congrArg (fun z : Int => Value.int (iI z)) hret)
  · skip
    refine lv_iload_n hx hb dX0_allows_4 rfl (lv_at hl 2 rfl) ?_
    refine lv_aload_n hx hb dX0_allows_5 rfl (lv_at hl 0 rfl) ?_
    refine lv_iload_n hx hb dX0_allows_6 rfl (lv_at hl 1 rfl) ?_
    refine fp_pV (As := [.int (iI (k))]) (rest := [.int (iI (q))]) (wsC := [(h, .inr (0, [.ref r])), (r, .inr (5, [.ref a])), (a, fA cyI 54 c)]) ⟨hx, hb, hml, hown, hts⟩ (c_X0_mostPlace l D cyI h r a c k hC hk) (cwV 1 hts gX0_allows_X0_mostPlace rfl rfl rfl (by decide +kernel) ⟨Nat.le_of_ble_eq_true rfl, Nat.le_of_ble_eq_true rfl⟩) hK hP hD [0, 1, 2] (by decide) rfl rfl rfl rfl hl.1 rfl (Nat.le_of_ble_eq_true rfl) dX0_allows_7 ⟨Nat.zero_le _, Nat.zero_le _⟩ ?_
    refine fp_icmp_gt (tgt := 17) hx hb (by omega) dX0_allows_10 (by decide) (fun q10 => ?_) (fun q10 => ?_)
    · skip
      refine fp_iconst hx hb dX0_allows_17 ?_
      have hret : (bI (0 ≤ q ∧ q ≤ mostC c k) : Int) = 0 := (by first | rfl | omega | (unfold bI; split <;> first | rfl | omega))
      exact fp_zret hx hb hr hlocks (by first | exact Or.inl rfl | exact Or.inr rfl | exact bI_01 _ | omega) dX0_allows_18 (congrArg (fun z : Int => Value.int (iI z)) hret)
    · skip
      refine fp_iconst hx hb dX0_allows_13 ?_
      refine lv_goto (tgt := 18) hx hb dX0_allows_14 (by decide) ?_
      have hret : (bI (0 ≤ q ∧ q ≤ mostC c k) : Int) = 1 := (by first | rfl | omega | (unfold bI; split <;> first | rfl | omega))
      exact fp_zret hx hb hr hlocks (by first | exact Or.inl rfl | exact Or.inr rfl | exact bI_01 _ | omega) dX0_allows_18 (congrArg (fun z : Int => Value.int (iI z)) hret)
set_option maxHeartbeats 4000000 in
set_option maxRecDepth 100000 in
theorem c_X0_ownPages (l : Launch) (D : va_G) (cyI : ClassId) (h : Nat) (r : Nat) (a : Nat) (c : Int → Int) (k : Int) (hC : CatOK c) (hk : 0 ≤ k ∧ k < c 0) : fp_M l yX0_ownPages wsX0_ownPages ({ frames := 2, cells := 0, slots := 0, locals := 42 } : Room) D cyI [(h, .inr (0, [.ref r])), (r, .inr (5, [.ref a])), (a, fA cyI 54 c)] [.ref h, .int (iI (k))] (some (.int (iI (lenC c k)))) := by
  refine fp_start (cc := cX0_ownPages) (maxL := 2) (ret := (some .int)) (by decide) rfl (Nat.le_of_ble_eq_true rfl) ?_
  intro pg en sx mi ar bl mt cd ls hx hb hr hts hown hlocks hml hnm hP hK hD hl
  have hown : sx.vm.findClass RX0 = some mi.cls := hown
  have hl : lv_has ls 2 [(0, .ref h), (1, .int (iI (k)))] := hl
  have hL := hC.2.1 k hk.1 hk.2
  unfold LotOK at hL
  have hN := hC.1
  refine lv_aload_n hx hb dX0_ownPages_0 rfl (lv_at hl 0 rfl) ?_
  refine lv_iload_n hx hb dX0_ownPages_1 rfl (lv_at hl 1 rfl) ?_
  refine fp_pV (As := [.int (iI (k))]) (rest := []) (wsC := [(h, .inr (0, [.ref r])), (r, .inr (5, [.ref a])), (a, fA cyI 54 c)]) ⟨hx, hb, hml, hown, hts⟩ (c_X0_text l D cyI h r a c k (by omega)) (cwV 1 hts gX0_ownPages_X0_text rfl rfl rfl (by decide +kernel) ⟨Nat.le_of_ble_eq_true rfl, Nat.le_of_ble_eq_true rfl⟩) hK hP hD [0, 1, 2] (by decide) rfl rfl rfl rfl hl.1 rfl (Nat.le_of_ble_eq_true rfl) dX0_ownPages_2 ⟨Nat.zero_le _, Nat.zero_le _⟩ ?_
  refine lv_aload_n hx hb dX0_ownPages_5 rfl (lv_at hl 0 rfl) ?_
  refine lv_iload_n hx hb dX0_ownPages_6 rfl (lv_at hl 1 rfl) ?_
  refine fp_pV (As := [.int (iI (k))]) (rest := [.int (iI (c (k * 4 + 1)))]) (wsC := [(h, .inr (0, [.ref r])), (r, .inr (5, [.ref a])), (a, fA cyI 54 c)]) ⟨hx, hb, hml, hown, hts⟩ (c_X0_plate l D cyI h r a c k (by omega)) (cwV 1 hts gX0_ownPages_X0_plate rfl rfl rfl (by decide +kernel) ⟨Nat.le_of_ble_eq_true rfl, Nat.le_of_ble_eq_true rfl⟩) hK hP hD [0, 1, 2] (by decide) rfl rfl rfl rfl hl.1 rfl (Nat.le_of_ble_eq_true rfl) dX0_ownPages_7 ⟨Nat.zero_le _, Nat.zero_le _⟩ ?_
  refine fp_if_ne (tgt := 17) hx hb (by omega) dX0_ownPages_10 (by decide) (fun q10 => ?_) (fun q10 => ?_)
  · skip
    refine fp_iconst hx hb dX0_ownPages_17 ?_
    refine fp_iadd hx hb dX0_ownPages_18 ?_
    have hret : (lenC c k : Int) = (c (k * 4 + 1)) + 1 := (by unfold lenC; first | rw [bI_f (by omega)] | rw [bI_t (by omega)])
    exact fp_ret hx hb hr hlocks dX0_ownPages_19 (congrArg (fun z : Int => Value.int (iI z)) hret)
  · skip
    refine fp_iconst hx hb dX0_ownPages_13 ?_
    refine lv_goto (tgt := 18) hx hb dX0_ownPages_14 (by decide) ?_
    refine fp_iadd hx hb dX0_ownPages_18 ?_
    have hret : (lenC c k : Int) = (c (k * 4 + 1)) + 0 := (by unfold lenC; first | rw [bI_f (by omega)] | rw [bI_t (by omega)])
    exact fp_ret hx hb hr hlocks dX0_ownPages_19 (congrArg (fun z : Int => Value.int (iI z)) hret)
set_option maxHeartbeats 4000000 in
set_option maxRecDepth 100000 in
theorem c_X0_pages (l : Launch) (D : va_G) (cyI : ClassId) (h : Nat) (r : Nat) (a : Nat) (c : Int → Int) (hC : CatOK c) : fp_M l yX0_pages wsX0_pages ({ frames := 3, cells := 0, slots := 0, locals := 63 } : Room) D cyI [(h, .inr (0, [.ref r])), (r, .inr (5, [.ref a])), (a, fA cyI 54 c)] [.ref h] (some (.int (iI (pgC c (c 0))))) := by
  refine fp_start (cc := cX0_pages) (maxL := 3) (ret := (some .int)) (by decide) rfl (Nat.le_of_ble_eq_true rfl) ?_
  intro pg en sx mi ar bl mt cd ls hx hb hr hts hown hlocks hml hnm hP hK hD hl
  have hown : sx.vm.findClass RX0 = some mi.cls := hown
  have hl : lv_has ls 3 [(0, .ref h)] := hl
  have hN := hC.1
  refine fp_iconst hx hb dX0_pages_0 ?_
  refine lv_istore_n (lv' := [(1, .int (iI (0))), (0, .ref h)]) hx hb dX0_pages_1 rfl hl (by decide) rfl (fun ls hl => ?_)
  refine fp_iconst hx hb dX0_pages_2 ?_
  refine lv_istore_n (lv' := [(2, .int (iI (0))), (1, .int (iI (0))), (0, .ref h)]) hx hb dX0_pages_3 rfl hl (by decide) rfl (fun ls hl => ?_)
  have hl := lv_sub hl (l' := [(0, .ref h), (1, .int (iI (0))), (2, .int (iI (0)))]) [2, 1, 0] rfl
  have lp0 : ∀ (nf : Nat) (x : Int) (k : Int), (0 ≤ k ∧ k ≤ c 0) → (x = pgC c k) → (c 0 + 1 ≤ k + (nf : Int)) → ∀ (ls : Array Slot), lv_has ls 3 [(0, .ref h), (1, .int (iI (x))), (2, .int (iI (k)))] → W pg l en ({ frames := 3, cells := 0, slots := 0, locals := 63 } : Room) sx mi ar bl mt cd sx.heap [] 0 0 (MQ bl (fp_Qp (some (.int (iI (pgC c (c 0)))))) ar sx 0 0 (fun _ => False)) (F0 mi 4 ls []) := by
    intro nf
    induction nf with
    | zero =>
      intro x k ik ix hfuel
      exact absurd hfuel (by omega)
    | succ nf ih0 =>
      intro x k ik ix hfuel ls hl
      refine lv_iload_n hx hb dX0_pages_4 rfl (lv_at hl 2 rfl) ?_
      refine lv_aload_n hx hb dX0_pages_5 rfl (lv_at hl 0 rfl) ?_
      refine fp_pV (As := []) (rest := [.int (iI (k))]) (wsC := [(h, .inr (0, [.ref r])), (r, .inr (5, [.ref a])), (a, fA cyI 54 c)]) ⟨hx, hb, hml, hown, hts⟩ (c_X0_lots l D cyI h r a c) (cwV 0 hts gX0_pages_X0_lots rfl rfl rfl (by decide +kernel) ⟨Nat.le_of_ble_eq_true rfl, Nat.le_of_ble_eq_true rfl⟩) hK hP hD [0, 1, 2] (by decide) rfl rfl rfl rfl hl.1 rfl (Nat.le_of_ble_eq_true rfl) dX0_pages_6 ⟨Nat.zero_le _, Nat.zero_le _⟩ ?_
      refine fp_icmp_ge (tgt := 32) hx hb (by omega) dX0_pages_9 (by decide) (fun q9 => ?_) (fun q9 => ?_)
      · skip
        refine lv_iload_n hx hb dX0_pages_32 rfl (lv_at hl 1 rfl) ?_
        have hret : (pgC c (c 0) : Int) = x := (by rw [ix]; congr 1; omega)
        exact fp_ret hx hb hr hlocks dX0_pages_33 (congrArg (fun z : Int => Value.int (iI z)) hret)
      · skip
        refine lv_iload_n hx hb dX0_pages_12 rfl (lv_at hl 1 rfl) ?_
        refine lv_aload_n hx hb dX0_pages_13 rfl (lv_at hl 0 rfl) ?_
        refine lv_iload_n hx hb dX0_pages_14 rfl (lv_at hl 2 rfl) ?_
        refine fp_pV (As := [.int (iI (k))]) (rest := [.int (iI (x))]) (wsC := [(h, .inr (0, [.ref r])), (r, .inr (5, [.ref a])), (a, fA cyI 54 c)]) ⟨hx, hb, hml, hown, hts⟩ (c_X0_blank l D cyI h r a c k (by omega)) (cwV 1 hts gX0_pages_X0_blank rfl rfl rfl (by decide +kernel) ⟨Nat.le_of_ble_eq_true rfl, Nat.le_of_ble_eq_true rfl⟩) hK hP hD [0, 1, 2] (by decide) rfl rfl rfl rfl hl.1 rfl (Nat.le_of_ble_eq_true rfl) dX0_pages_15 ⟨Nat.zero_le _, Nat.zero_le _⟩ ?_
        refine lv_aload_n hx hb dX0_pages_18 rfl (lv_at hl 0 rfl) ?_
        refine lv_iload_n hx hb dX0_pages_19 rfl (lv_at hl 2 rfl) ?_
        refine fp_pV (As := [.int (iI (k))]) (rest := [.int (iI (c (k * 4 + 3))), .int (iI (x))]) (wsC := [(h, .inr (0, [.ref r])), (r, .inr (5, [.ref a])), (a, fA cyI 54 c)]) ⟨hx, hb, hml, hown, hts⟩ (c_X0_ownPages l D cyI h r a c k hC (by omega)) (cwV 1 hts gX0_pages_X0_ownPages rfl rfl rfl (by decide +kernel) ⟨Nat.le_of_ble_eq_true rfl, Nat.le_of_ble_eq_true rfl⟩) hK hP hD [0, 1, 2] (by decide) rfl rfl rfl rfl hl.1 rfl (Nat.le_of_ble_eq_true rfl) dX0_pages_20 ⟨Nat.zero_le _, Nat.zero_le _⟩ ?_
        refine fp_iadd hx hb dX0_pages_23 ?_
        refine fp_iadd hx hb dX0_pages_24 ?_
        refine lv_istore_n (lv' := [(1, .int (iI (x + ((c (k * 4 + 3)) + (lenC c k))))), (0, .ref h), (2, .int (iI (k)))]) hx hb dX0_pages_25 rfl hl (by decide) rfl (fun ls hl => ?_)
        refine fp_iinc (k := 2) (lv' := [(2, .int (iI (k + 1))), (1, .int (iI (x + ((c (k * 4 + 3)) + (lenC c k))))), (0, .ref h)]) hx hb dX0_pages_26 hl rfl (by decide) rfl (fun ls hl => ?_)
        refine lv_goto (tgt := 4) hx hb dX0_pages_29 (by decide) ?_
        exact ih0 (x + ((c (k * 4 + 3)) + (lenC c k))) (k + 1) (by omega) (by rw [ix]; unfold pgC; rw [sumI_s _ ik.1]; rfl) (by omega) ls (lv_sub hl [2, 1, 0] rfl)
  exact lp0 (((c 0 : Int) + 1 - (0)).toNat) 0 0 (by omega) rfl (by omega) ls hl
set_option maxHeartbeats 4000000 in
set_option maxRecDepth 100000 in
theorem c_X0_blanks (l : Launch) (D : va_G) (cyI : ClassId) (h : Nat) (r : Nat) (a : Nat) (c : Int → Int) (hC : CatOK c) : fp_M l yX0_blanks wsX0_blanks ({ frames := 2, cells := 0, slots := 0, locals := 42 } : Room) D cyI [(h, .inr (0, [.ref r])), (r, .inr (5, [.ref a])), (a, fA cyI 54 c)] [.ref h] (some (.int (iI (blC c)))) := by
  refine fp_start (cc := cX0_blanks) (maxL := 3) (ret := (some .int)) (by decide) rfl (Nat.le_of_ble_eq_true rfl) ?_
  intro pg en sx mi ar bl mt cd ls hx hb hr hts hown hlocks hml hnm hP hK hD hl
  have hown : sx.vm.findClass RX0 = some mi.cls := hown
  have hl : lv_has ls 3 [(0, .ref h)] := hl
  have hN := hC.1
  refine fp_iconst hx hb dX0_blanks_0 ?_
  refine lv_istore_n (lv' := [(1, .int (iI (0))), (0, .ref h)]) hx hb dX0_blanks_1 rfl hl (by decide) rfl (fun ls hl => ?_)
  refine fp_iconst hx hb dX0_blanks_2 ?_
  refine lv_istore_n (lv' := [(2, .int (iI (0))), (1, .int (iI (0))), (0, .ref h)]) hx hb dX0_blanks_3 rfl hl (by decide) rfl (fun ls hl => ?_)
  have hl := lv_sub hl (l' := [(0, .ref h), (1, .int (iI (0))), (2, .int (iI (0)))]) [2, 1, 0] rfl
  have lp0 : ∀ (nf : Nat) (x : Int) (k : Int), (0 ≤ k ∧ k ≤ c 0) → (x = sumI k.toNat (fun k => c (k * 4 + 3))) → (c 0 + 1 ≤ k + (nf : Int)) → ∀ (ls : Array Slot), lv_has ls 3 [(0, .ref h), (1, .int (iI (x))), (2, .int (iI (k)))] → W pg l en ({ frames := 2, cells := 0, slots := 0, locals := 42 } : Room) sx mi ar bl mt cd sx.heap [] 0 0 (MQ bl (fp_Qp (some (.int (iI (blC c))))) ar sx 0 0 (fun _ => False)) (F0 mi 4 ls []) := by
    intro nf
    induction nf with
    | zero =>
      intro x k ik ix hfuel
      exact absurd hfuel (by omega)
    | succ nf ih0 =>
      intro x k ik ix hfuel ls hl
      refine lv_iload_n hx hb dX0_blanks_4 rfl (lv_at hl 2 rfl) ?_
      refine lv_aload_n hx hb dX0_blanks_5 rfl (lv_at hl 0 rfl) ?_
      refine fp_pV (As := []) (rest := [.int (iI (k))]) (wsC := [(h, .inr (0, [.ref r])), (r, .inr (5, [.ref a])), (a, fA cyI 54 c)]) ⟨hx, hb, hml, hown, hts⟩ (c_X0_lots l D cyI h r a c) (cwV 0 hts gX0_blanks_X0_lots rfl rfl rfl (by decide +kernel) ⟨Nat.le_of_ble_eq_true rfl, Nat.le_of_ble_eq_true rfl⟩) hK hP hD [0, 1, 2] (by decide) rfl rfl rfl rfl hl.1 rfl (Nat.le_of_ble_eq_true rfl) dX0_blanks_6 ⟨Nat.zero_le _, Nat.zero_le _⟩ ?_
      refine fp_icmp_ge (tgt := 26) hx hb (by omega) dX0_blanks_9 (by decide) (fun q9 => ?_) (fun q9 => ?_)
      · skip
        refine lv_iload_n hx hb dX0_blanks_26 rfl (lv_at hl 1 rfl) ?_
        have hret : (blC c : Int) = x := (by unfold blC; rw [ix]; congr 2; omega)
        exact fp_ret hx hb hr hlocks dX0_blanks_27 (congrArg (fun z : Int => Value.int (iI z)) hret)
      · skip
        refine lv_iload_n hx hb dX0_blanks_12 rfl (lv_at hl 1 rfl) ?_
        refine lv_aload_n hx hb dX0_blanks_13 rfl (lv_at hl 0 rfl) ?_
        refine lv_iload_n hx hb dX0_blanks_14 rfl (lv_at hl 2 rfl) ?_
        refine fp_pV (As := [.int (iI (k))]) (rest := [.int (iI (x))]) (wsC := [(h, .inr (0, [.ref r])), (r, .inr (5, [.ref a])), (a, fA cyI 54 c)]) ⟨hx, hb, hml, hown, hts⟩ (c_X0_blank l D cyI h r a c k (by omega)) (cwV 1 hts gX0_blanks_X0_blank rfl rfl rfl (by decide +kernel) ⟨Nat.le_of_ble_eq_true rfl, Nat.le_of_ble_eq_true rfl⟩) hK hP hD [0, 1, 2] (by decide) rfl rfl rfl rfl hl.1 rfl (Nat.le_of_ble_eq_true rfl) dX0_blanks_15 ⟨Nat.zero_le _, Nat.zero_le _⟩ ?_
        refine fp_iadd hx hb dX0_blanks_18 ?_
        refine lv_istore_n (lv' := [(1, .int (iI (x + (c (k * 4 + 3))))), (0, .ref h), (2, .int (iI (k)))]) hx hb dX0_blanks_19 rfl hl (by decide) rfl (fun ls hl => ?_)
        refine fp_iinc (k := 2) (lv' := [(2, .int (iI (k + 1))), (1, .int (iI (x + (c (k * 4 + 3))))), (0, .ref h)]) hx hb dX0_blanks_20 hl rfl (by decide) rfl (fun ls hl => ?_)
        refine lv_goto (tgt := 4) hx hb dX0_blanks_23 (by decide) ?_
        exact ih0 (x + (c (k * 4 + 3))) (k + 1) (by omega) (by rw [ix, sumI_s _ ik.1]) (by omega) ls (lv_sub hl [2, 1, 0] rfl)
  exact lp0 (((c 0 : Int) + 1 - (0)).toNat) 0 0 (by omega) rfl (by omega) ls hl
set_option maxHeartbeats 4000000 in
set_option maxRecDepth 100000 in
theorem c_X0_plates (l : Launch) (D : va_G) (cyI : ClassId) (h : Nat) (r : Nat) (a : Nat) (c : Int → Int) (p : Int) (hC : CatOK c) (hp : 0 ≤ p ∧ p ≤ 2) : fp_M l yX0_plates wsX0_plates ({ frames := 2, cells := 0, slots := 0, locals := 42 } : Room) D cyI [(h, .inr (0, [.ref r])), (r, .inr (5, [.ref a])), (a, fA cyI 54 c)] [.ref h, .int (iI (p))] (some (.int (iI (plC c p)))) := by
  refine fp_start (cc := cX0_plates) (maxL := 4) (ret := (some .int)) (by decide) rfl (Nat.le_of_ble_eq_true rfl) ?_
  intro pg en sx mi ar bl mt cd ls hx hb hr hts hown hlocks hml hnm hP hK hD hl
  have hown : sx.vm.findClass RX0 = some mi.cls := hown
  have hl : lv_has ls 4 [(0, .ref h), (1, .int (iI (p)))] := hl
  have hN := hC.1
  refine fp_iconst hx hb dX0_plates_0 ?_
  refine lv_istore_n (lv' := [(2, .int (iI (0))), (0, .ref h), (1, .int (iI (p)))]) hx hb dX0_plates_1 rfl hl (by decide) rfl (fun ls hl => ?_)
  refine fp_iconst hx hb dX0_plates_2 ?_
  refine lv_istore_n (lv' := [(3, .int (iI (0))), (2, .int (iI (0))), (0, .ref h), (1, .int (iI (p)))]) hx hb dX0_plates_3 rfl hl (by decide) rfl (fun ls hl => ?_)
  have hl := lv_sub hl (l' := [(0, .ref h), (1, .int (iI (p))), (2, .int (iI (0))), (3, .int (iI (0)))]) [2, 3, 1, 0] rfl
  have lp0 : ∀ (nf : Nat) (x : Int) (k : Int), (0 ≤ k ∧ k ≤ c 0) → (x = sumI k.toNat (fun k => bI (c (k * 4 + 2) = p))) → (c 0 + 1 ≤ k + (nf : Int)) → ∀ (ls : Array Slot), lv_has ls 4 [(0, .ref h), (1, .int (iI (p))), (2, .int (iI (x))), (3, .int (iI (k)))] → W pg l en ({ frames := 2, cells := 0, slots := 0, locals := 42 } : Room) sx mi ar bl mt cd sx.heap [] 0 0 (MQ bl (fp_Qp (some (.int (iI (plC c p))))) ar sx 0 0 (fun _ => False)) (F0 mi 4 ls []) := by
    intro nf
    induction nf with
    | zero =>
      intro x k ik ix hfuel
      exact absurd hfuel (by omega)
    | succ nf ih0 =>
      intro x k ik ix hfuel ls hl
      refine lv_iload_n hx hb dX0_plates_4 rfl (lv_at hl 3 rfl) ?_
      refine lv_aload_n hx hb dX0_plates_5 rfl (lv_at hl 0 rfl) ?_
      refine fp_pV (As := []) (rest := [.int (iI (k))]) (wsC := [(h, .inr (0, [.ref r])), (r, .inr (5, [.ref a])), (a, fA cyI 54 c)]) ⟨hx, hb, hml, hown, hts⟩ (c_X0_lots l D cyI h r a c) (cwV 0 hts gX0_plates_X0_lots rfl rfl rfl (by decide +kernel) ⟨Nat.le_of_ble_eq_true rfl, Nat.le_of_ble_eq_true rfl⟩) hK hP hD [0, 1, 2] (by decide) rfl rfl rfl rfl hl.1 rfl (Nat.le_of_ble_eq_true rfl) dX0_plates_6 ⟨Nat.zero_le _, Nat.zero_le _⟩ ?_
      refine fp_icmp_ge (tgt := 35) hx hb (by omega) dX0_plates_9 (by decide) (fun q9 => ?_) (fun q9 => ?_)
      · skip
        refine lv_iload_n hx hb dX0_plates_35 rfl (lv_at hl 2 rfl) ?_
        have hret : (plC c p : Int) = x := (by unfold plC; rw [ix]; congr 2; omega)
        exact fp_ret hx hb hr hlocks dX0_plates_36 (congrArg (fun z : Int => Value.int (iI z)) hret)
      · skip
        refine lv_iload_n hx hb dX0_plates_12 rfl (lv_at hl 2 rfl) ?_
        refine lv_aload_n hx hb dX0_plates_13 rfl (lv_at hl 0 rfl) ?_
        refine lv_iload_n hx hb dX0_plates_14 rfl (lv_at hl 3 rfl) ?_
        have hL := hC.2.1 k ik.1 q9
        unfold LotOK at hL
        refine fp_pV (As := [.int (iI (k))]) (rest := [.int (iI (x))]) (wsC := [(h, .inr (0, [.ref r])), (r, .inr (5, [.ref a])), (a, fA cyI 54 c)]) ⟨hx, hb, hml, hown, hts⟩ (c_X0_plate l D cyI h r a c k (by omega)) (cwV 1 hts gX0_plates_X0_plate rfl rfl rfl (by decide +kernel) ⟨Nat.le_of_ble_eq_true rfl, Nat.le_of_ble_eq_true rfl⟩) hK hP hD [0, 1, 2] (by decide) rfl rfl rfl rfl hl.1 rfl (Nat.le_of_ble_eq_true rfl) dX0_plates_15 ⟨Nat.zero_le _, Nat.zero_le _⟩ ?_
        refine lv_iload_n hx hb dX0_plates_18 rfl (lv_at hl 1 rfl) ?_
        refine fp_icmp_ne (tgt := 26) hx hb (by omega) dX0_plates_19 (by decide) (fun q19 => ?_) (fun q19 => ?_)
        · skip
          refine fp_iconst hx hb dX0_plates_26 ?_
          refine fp_iadd hx hb dX0_plates_27 ?_
          refine lv_istore_n (lv' := [(2, .int (iI (x + 0))), (0, .ref h), (1, .int (iI (p))), (3, .int (iI (k)))]) hx hb dX0_plates_28 rfl hl (by decide) rfl (fun ls hl => ?_)
          refine fp_iinc (k := 3) (lv' := [(3, .int (iI (k + 1))), (2, .int (iI (x + 0))), (0, .ref h), (1, .int (iI (p)))]) hx hb dX0_plates_29 hl rfl (by decide) rfl (fun ls hl => ?_)
          refine lv_goto (tgt := 4) hx hb dX0_plates_32 (by decide) ?_
          exact ih0 (x + 0) (k + 1) (by omega) (by rw [ix, sumI_s _ ik.1]; congr 1; first | (rw [bI_t (by omega)]) | (rw [bI_f (by omega)])) (by omega) ls (lv_sub hl [2, 3, 1, 0] rfl)
        · skip
          refine fp_iconst hx hb dX0_plates_22 ?_
          refine lv_goto (tgt := 27) hx hb dX0_plates_23 (by decide) ?_
          refine fp_iadd hx hb dX0_plates_27 ?_
          refine lv_istore_n (lv' := [(2, .int (iI (x + 1))), (0, .ref h), (1, .int (iI (p))), (3, .int (iI (k)))]) hx hb dX0_plates_28 rfl hl (by decide) rfl (fun ls hl => ?_)
          refine fp_iinc (k := 3) (lv' := [(3, .int (iI (k + 1))), (2, .int (iI (x + 1))), (0, .ref h), (1, .int (iI (p)))]) hx hb dX0_plates_29 hl rfl (by decide) rfl (fun ls hl => ?_)
          refine lv_goto (tgt := 4) hx hb dX0_plates_32 (by decide) ?_
          exact ih0 (x + 1) (k + 1) (by omega) (by rw [ix, sumI_s _ ik.1]; congr 1; first | (rw [bI_t (by omega)]) | (rw [bI_f (by omega)])) (by omega) ls (lv_sub hl [2, 3, 1, 0] rfl)
  exact lp0 (((c 0 : Int) + 1 - (0)).toNat) 0 0 (by omega) rfl (by omega) ls hl
set_option maxHeartbeats 4000000 in
set_option maxRecDepth 100000 in
theorem c_X0_costOfGathering (l : Launch) (D : va_G) (cyI : ClassId) (h : Nat) (r : Nat) (a : Nat) (c : Int → Int) (hC : CatOK c) : fp_M l yX0_costOfGathering wsX0_costOfGathering ({ frames := 2, cells := 0, slots := 0, locals := 42 } : Room) D cyI [(h, .inr (0, [.ref r])), (r, .inr (5, [.ref a])), (a, fA cyI 54 c)] [.ref h] (some (.int (iI (gcC c)))) := by
  refine fp_start (cc := cX0_costOfGathering) (maxL := 1) (ret := (some .int)) (by decide) rfl (Nat.le_of_ble_eq_true rfl) ?_
  intro pg en sx mi ar bl mt cd ls hx hb hr hts hown hlocks hml hnm hP hK hD hl
  have hown : sx.vm.findClass RX0 = some mi.cls := hown
  have hl : lv_has ls 1 [(0, .ref h)] := hl
  have hX := hC.2.2
  unfold SetOK at hX
  refine lv_aload_n hx hb dX0_costOfGathering_0 rfl (lv_at hl 0 rfl) ?_
  refine fp_iconst hx hb dX0_costOfGathering_1 ?_
  refine fp_pV (As := [.int (iI (1))]) (rest := []) (wsC := [(h, .inr (0, [.ref r])), (r, .inr (5, [.ref a])), (a, fA cyI 54 c)]) ⟨hx, hb, hml, hown, hts⟩ (c_X0_setting l D cyI h r a c 1 (by omega)) (cwV 1 hts gX0_costOfGathering_X0_setting rfl rfl rfl (by decide +kernel) ⟨Nat.le_of_ble_eq_true rfl, Nat.le_of_ble_eq_true rfl⟩) hK hP hD [0, 1, 2] (by decide) rfl rfl rfl rfl hl.1 rfl (Nat.le_of_ble_eq_true rfl) dX0_costOfGathering_2 ⟨Nat.zero_le _, Nat.zero_le _⟩ ?_
  refine lv_aload_n hx hb dX0_costOfGathering_5 rfl (lv_at hl 0 rfl) ?_
  refine fp_iconst hx hb dX0_costOfGathering_6 ?_
  refine fp_pV (As := [.int (iI (4))]) (rest := [.int (iI (c (49 + 1)))]) (wsC := [(h, .inr (0, [.ref r])), (r, .inr (5, [.ref a])), (a, fA cyI 54 c)]) ⟨hx, hb, hml, hown, hts⟩ (c_X0_setting l D cyI h r a c 4 (by omega)) (cwV 1 hts gX0_costOfGathering_X0_setting rfl rfl rfl (by decide +kernel) ⟨Nat.le_of_ble_eq_true rfl, Nat.le_of_ble_eq_true rfl⟩) hK hP hD [0, 1, 2] (by decide) rfl rfl rfl rfl hl.1 rfl (Nat.le_of_ble_eq_true rfl) dX0_costOfGathering_7 ⟨Nat.zero_le _, Nat.zero_le _⟩ ?_
  refine fp_bipush hx hb dX0_costOfGathering_10 (by decide) ?_
  refine fp_idiv hx hb (by omega) dX0_costOfGathering_12 ?_
  refine fp_iadd hx hb dX0_costOfGathering_13 ?_
  have hret : (gcC c : Int) = (c (49 + 1)) + ((c (49 + 4)) / 10) := (by unfold gcC; rfl)
  exact fp_ret hx hb hr hlocks dX0_costOfGathering_14 (congrArg (fun z : Int => Value.int (iI z)) hret)
theorem fl_X0_putChoice_16 : Cond.fieldLink RX0 16 "FacingPlates$Catalogue" "cells" "LFacingPlates$Row;" ∈ wsX0_putChoice := by decide +kernel
set_option maxHeartbeats 4000000 in
set_option maxRecDepth 100000 in
theorem c_X0_putChoice (l : Launch) (D : va_G) (cyI : ClassId) (h : Nat) (r : Nat) (a : Nat) (c : Int → Int) (k : Int) (b : Int) (q : Int) (hk : 0 ≤ k ∧ k < 12) : fp_MW l yX0_putChoice wsX0_putChoice ({ frames := 1, cells := 0, slots := 0, locals := 22 } : Room) D cyI [(h, .inr (0, [.ref r])), (r, .inr (5, [.ref a])), (a, fA cyI 54 c)] [.ref h, .int (iI (k)), .int (iI (b)), .int (iI (q))] (fun (u9 : Unit) => True) (fun (u9 : Unit) => none) (fun (u9 : Unit) => [(h, .inr (0, [.ref r])), (r, .inr (5, [.ref a])), (a, fA cyI 54 (choL c k b q))]) := by
  refine fp_start (cc := cX0_putChoice) (maxL := 4) (ret := none) (by decide) rfl (Nat.le_of_ble_eq_true rfl) ?_
  intro pg en sx mi ar bl mt cd ls hx hb hr hts hown hlocks hml hnm hP hK hD hl
  have hown : sx.vm.findClass RX0 = some mi.cls := hown
  have hl : lv_has ls 4 [(0, .ref h), (1, .int (iI (k))), (2, .int (iI (b))), (3, .int (iI (q)))] := hl
  have hD := fp_self hD
  have hS : va_S (fp_A [(h, .inr (0, [.ref r])), (r, .inr (5, [.ref a])), (a, fA cyI 54 c)]) sx.heap sx.heap [] := va_S.rf
  refine lv_aload_n hx hb dX0_putChoice_0 rfl (lv_at hl 0 rfl) ?_
  refine va_get (D := D) (ci := 0) (ws := [(h, .inr (0, [.ref r])), (r, .inr (5, [.ref a])), (a, fA cyI 54 c)]) (v := .ref r) (C := RX0) (T := TX0) (N := 1) hx hb hts (fun _ h => List.mem_cons_of_mem _ (List.mem_append_left _ (List.mem_append_right _ h))) hown hK.1 hP 0 rfl rfl 0 (by decide) (hts _ fl_X0_putChoice_16) (fun _ h9 => h9) rfl dX0_putChoice_1 ?_
  refine lv_iload_n hx hb dX0_putChoice_4 rfl (lv_at hl 1 rfl) ?_
  refine fp_iconst hx hb dX0_putChoice_5 ?_
  refine fp_imul hx hb dX0_putChoice_6 ?_
  refine fp_iconst hx hb dX0_putChoice_7 ?_
  refine fp_iadd hx hb dX0_putChoice_8 ?_
  refine lv_iload_n hx hb dX0_putChoice_9 rfl (lv_at hl 2 rfl) ?_
  refine fp_wV (As := [.int (iI ((k * 4) + 3)), .int (iI (b))]) (rest := []) (wsC := [(h, .inr (0, [.ref r])), (r, .inr (5, [.ref a])), (a, fA cyI 54 c)]) ⟨hx, hb, hml, hown, hts⟩ (c_X5_put l D cyI r a 54 c ((k * 4) + 3) b (by omega) (by decide)) (cwV 2 hts gX0_putChoice_X5_put rfl rfl rfl (by decide +kernel) ⟨Nat.le_of_ble_eq_true rfl, Nat.le_of_ble_eq_true rfl⟩) (fun _ => rfl) hK hP hD hS [1, 2] (by decide) rfl rfl rfl rfl hl.1 rfl (Nat.le_of_ble_eq_true rfl) dX0_putChoice_10 ⟨Nat.zero_le _, Nat.zero_le _⟩ (fun u9v H locs hu hP hD hS => ?_)
  refine W.eq (g2 := F0 mi 13 ls []) rfl ?_
  have hP : va_P D vwCl [(h, .inr (0, [.ref r])), (r, .inr (5, [.ref a])), (a, fA cyI 54 (upI c ((k * 4) + 3) b))] H := hP
  have hD : va_D (fp_A [(h, .inr (0, [.ref r])), (r, .inr (5, [.ref a])), (a, fA cyI 54 c)]) [(h, .inr (0, [.ref r])), (r, .inr (5, [.ref a])), (a, fA cyI 54 (upI c ((k * 4) + 3) b))] := hD
  refine lv_aload_n hx hb dX0_putChoice_13 rfl (lv_at hl 0 rfl) ?_
  refine va_get (D := D) (ci := 0) (ws := [(h, .inr (0, [.ref r])), (r, .inr (5, [.ref a])), (a, fA cyI 54 (upI c ((k * 4) + 3) b))]) (v := .ref r) (C := RX0) (T := TX0) (N := 1) hx hb hts (fun _ h => List.mem_cons_of_mem _ (List.mem_append_left _ (List.mem_append_right _ h))) hown hK.1 hP 0 rfl rfl 0 (by decide) (hts _ fl_X0_putChoice_16) (fun _ h9 => h9) rfl dX0_putChoice_14 ?_
  refine lv_iload_n hx hb dX0_putChoice_17 rfl (lv_at hl 1 rfl) ?_
  refine fp_iconst hx hb dX0_putChoice_18 ?_
  refine fp_imul hx hb dX0_putChoice_19 ?_
  refine fp_iconst hx hb dX0_putChoice_20 ?_
  refine fp_iadd hx hb dX0_putChoice_21 ?_
  refine lv_iload_n hx hb dX0_putChoice_22 rfl (lv_at hl 3 rfl) ?_
  refine fp_wV (As := [.int (iI ((k * 4) + 4)), .int (iI (q))]) (rest := []) (wsC := [(h, .inr (0, [.ref r])), (r, .inr (5, [.ref a])), (a, fA cyI 54 (upI c ((k * 4) + 3) b))]) ⟨hx, hb, hml, hown, hts⟩ (c_X5_put l D cyI r a 54 (upI c ((k * 4) + 3) b) ((k * 4) + 4) q (by omega) (by decide)) (cwV 2 hts gX0_putChoice_X5_put rfl rfl rfl (by decide +kernel) ⟨Nat.le_of_ble_eq_true rfl, Nat.le_of_ble_eq_true rfl⟩) (fun _ => rfl) hK hP hD hS [1, 2] (by decide) rfl rfl rfl rfl hl.1 rfl (Nat.le_of_ble_eq_true rfl) dX0_putChoice_23 ⟨Nat.zero_le _, Nat.zero_le _⟩ (fun u9v H locs hu hP hD hS => ?_)
  refine W.eq (g2 := F0 mi 26 ls []) rfl ?_
  have hP : va_P D vwCl [(h, .inr (0, [.ref r])), (r, .inr (5, [.ref a])), (a, fA cyI 54 (upI (upI c ((k * 4) + 3) b) ((k * 4) + 4) q))] H := hP
  have hD : va_D (fp_A [(h, .inr (0, [.ref r])), (r, .inr (5, [.ref a])), (a, fA cyI 54 c)]) [(h, .inr (0, [.ref r])), (r, .inr (5, [.ref a])), (a, fA cyI 54 (upI (upI c ((k * 4) + 3) b) ((k * 4) + 4) q))] := hD
  have hP : va_P D vwCl [(h, .inr (0, [.ref r])), (r, .inr (5, [.ref a])), (a, fA cyI 54 (choL c k b q))] H := by
    rw [(show (upI (upI c ((k * 4) + 3) b) ((k * 4) + 4) q : Int → Int) = choL c k b q from (by first | rfl | (exfalso; omega))).symm]
    exact hP
  exact fp_wvret () hx hb hr hlocks hS hP trivial rfl dX0_putChoice_26
theorem fl_X0_putLot_16 : Cond.fieldLink RX0 16 "FacingPlates$Catalogue" "cells" "LFacingPlates$Row;" ∈ wsX0_putLot := by decide +kernel
set_option maxHeartbeats 4000000 in
set_option maxRecDepth 100000 in
theorem c_X0_putLot (l : Launch) (D : va_G) (cyI : ClassId) (h : Nat) (r : Nat) (a : Nat) (c : Int → Int) (k : Int) (t : Int) (p : Int) (b : Int) (q : Int) (hk : 0 ≤ k ∧ k < 12) : fp_MW l yX0_putLot wsX0_putLot ({ frames := 2, cells := 0, slots := 0, locals := 45 } : Room) D cyI [(h, .inr (0, [.ref r])), (r, .inr (5, [.ref a])), (a, fA cyI 54 c)] [.ref h, .int (iI (k)), .int (iI (t)), .int (iI (p)), .int (iI (b)), .int (iI (q))] (fun (u9 : Unit) => True) (fun (u9 : Unit) => none) (fun (u9 : Unit) => [(h, .inr (0, [.ref r])), (r, .inr (5, [.ref a])), (a, fA cyI 54 (putL c k t p b q))]) := by
  refine fp_start (cc := cX0_putLot) (maxL := 6) (ret := none) (by decide) rfl (Nat.le_of_ble_eq_true rfl) ?_
  intro pg en sx mi ar bl mt cd ls hx hb hr hts hown hlocks hml hnm hP hK hD hl
  have hown : sx.vm.findClass RX0 = some mi.cls := hown
  have hl : lv_has ls 6 [(0, .ref h), (1, .int (iI (k))), (2, .int (iI (t))), (3, .int (iI (p))), (4, .int (iI (b))), (5, .int (iI (q)))] := hl
  have hD := fp_self hD
  have hS : va_S (fp_A [(h, .inr (0, [.ref r])), (r, .inr (5, [.ref a])), (a, fA cyI 54 c)]) sx.heap sx.heap [] := va_S.rf
  refine lv_aload_n hx hb dX0_putLot_0 rfl (lv_at hl 0 rfl) ?_
  refine va_get (D := D) (ci := 0) (ws := [(h, .inr (0, [.ref r])), (r, .inr (5, [.ref a])), (a, fA cyI 54 c)]) (v := .ref r) (C := RX0) (T := TX0) (N := 1) hx hb hts (fun _ h => List.mem_cons_of_mem _ (List.mem_append_left _ (List.mem_append_right _ h))) hown hK.1 hP 0 rfl rfl 0 (by decide) (hts _ fl_X0_putLot_16) (fun _ h9 => h9) rfl dX0_putLot_1 ?_
  refine lv_iload_n hx hb dX0_putLot_4 rfl (lv_at hl 1 rfl) ?_
  refine fp_iconst hx hb dX0_putLot_5 ?_
  refine fp_imul hx hb dX0_putLot_6 ?_
  refine fp_iconst hx hb dX0_putLot_7 ?_
  refine fp_iadd hx hb dX0_putLot_8 ?_
  refine lv_iload_n hx hb dX0_putLot_9 rfl (lv_at hl 2 rfl) ?_
  refine fp_wV (As := [.int (iI ((k * 4) + 1)), .int (iI (t))]) (rest := []) (wsC := [(h, .inr (0, [.ref r])), (r, .inr (5, [.ref a])), (a, fA cyI 54 c)]) ⟨hx, hb, hml, hown, hts⟩ (c_X5_put l D cyI r a 54 c ((k * 4) + 1) t (by omega) (by decide)) (cwV 2 hts gX0_putLot_X5_put rfl rfl rfl (by decide +kernel) ⟨Nat.le_of_ble_eq_true rfl, Nat.le_of_ble_eq_true rfl⟩) (fun _ => rfl) hK hP hD hS [1, 2] (by decide) rfl rfl rfl rfl hl.1 rfl (Nat.le_of_ble_eq_true rfl) dX0_putLot_10 ⟨Nat.zero_le _, Nat.zero_le _⟩ (fun u9v H locs hu hP hD hS => ?_)
  refine W.eq (g2 := F0 mi 13 ls []) rfl ?_
  have hP : va_P D vwCl [(h, .inr (0, [.ref r])), (r, .inr (5, [.ref a])), (a, fA cyI 54 (upI c ((k * 4) + 1) t))] H := hP
  have hD : va_D (fp_A [(h, .inr (0, [.ref r])), (r, .inr (5, [.ref a])), (a, fA cyI 54 c)]) [(h, .inr (0, [.ref r])), (r, .inr (5, [.ref a])), (a, fA cyI 54 (upI c ((k * 4) + 1) t))] := hD
  refine lv_aload_n hx hb dX0_putLot_13 rfl (lv_at hl 0 rfl) ?_
  refine va_get (D := D) (ci := 0) (ws := [(h, .inr (0, [.ref r])), (r, .inr (5, [.ref a])), (a, fA cyI 54 (upI c ((k * 4) + 1) t))]) (v := .ref r) (C := RX0) (T := TX0) (N := 1) hx hb hts (fun _ h => List.mem_cons_of_mem _ (List.mem_append_left _ (List.mem_append_right _ h))) hown hK.1 hP 0 rfl rfl 0 (by decide) (hts _ fl_X0_putLot_16) (fun _ h9 => h9) rfl dX0_putLot_14 ?_
  refine lv_iload_n hx hb dX0_putLot_17 rfl (lv_at hl 1 rfl) ?_
  refine fp_iconst hx hb dX0_putLot_18 ?_
  refine fp_imul hx hb dX0_putLot_19 ?_
  refine fp_iconst hx hb dX0_putLot_20 ?_
  refine fp_iadd hx hb dX0_putLot_21 ?_
  refine lv_iload_n hx hb dX0_putLot_22 rfl (lv_at hl 3 rfl) ?_
  refine fp_wV (As := [.int (iI ((k * 4) + 2)), .int (iI (p))]) (rest := []) (wsC := [(h, .inr (0, [.ref r])), (r, .inr (5, [.ref a])), (a, fA cyI 54 (upI c ((k * 4) + 1) t))]) ⟨hx, hb, hml, hown, hts⟩ (c_X5_put l D cyI r a 54 (upI c ((k * 4) + 1) t) ((k * 4) + 2) p (by omega) (by decide)) (cwV 2 hts gX0_putLot_X5_put rfl rfl rfl (by decide +kernel) ⟨Nat.le_of_ble_eq_true rfl, Nat.le_of_ble_eq_true rfl⟩) (fun _ => rfl) hK hP hD hS [1, 2] (by decide) rfl rfl rfl rfl hl.1 rfl (Nat.le_of_ble_eq_true rfl) dX0_putLot_23 ⟨Nat.zero_le _, Nat.zero_le _⟩ (fun u9v H locs hu hP hD hS => ?_)
  refine W.eq (g2 := F0 mi 26 ls []) rfl ?_
  have hP : va_P D vwCl [(h, .inr (0, [.ref r])), (r, .inr (5, [.ref a])), (a, fA cyI 54 (upI (upI c ((k * 4) + 1) t) ((k * 4) + 2) p))] H := hP
  have hD : va_D (fp_A [(h, .inr (0, [.ref r])), (r, .inr (5, [.ref a])), (a, fA cyI 54 c)]) [(h, .inr (0, [.ref r])), (r, .inr (5, [.ref a])), (a, fA cyI 54 (upI (upI c ((k * 4) + 1) t) ((k * 4) + 2) p))] := hD
  refine lv_aload_n hx hb dX0_putLot_26 rfl (lv_at hl 0 rfl) ?_
  refine lv_iload_n hx hb dX0_putLot_27 rfl (lv_at hl 1 rfl) ?_
  refine lv_iload hx hb dX0_putLot_28 (lv_at hl 4 rfl) ?_
  refine lv_iload hx hb dX0_putLot_30 (lv_at hl 5 rfl) ?_
  refine fp_wV (As := [.int (iI (k)), .int (iI (b)), .int (iI (q))]) (rest := []) (wsC := [(h, .inr (0, [.ref r])), (r, .inr (5, [.ref a])), (a, fA cyI 54 (upI (upI c ((k * 4) + 1) t) ((k * 4) + 2) p))]) ⟨hx, hb, hml, hown, hts⟩ (c_X0_putChoice l D cyI h r a (upI (upI c ((k * 4) + 1) t) ((k * 4) + 2) p) k b q (by omega)) (cwV 3 hts gX0_putLot_X0_putChoice rfl rfl rfl (by decide +kernel) ⟨Nat.le_of_ble_eq_true rfl, Nat.le_of_ble_eq_true rfl⟩) (fun _ => rfl) hK hP hD hS [0, 1, 2] (by decide) rfl rfl rfl rfl hl.1 rfl (Nat.le_of_ble_eq_true rfl) dX0_putLot_32 ⟨Nat.zero_le _, Nat.zero_le _⟩ (fun u9v H locs hu hP hD hS => ?_)
  refine W.eq (g2 := F0 mi 35 ls []) rfl ?_
  have hP : va_P D vwCl [(h, .inr (0, [.ref r])), (r, .inr (5, [.ref a])), (a, fA cyI 54 (choL (upI (upI c ((k * 4) + 1) t) ((k * 4) + 2) p) k b q))] H := hP
  have hD : va_D (fp_A [(h, .inr (0, [.ref r])), (r, .inr (5, [.ref a])), (a, fA cyI 54 c)]) [(h, .inr (0, [.ref r])), (r, .inr (5, [.ref a])), (a, fA cyI 54 (choL (upI (upI c ((k * 4) + 1) t) ((k * 4) + 2) p) k b q))] := hD
  have hP : va_P D vwCl [(h, .inr (0, [.ref r])), (r, .inr (5, [.ref a])), (a, fA cyI 54 (putL c k t p b q))] H := by
    rw [(show (choL (upI (upI c ((k * 4) + 1) t) ((k * 4) + 2) p) k b q : Int → Int) = putL c k t p b q from (by first | rfl | (exfalso; omega))).symm]
    exact hP
  exact fp_wvret () hx hb hr hlocks hS hP trivial rfl dX0_putLot_35
