/-! the reference's acts -/
def puM (m : Int → Int) (k t p b q : Int) : Int → Int := upI (upI (upI (upI m (6 + k) t) (18 + k) p) (30 + k) b) (42 + k) q
theorem pu_n {m : Int → Int} {k t p b q j : Int} (hk : 0 ≤ k ∧ k < 12) (h : j < 6) : puM m k t p b q j = m j := by
  unfold puM
  rw [upI_n (by omega), upI_n (by omega), upI_n (by omega), upI_n (by omega)]
/-- a row of the reference's lots, told as a catalogue tells it -/
theorem pu_row {m : Int → Int} {k t p b q j o : Int} (hk : 0 ≤ k ∧ k < 12) (hj : 0 ≤ j ∧ j < 12) (ho : o = 1 ∨ o = 2 ∨ o = 3 ∨ o = 4) : cM (puM m k t p b q) (j * 4 + o) = if j = k then (if o = 1 then t else if o = 2 then p else if o = 3 then b else q) else cM m (j * 4 + o) := by
  rcases ho with rfl | rfl | rfl | rfl
  · rw [cM_t hj, cM_t hj]
    unfold puM
    rw [upI_n (by omega), upI_n (by omega), upI_n (by omega)]
    by_cases e : j = k
    · rw [upI_s (by omega), if_pos e, if_pos rfl]
    · rw [upI_n (by omega), if_neg e]
  · rw [cM_p hj, cM_p hj]
    unfold puM
    rw [upI_n (by omega), upI_n (by omega)]
    by_cases e : j = k
    · rw [upI_s (by omega), if_pos e, if_neg (by omega), if_pos rfl]
    · rw [upI_n (by omega), upI_n (by omega), if_neg e]
  · rw [cM_b hj, cM_b hj]
    unfold puM
    rw [upI_n (by omega)]
    by_cases e : j = k
    · rw [upI_s (by omega), if_pos e, if_neg (by omega), if_neg (by omega), if_pos rfl]
    · rw [upI_n (by omega), upI_n (by omega), upI_n (by omega), if_neg e]
  · rw [cM_q hj, cM_q hj]
    unfold puM
    by_cases e : j = k
    · rw [upI_s (by omega), if_pos e, if_neg (by omega), if_neg (by omega), if_neg (by omega)]
    · rw [upI_n (by omega), upI_n (by omega), upI_n (by omega), upI_n (by omega), if_neg e]
theorem up_row {m : Int → Int} {j o i v : Int} (hj : 0 ≤ j ∧ j < 12) (ho : o = 1 ∨ o = 2 ∨ o = 3 ∨ o = 4) (hi : i < 6) : cM (upI m i v) (j * 4 + o) = cM m (j * 4 + o) := by
  rcases ho with rfl | rfl | rfl | rfl
  · rw [cM_t hj, cM_t hj, upI_n (by omega)]
  · rw [cM_p hj, cM_p hj, upI_n (by omega)]
  · rw [cM_b hj, cM_b hj, upI_n (by omega)]
  · rw [cM_q hj, cM_q hj, upI_n (by omega)]
theorem Same_of {c m : Int → Int} (h0 : c 0 = m 5) (hn : c 0 ≤ 12) (hr : ∀ j o : Int, 0 ≤ j → j < c 0 → (o = 1 ∨ o = 2 ∨ o = 3 ∨ o = 4) → c (j * 4 + o) = cM m (j * 4 + o)) (hs : ∀ j : Int, 0 ≤ j → j < 5 → c (49 + j) = m j) : Same c (cM m) :=
  ⟨by rw [cM_0]; exact h0, fun k a b => ⟨hr k 1 a b (Or.inl rfl), hr k 2 a b (Or.inr (Or.inl rfl)), hr k 3 a b (Or.inr (Or.inr (Or.inl rfl))), hr k 4 a b (Or.inr (Or.inr (Or.inr rfl)))⟩, fun j a b => by rw [cM_s ⟨a, b⟩]; exact hs j a b⟩
theorem put_row {c : Int → Int} {k t p b q j o : Int} (ho : o = 1 ∨ o = 2 ∨ o = 3 ∨ o = 4) : putL c k t p b q (j * 4 + o) = if j = k then (if o = 1 then t else if o = 2 then p else if o = 3 then b else q) else c (j * 4 + o) := by
  by_cases e : j = k
  · subst e
    rw [if_pos rfl]
    rcases ho with rfl | rfl | rfl | rfl
    · rw [put_at.1, if_pos rfl]
    · rw [put_at.2.1, if_neg (by omega), if_pos rfl]
    · rw [put_at.2.2.1, if_neg (by omega), if_neg (by omega), if_pos rfl]
    · rw [put_at.2.2.2, if_neg (by omega), if_neg (by omega), if_neg (by omega)]
  · rw [if_neg e, put_n (by omega)]
theorem Same_pu {m : Int → Int} {k t p b q : Int} (hk : 0 ≤ k ∧ k < 12) (hn : m 5 ≤ 12) : Same (putL (cM m) k t p b q) (cM (puM m k t p b q)) := by
  have e0 : putL (cM m) k t p b q 0 = m 5 := by rw [put_n (by omega), cM_0]
  refine Same_of (by rw [e0, pu_n hk (by omega)]) (by rw [e0]; exact hn) (fun j o a1 a2 a3 => ?_) (fun j a1 a2 => ?_)
  · rw [e0] at a2
    rw [put_row a3, pu_row hk (by omega) a3]
  · rw [put_n (by omega), cM_s ⟨a1, a2⟩, pu_n hk (by omega)]
theorem Same_apM {m : Int → Int} {t p b q : Int} (hn : 0 ≤ m 5 ∧ m 5 < 12) : Same (appL (cM m) t p b q) (cM (upI (puM m (m 5) t p b q) 5 (m 5 + 1))) := by
  have e : appL (cM m) t p b q = upI (putL (cM m) (m 5) t p b q) 0 (m 5 + 1) := by
    unfold appL
    rw [cM_0, if_pos (by omega)]
  rw [e]
  refine Same_of (by rw [upI_s rfl, upI_s rfl]) (by rw [upI_s rfl]; omega) (fun j o a1 a2 a3 => ?_) (fun j a1 a2 => ?_)
  · rw [upI_s rfl] at a2
    rw [upI_n (by omega), up_row (by omega) a3 (by omega), put_row a3, pu_row (by omega) (by omega) a3]
  · rw [upI_n (by omega), upI_n (by omega), put_n (by omega), cM_s ⟨a1, a2⟩, pu_n (by omega) (by omega)]
/-- what a lot carries to another place -/
theorem ca_row {g : Int → Int} {x y j o : Int} (hx : 0 ≤ x ∧ x < 12) (hy : 0 ≤ y ∧ y < 12) (hj : 0 ≤ j ∧ j < 12) (ho : o = 1 ∨ o = 2 ∨ o = 3 ∨ o = 4) : cM (puM g y (g (6 + x)) (g (18 + x)) (g (30 + x)) (g (42 + x))) (j * 4 + o) = if j = y then cM g (x * 4 + o) else cM g (j * 4 + o) := by
  rw [pu_row hy hj ho]
  by_cases e : j = y
  · rw [if_pos e, if_pos e]
    rcases ho with rfl | rfl | rfl | rfl
    · rw [if_pos rfl, cM_t hx]
    · rw [if_neg (by omega), if_pos rfl, cM_p hx]
    · rw [if_neg (by omega), if_neg (by omega), if_pos rfl, cM_b hx]
    · rw [if_neg (by omega), if_neg (by omega), if_neg (by omega), cM_q hx]
  · rw [if_neg e, if_neg e]
def RowsM (m g : Int → Int) (f : Int → Int) : Prop := ∀ j o : Int, 0 ≤ j → j < 12 → (o = 1 ∨ o = 2 ∨ o = 3 ∨ o = 4) → cM g (j * 4 + o) = cM m (f j * 4 + o)
def SetsM (m g : Int → Int) : Prop := ∀ j : Int, 0 ≤ j → j < 5 → g j = m j
/-- n cells in a row are the same -/
def eqN (f g : Int → Int) : Nat → Int
  | 0 => 1
  | n + 1 => if eqN f g n = 1 ∧ f (n : Int) = g (n : Int) then 1 else 0
theorem eqN_01 (f g : Int → Int) (n : Nat) : eqN f g n = 0 ∨ eqN f g n = 1 := by
  cases n with
  | zero => exact Or.inr rfl
  | succ n =>
    show (if _ then _ else _) = _ ∨ (if _ then _ else _) = _
    split <;> simp
theorem eqN_s (f g : Int → Int) {k : Int} (h : 0 ≤ k) : eqN f g (k + 1).toNat = if eqN f g k.toNat = 1 ∧ f k = g k then 1 else 0 := by
  obtain ⟨n, rfl⟩ := Int.eq_ofNat_of_zero_le h
  rfl
theorem eqN_iff (f g : Int → Int) : ∀ n : Nat, eqN f g n = 1 ↔ ∀ j : Int, 0 ≤ j → j < n → f j = g j := by
  intro n
  induction n with
  | zero => exact ⟨fun _ j a b => by omega, fun _ => rfl⟩
  | succ n ih =>
    show (if eqN f g n = 1 ∧ f (n : Int) = g (n : Int) then (1 : Int) else 0) = 1 ↔ _
    by_cases q : eqN f g n = 1 ∧ f (n : Int) = g (n : Int)
    · rw [if_pos q]
      refine ⟨fun _ j a b => ?_, fun _ => rfl⟩
      by_cases e : j = n
      · subst e; exact q.2
      · exact ih.mp q.1 j a (by omega)
    · rw [if_neg q]
      refine ⟨fun h => by omega, fun h => ?_⟩
      exact absurd ⟨ih.mpr (fun j a b => h j a (by omega)), h n (by omega) (by omega)⟩ q
theorem same_iff (f g : Int → Int) : ∀ n : Nat, sameI f g n = 1 ↔ ∀ j : Int, 0 ≤ j → j ≤ n → f j = g j := by
  intro n
  induction n with
  | zero =>
    constructor
    · intro h j a b
      have e : f 0 = g 0 := bI_ne (fun z => by have h1 : bI (f 0 = g 0) = 1 := h; omega)
      rw [show j = 0 by omega]
      exact e
    · intro h
      exact bI_t (h 0 (by omega) (by omega))
  | succ n ih =>
    show (if sameI f g n = 1 ∧ f ((n : Int) + 1) = g ((n : Int) + 1) then (1 : Int) else 0) = 1 ↔ _
    by_cases q : sameI f g n = 1 ∧ f ((n : Int) + 1) = g ((n : Int) + 1)
    · rw [if_pos q]
      refine ⟨fun _ j a b => ?_, fun _ => rfl⟩
      by_cases e : j = n + 1
      · subst e; exact q.2
      · exact ih.mp q.1 j a (by omega)
    · rw [if_neg q]
      refine ⟨fun h => by omega, fun h => ?_⟩
      exact absurd ⟨ih.mpr (fun j a b => h j a (by omega)), h (n + 1) (by omega) (by omega)⟩ q
def toI (f : Int → Int) : Int → Int := fun j => (iI (f j)).toInt
theorem toI_rg (f : Int → Int) (j : Int) : -2147483648 ≤ toI f j ∧ toI f j ≤ 2147483647 := iI_rg _
theorem toI_eq {f : Int → Int} {j : Int} (h : -2147483648 ≤ f j ∧ f j ≤ 2147483647) : toI f j = f j := iI_toInt h
theorem iI_to (f : Int → Int) (j : Nat) : iI (f (j : Int)) = iI (toI f (j : Int)) := (iI_eta (iI (f (j : Int)))).symm
theorem fp_nrm {D : va_G} {cyI : ClassId} {ws : va_W} {H : Heap} {A : Nat → Prop} (hP : va_P D vwCl ws H) (hD : va_D A ws) (q0 : Nat) {a n : Nat} {f f' : Int → Int} (ha : ws[q0]? = some (a, fA cyI n f)) (h : ∀ j : Nat, iI (f (j : Int)) = iI (f' (j : Int))) : va_P D vwCl (ws.set q0 (a, fA cyI n f')) H ∧ va_D A (ws.set q0 (a, fA cyI n f')) := by
  refine ⟨hP.set hD ha ?_ (fun _ _ => rfl), hD.set ha⟩
  have h1 : H[a]? = some (vp_cell cyI (n, .inl (fun j : Nat => iI (f (j : Int))))) := hP q0 _ ha
  show H[a]? = some (vp_cell cyI (n, .inl (fun j : Nat => iI (f' (j : Int)))))
  rw [h1, funext h]
theorem Same_toI {m : Int → Int} (h : CatOK (cM m)) : Same (cM m) (cM (toI m)) := by
  have hN := h.1
  rw [cM_0] at hN
  have e0 : toI m 5 = m 5 := toI_eq (by omega)
  have hX := h.2.2
  unfold SetOK at hX
  refine Same_of (by rw [cM_0, e0]) (by rw [cM_0]; exact hN.2) (fun j o a1 a2 a3 => ?_) (fun j a1 a2 => ?_)
  · rw [cM_0] at a2
    have hL := lot_f h (k := j) (by rw [cM_0]; omega)
    unfold LotOK at hL
    rcases a3 with rfl | rfl | rfl | rfl
    · rw [cM_t (m := toI m) (by omega), cM_t (by omega)]
      rw [cM_t (by omega)] at hL
      exact (toI_eq (by omega)).symm
    · rw [cM_p (m := toI m) (by omega), cM_p (by omega)]
      rw [cM_p (by omega)] at hL
      exact (toI_eq (by omega)).symm
    · rw [cM_b (m := toI m) (by omega), cM_b (by omega)]
      rw [cM_b (by omega)] at hL
      exact (toI_eq (by omega)).symm
    · rw [cM_q (m := toI m) (by omega), cM_q (by omega)]
      have h1 := hL.2.2.2.2.2.2
      have h2 := hL.1
      have h3 := hL.2.1
      rw [cM_q (by omega)] at h1
      exact (toI_eq (by omega)).symm
  · rw [cM_s ⟨a1, a2⟩]
    refine (toI_eq ?_).symm
    have e : j = 0 ∨ j = 1 ∨ j = 2 ∨ j = 3 ∨ j = 4 := by omega
    rw [cM_s (by omega), cM_s (by omega), cM_s (by omega), cM_s (by omega), cM_s (by omega)] at hX
    rcases e with rfl | rfl | rfl | rfl | rfl <;> omega
set_option maxHeartbeats 4000000 in
set_option maxRecDepth 100000 in
theorem c_X8_copy (l : Launch) (D : va_G) (cyI : ClassId) (x : Nat) (y : Nat) (cx : Int → Int) (cy : Int → Int) : fp_MW l yX8_copy wsX8_copy ({ frames := 0, cells := 0, slots := 0, locals := 0 } : Room) D cyI [(x, fA cyI 54 cx), (y, fA cyI 54 cy)] [.ref x, .ref y] (fun (u9 : Unit) => True) (fun (u9 : Unit) => none) (fun (u9 : Unit) => [(x, fA cyI 54 cx), (y, fA cyI 54 cx)]) := by
  refine fp_start (cc := cX8_copy) (maxL := 3) (ret := none) (by decide) rfl (Nat.le_of_ble_eq_true rfl) ?_
  intro pg en sx mi ar bl mt cd ls hx hb hr hts hown hlocks hml hnm hP hK hD hl
  have hown : sx.vm.findClass RX8 = some mi.cls := hown
  have hl : lv_has ls 3 [(0, .ref x), (1, .ref y)] := hl
  have hD := fp_self hD
  have hS : va_S (fp_A [(x, fA cyI 54 cx), (y, fA cyI 54 cy)]) sx.heap sx.heap [] := va_S.rf
  refine fp_iconst hx hb dX8_copy_0 ?_
  refine lv_istore_n (lv' := [(2, .int (iI (0))), (0, .ref x), (1, .ref y)]) hx hb dX8_copy_1 rfl hl (by decide) rfl (fun ls hl => ?_)
  have hl := lv_sub hl (l' := [(0, .ref x), (1, .ref y), (2, .int (iI (0)))]) [1, 2, 0] rfl
  have lp0 : ∀ (nf : Nat) (i : Int) (f : Int → Int), (0 ≤ i ∧ i ≤ 54) → (∀ j : Int, 0 ≤ j → j < i → f j = cx j) → (54 + 1 ≤ i + (nf : Int)) → ∀ (H : Heap) (locs : List Loc), va_P D vwCl [(x, fA cyI 54 cx), (y, fA cyI 54 f)] H → va_D (fp_A [(x, fA cyI 54 cx), (y, fA cyI 54 cy)]) [(x, fA cyI 54 cx), (y, fA cyI 54 f)] → va_S (fp_A [(x, fA cyI 54 cx), (y, fA cyI 54 cy)]) sx.heap H locs → ∀ (ls : Array Slot), lv_has ls 3 [(0, .ref x), (1, .ref y), (2, .int (iI (i)))] → W pg l en ({ frames := 0, cells := 0, slots := 0, locals := 0 } : Room) sx mi ar bl mt cd H locs 0 0 (MQ bl (fp_Qw D [(x, fA cyI 54 cx), (y, fA cyI 54 cy)] (fun (u9 : Unit) => True) (fun (u9 : Unit) => none) (fun (u9 : Unit) => [(x, fA cyI 54 cx), (y, fA cyI 54 cx)])) ar sx 0 0 (fp_A [(x, fA cyI 54 cx), (y, fA cyI 54 cy)])) (F0 mi 2 ls []) := by
    intro nf
    induction nf with
    | zero =>
      intro i f ii jf hfuel
      exact absurd hfuel (by omega)
    | succ nf ih0 =>
      intro i f ii jf hfuel H locs hP hD hS ls hl
      refine lv_iload_n hx hb dX8_copy_2 rfl (lv_at hl 2 rfl) ?_
      refine fp_bipush hx hb dX8_copy_3 (by decide) ?_
      refine fp_icmp_ge (tgt := 20) hx hb (by omega) dX8_copy_5 (by decide) (fun q5 => ?_) (fun q5 => ?_)
      · skip
        obtain ⟨hP, hD⟩ := fp_ext (ws := [(x, fA cyI 54 cx), (y, fA cyI 54 f)]) (f := f) (f' := cx) hP hD 1 rfl (fun j a1 a2 => jf j a1 (by omega))
        have hP : va_P D vwCl [(x, fA cyI 54 cx), (y, fA cyI 54 cx)] H := hP
        have hD : va_D (fp_A [(x, fA cyI 54 cx), (y, fA cyI 54 cy)]) [(x, fA cyI 54 cx), (y, fA cyI 54 cx)] := hD
        exact fp_wvret () hx hb hr hlocks hS hP trivial rfl dX8_copy_20
      · skip
        refine lv_aload_n hx hb dX8_copy_8 rfl (lv_at hl 1 rfl) ?_
        refine lv_iload_n hx hb dX8_copy_9 rfl (lv_at hl 2 rfl) ?_
        refine lv_aload_n hx hb dX8_copy_10 rfl (lv_at hl 0 rfl) ?_
        refine lv_iload_n hx hb dX8_copy_11 rfl (lv_at hl 2 rfl) ?_
        refine fp_iald (wsC := [(x, fA cyI 54 cx), (y, fA cyI 54 f)]) hx hb hK hP 0 rfl (by omega) (by decide) dX8_copy_12 ?_
        refine fp_iast (wsC := [(x, fA cyI 54 cx), (y, fA cyI 54 f)]) hx hb hK hP hD hS 1 rfl (by omega) (by decide) dX8_copy_13 (fun H locs hP hD hS => ?_)
        have hP : va_P D vwCl [(x, fA cyI 54 cx), (y, fA cyI 54 (upI (f) (i) (cx i)))] H := hP
        have hD : va_D (fp_A [(x, fA cyI 54 cx), (y, fA cyI 54 cy)]) [(x, fA cyI 54 cx), (y, fA cyI 54 (upI (f) (i) (cx i)))] := hD
        refine fp_iinc (k := 2) (lv' := [(2, .int (iI (i + 1))), (0, .ref x), (1, .ref y)]) hx hb dX8_copy_14 hl rfl (by decide) rfl (fun ls hl => ?_)
        refine lv_goto (tgt := 2) hx hb dX8_copy_17 (by decide) ?_
        exact ih0 (i + 1) (upI (f) (i) (cx i)) (by omega) (fun j a1 a2 => by
        by_cases e : j = i
        · rw [upI_s e, e]
        · rw [upI_n e]; exact jf j a1 (by omega)) (by omega) H locs hP hD hS ls (lv_sub hl [1, 2, 0] rfl)
  exact lp0 (((54 : Int) + 1 - (0)).toNat) 0 cy (by omega) (fun j a1 a2 => by omega) (by omega) sx.heap [] hP hD hS ls hl
theorem fl_X8_remember_7 : Cond.fieldLink RX8 7 "FacingPlatesModel" "all" "[I" ∈ wsX8_remember := by decide +kernel
theorem fl_X8_remember_13 : Cond.fieldLink RX8 13 "FacingPlatesModel" "kept" "[I" ∈ wsX8_remember := by decide +kernel
set_option maxHeartbeats 4000000 in
set_option maxRecDepth 100000 in
theorem c_X8_remember (l : Launch) (D : va_G) (cyI : ClassId) (v : Nat) (a0 : Nat) (a1 : Nat) (a2 : Nat) (a3 : Nat) (e4 : Int) (a5 : Nat) (e6 : Int) (a7 : Nat) (e8 : Int) (e9 : Int) (e10 : Int) (a11 : Nat) (e12 : Int) (e13 : Int) (e14 : Int) (a15 : Nat) (m : Int → Int) (kc : Int → Int) : fp_MW l yX8_remember wsX8_remember ({ frames := 1, cells := 0, slots := 0, locals := 22 } : Room) D cyI [(v, .inr (8, [.ref a0, .ref a1, .ref a2, .ref a3, .int (iI (e4)), .ref a5, .int (iI (e6)), .ref a7, .int (iI (e8)), .int (iI (e9)), .int (iI (e10)), .ref a11, .int (iI (e12)), .int (iI (e13)), .int (iI (e14)), .ref a15])), (a0, fA cyI 54 m), (a1, fA cyI 54 kc)] [.ref v] (fun (u9 : Unit) => True) (fun (u9 : Unit) => none) (fun (u9 : Unit) => [(v, .inr (8, [.ref a0, .ref a1, .ref a2, .ref a3, .int (iI (e4)), .ref a5, .int (iI (e6)), .ref a7, .int (iI (e8)), .int (iI (e9)), .int (iI (e10)), .ref a11, .int (iI (e12)), .int (iI (e13)), .int (iI (e14)), .ref a15])), (a0, fA cyI 54 m), (a1, fA cyI 54 m)]) := by
  refine fp_start (cc := cX8_remember) (maxL := 1) (ret := none) (by decide) rfl (Nat.le_of_ble_eq_true rfl) ?_
  intro pg en sx mi ar bl mt cd ls hx hb hr hts hown hlocks hml hnm hP hK hD hl
  have hown : sx.vm.findClass RX8 = some mi.cls := hown
  have hl : lv_has ls 1 [(0, .ref v)] := hl
  have hD := fp_self hD
  have hS : va_S (fp_A [(v, .inr (8, [.ref a0, .ref a1, .ref a2, .ref a3, .int (iI (e4)), .ref a5, .int (iI (e6)), .ref a7, .int (iI (e8)), .int (iI (e9)), .int (iI (e10)), .ref a11, .int (iI (e12)), .int (iI (e13)), .int (iI (e14)), .ref a15])), (a0, fA cyI 54 m), (a1, fA cyI 54 kc)]) sx.heap sx.heap [] := va_S.rf
  refine lv_aload_n hx hb dX8_remember_0 rfl (lv_at hl 0 rfl) ?_
  refine va_get (D := D) (ci := 8) (ws := [(v, .inr (8, [.ref a0, .ref a1, .ref a2, .ref a3, .int (iI (e4)), .ref a5, .int (iI (e6)), .ref a7, .int (iI (e8)), .int (iI (e9)), .int (iI (e10)), .ref a11, .int (iI (e12)), .int (iI (e13)), .int (iI (e14)), .ref a15])), (a0, fA cyI 54 m), (a1, fA cyI 54 kc)]) (v := .ref a0) (C := RX8) (T := TX8) (N := 16) hx hb hts (fun _ h => List.mem_cons_of_mem _ (List.mem_append_right _ h)) hown hK.1 hP 0 rfl rfl 0 (by decide) (hts _ fl_X8_remember_7) (fun _ h9 => h9) rfl dX8_remember_1 ?_
  refine lv_aload_n hx hb dX8_remember_4 rfl (lv_at hl 0 rfl) ?_
  refine va_get (D := D) (ci := 8) (ws := [(v, .inr (8, [.ref a0, .ref a1, .ref a2, .ref a3, .int (iI (e4)), .ref a5, .int (iI (e6)), .ref a7, .int (iI (e8)), .int (iI (e9)), .int (iI (e10)), .ref a11, .int (iI (e12)), .int (iI (e13)), .int (iI (e14)), .ref a15])), (a0, fA cyI 54 m), (a1, fA cyI 54 kc)]) (v := .ref a1) (C := RX8) (T := TX8) (N := 16) hx hb hts (fun _ h => List.mem_cons_of_mem _ (List.mem_append_right _ h)) hown hK.1 hP 0 rfl rfl 1 (by decide) (hts _ fl_X8_remember_13) (fun _ h9 => h9) rfl dX8_remember_5 ?_
  refine fp_wS (As := [.ref a0, .ref a1]) (rest := []) (wsC := [(v, .inr (8, [.ref a0, .ref a1, .ref a2, .ref a3, .int (iI (e4)), .ref a5, .int (iI (e6)), .ref a7, .int (iI (e8)), .int (iI (e9)), .int (iI (e10)), .ref a11, .int (iI (e12)), .int (iI (e13)), .int (iI (e14)), .ref a15])), (a0, fA cyI 54 m), (a1, fA cyI 54 kc)]) ⟨hx, hb, hml, hown, hts⟩ (c_X8_copy l D cyI a0 a1 m kc) (va_cwS 2 hts gX8_remember_X8_copy rfl rfl rfl (by decide +kernel) ⟨Nat.le_of_ble_eq_true rfl, Nat.le_of_ble_eq_true rfl⟩) (fun _ => rfl) hK hP hD hS [1, 2] (by decide) rfl rfl hl.1 rfl (Nat.le_of_ble_eq_true rfl) dX8_remember_8 ⟨Nat.zero_le _, Nat.zero_le _⟩ (fun u9v H locs hu hP hD hS => ?_)
  refine W.eq (g2 := F0 mi 11 ls []) rfl ?_
  have hP : va_P D vwCl [(v, .inr (8, [.ref a0, .ref a1, .ref a2, .ref a3, .int (iI (e4)), .ref a5, .int (iI (e6)), .ref a7, .int (iI (e8)), .int (iI (e9)), .int (iI (e10)), .ref a11, .int (iI (e12)), .int (iI (e13)), .int (iI (e14)), .ref a15])), (a0, fA cyI 54 m), (a1, fA cyI 54 m)] H := hP
  have hD : va_D (fp_A [(v, .inr (8, [.ref a0, .ref a1, .ref a2, .ref a3, .int (iI (e4)), .ref a5, .int (iI (e6)), .ref a7, .int (iI (e8)), .int (iI (e9)), .int (iI (e10)), .ref a11, .int (iI (e12)), .int (iI (e13)), .int (iI (e14)), .ref a15])), (a0, fA cyI 54 m), (a1, fA cyI 54 kc)]) [(v, .inr (8, [.ref a0, .ref a1, .ref a2, .ref a3, .int (iI (e4)), .ref a5, .int (iI (e6)), .ref a7, .int (iI (e8)), .int (iI (e9)), .int (iI (e10)), .ref a11, .int (iI (e12)), .int (iI (e13)), .int (iI (e14)), .ref a15])), (a0, fA cyI 54 m), (a1, fA cyI 54 m)] := hD
  exact fp_wvret () hx hb hr hlocks hS hP trivial rfl dX8_remember_11
theorem fl_X8_acted_38 : Cond.fieldLink RX8 38 "FacingPlatesModel" "historyLong" "I" ∈ wsX8_acted := by decide +kernel
theorem fl_X8_acted_19 : Cond.fieldLink RX8 19 "FacingPlatesModel" "history" "[I" ∈ wsX8_acted := by decide +kernel
theorem fl_X8_acted_13 : Cond.fieldLink RX8 13 "FacingPlatesModel" "kept" "[I" ∈ wsX8_acted := by decide +kernel
set_option maxHeartbeats 4000000 in
set_option maxRecDepth 100000 in
theorem c_X8_acted (l : Launch) (D : va_G) (cyI : ClassId) (v : Nat) (a0 : Nat) (a1 : Nat) (a2 : Nat) (a3 : Nat) (e4 : Int) (a5 : Nat) (e6 : Int) (a7 : Nat) (e8 : Int) (e9 : Int) (e10 : Int) (a11 : Nat) (e12 : Int) (e13 : Int) (e14 : Int) (a15 : Nat) (kc : Int → Int) (d : Int → Int) (z : Int) (he4 : 0 ≤ e4 ∧ e4 ≤ 4) : fp_MW l yX8_acted wsX8_acted ({ frames := 0, cells := 0, slots := 0, locals := 0 } : Room) D cyI [(v, .inr (8, [.ref a0, .ref a1, .ref a2, .ref a3, .int (iI (e4)), .ref a5, .int (iI (e6)), .ref a7, .int (iI (e8)), .int (iI (e9)), .int (iI (e10)), .ref a11, .int (iI (e12)), .int (iI (e13)), .int (iI (e14)), .ref a15])), (a1, fA cyI 54 kc), (a3, fA cyI 216 d)] [.ref v, .int (iI (z))] (fun (u9 : Unit) => True) (fun (u9 : Unit) => some (.int (iI (z)))) (fun (u9 : Unit) => [(v, .inr (8, [.ref a0, .ref a1, .ref a2, .ref a3, .int (iI (recN e4)), .ref a5, .int (iI (e6)), .ref a7, .int (iI (e8)), .int (iI (e9)), .int (iI (e10)), .ref a11, .int (iI (e12)), .int (iI (e13)), .int (iI (e14)), .ref a15])), (a1, fA cyI 54 kc), (a3, fA cyI 216 (recH d kc e4))]) := by
  refine fp_start (cc := cX8_acted) (maxL := 3) (ret := (some .int)) (by decide) rfl (Nat.le_of_ble_eq_true rfl) ?_
  intro pg en sx mi ar bl mt cd ls hx hb hr hts hown hlocks hml hnm hP hK hD hl
  have hown : sx.vm.findClass RX8 = some mi.cls := hown
  have hl : lv_has ls 3 [(0, .ref v), (1, .int (iI (z)))] := hl
  have hD := fp_self hD
  have hS : va_S (fp_A [(v, .inr (8, [.ref a0, .ref a1, .ref a2, .ref a3, .int (iI (e4)), .ref a5, .int (iI (e6)), .ref a7, .int (iI (e8)), .int (iI (e9)), .int (iI (e10)), .ref a11, .int (iI (e12)), .int (iI (e13)), .int (iI (e14)), .ref a15])), (a1, fA cyI 54 kc), (a3, fA cyI 216 d)]) sx.heap sx.heap [] := va_S.rf
  refine lv_aload_n hx hb dX8_acted_0 rfl (lv_at hl 0 rfl) ?_
  refine va_get (D := D) (ci := 8) (ws := [(v, .inr (8, [.ref a0, .ref a1, .ref a2, .ref a3, .int (iI (e4)), .ref a5, .int (iI (e6)), .ref a7, .int (iI (e8)), .int (iI (e9)), .int (iI (e10)), .ref a11, .int (iI (e12)), .int (iI (e13)), .int (iI (e14)), .ref a15])), (a1, fA cyI 54 kc), (a3, fA cyI 216 d)]) (v := .int (iI (e4))) (C := RX8) (T := TX8) (N := 16) hx hb hts (fun _ h => List.mem_cons_of_mem _ (List.mem_append_right _ h)) hown hK.1 hP 0 rfl rfl 4 (by decide) (hts _ fl_X8_acted_38) (fun _ h9 => h9) rfl dX8_acted_1 ?_
  refine fp_iconst hx hb dX8_acted_4 ?_
  have jn0 : ∀ (hd7 : Int → Int) (n7 : Int), (hd7 = if 4 ≤ e4 then cpI d d 0 54 162 else d) → (n7 = if 4 ≤ e4 then 3 else e4) → ∀ (H : Heap) (locs : List Loc), va_P D vwCl [(v, .inr (8, [.ref a0, .ref a1, .ref a2, .ref a3, .int (iI (n7)), .ref a5, .int (iI (e6)), .ref a7, .int (iI (e8)), .int (iI (e9)), .int (iI (e10)), .ref a11, .int (iI (e12)), .int (iI (e13)), .int (iI (e14)), .ref a15])), (a1, fA cyI 54 kc), (a3, fA cyI 216 hd7)] H → va_D (fp_A [(v, .inr (8, [.ref a0, .ref a1, .ref a2, .ref a3, .int (iI (e4)), .ref a5, .int (iI (e6)), .ref a7, .int (iI (e8)), .int (iI (e9)), .int (iI (e10)), .ref a11, .int (iI (e12)), .int (iI (e13)), .int (iI (e14)), .ref a15])), (a1, fA cyI 54 kc), (a3, fA cyI 216 d)]) [(v, .inr (8, [.ref a0, .ref a1, .ref a2, .ref a3, .int (iI (n7)), .ref a5, .int (iI (e6)), .ref a7, .int (iI (e8)), .int (iI (e9)), .int (iI (e10)), .ref a11, .int (iI (e12)), .int (iI (e13)), .int (iI (e14)), .ref a15])), (a1, fA cyI 54 kc), (a3, fA cyI 216 hd7)] → va_S (fp_A [(v, .inr (8, [.ref a0, .ref a1, .ref a2, .ref a3, .int (iI (e4)), .ref a5, .int (iI (e6)), .ref a7, .int (iI (e8)), .int (iI (e9)), .int (iI (e10)), .ref a11, .int (iI (e12)), .int (iI (e13)), .int (iI (e14)), .ref a15])), (a1, fA cyI 54 kc), (a3, fA cyI 216 d)]) sx.heap H locs → ∀ (ls : Array Slot), lv_has ls 3 [(0, .ref v), (1, .int (iI (z)))] → W pg l en ({ frames := 0, cells := 0, slots := 0, locals := 0 } : Room) sx mi ar bl mt cd H locs 0 0 (MQ bl (fp_Qw D [(v, .inr (8, [.ref a0, .ref a1, .ref a2, .ref a3, .int (iI (e4)), .ref a5, .int (iI (e6)), .ref a7, .int (iI (e8)), .int (iI (e9)), .int (iI (e10)), .ref a11, .int (iI (e12)), .int (iI (e13)), .int (iI (e14)), .ref a15])), (a1, fA cyI 54 kc), (a3, fA cyI 216 d)] (fun (u9 : Unit) => True) (fun (u9 : Unit) => some (.int (iI (z)))) (fun (u9 : Unit) => [(v, .inr (8, [.ref a0, .ref a1, .ref a2, .ref a3, .int (iI (recN e4)), .ref a5, .int (iI (e6)), .ref a7, .int (iI (e8)), .int (iI (e9)), .int (iI (e10)), .ref a11, .int (iI (e12)), .int (iI (e13)), .int (iI (e14)), .ref a15])), (a1, fA cyI 54 kc), (a3, fA cyI 216 (recH d kc e4))])) ar sx 0 0 (fp_A [(v, .inr (8, [.ref a0, .ref a1, .ref a2, .ref a3, .int (iI (e4)), .ref a5, .int (iI (e6)), .ref a7, .int (iI (e8)), .int (iI (e9)), .int (iI (e10)), .ref a11, .int (iI (e12)), .int (iI (e13)), .int (iI (e14)), .ref a15])), (a1, fA cyI 54 kc), (a3, fA cyI 216 d)])) (F0 mi 48 ls []) := by
    intro hd7 n7 jd jn H locs hP hD hS ls hl
    have hn7 : 0 ≤ n7 ∧ n7 ≤ 3 := by rw [jn]; split <;> omega
    refine fp_iconst hx hb dX8_acted_48 ?_
    refine lv_istore_n (lv' := [(2, .int (iI (0))), (0, .ref v), (1, .int (iI (z)))]) hx hb dX8_acted_49 rfl hl (by decide) rfl (fun ls hl => ?_)
    have hl := lv_sub hl (l' := [(0, .ref v), (1, .int (iI (z))), (2, .int (iI (0)))]) [1, 2, 0] rfl
    have lp1 : ∀ (nf : Nat) (i : Int) (f : Int → Int), (0 ≤ i ∧ i ≤ 54) → (f = cpI hd7 kc (n7 * 54) 0 i) → (54 + 1 ≤ i + (nf : Int)) → ∀ (H : Heap) (locs : List Loc), va_P D vwCl [(v, .inr (8, [.ref a0, .ref a1, .ref a2, .ref a3, .int (iI (n7)), .ref a5, .int (iI (e6)), .ref a7, .int (iI (e8)), .int (iI (e9)), .int (iI (e10)), .ref a11, .int (iI (e12)), .int (iI (e13)), .int (iI (e14)), .ref a15])), (a1, fA cyI 54 kc), (a3, fA cyI 216 f)] H → va_D (fp_A [(v, .inr (8, [.ref a0, .ref a1, .ref a2, .ref a3, .int (iI (e4)), .ref a5, .int (iI (e6)), .ref a7, .int (iI (e8)), .int (iI (e9)), .int (iI (e10)), .ref a11, .int (iI (e12)), .int (iI (e13)), .int (iI (e14)), .ref a15])), (a1, fA cyI 54 kc), (a3, fA cyI 216 d)]) [(v, .inr (8, [.ref a0, .ref a1, .ref a2, .ref a3, .int (iI (n7)), .ref a5, .int (iI (e6)), .ref a7, .int (iI (e8)), .int (iI (e9)), .int (iI (e10)), .ref a11, .int (iI (e12)), .int (iI (e13)), .int (iI (e14)), .ref a15])), (a1, fA cyI 54 kc), (a3, fA cyI 216 f)] → va_S (fp_A [(v, .inr (8, [.ref a0, .ref a1, .ref a2, .ref a3, .int (iI (e4)), .ref a5, .int (iI (e6)), .ref a7, .int (iI (e8)), .int (iI (e9)), .int (iI (e10)), .ref a11, .int (iI (e12)), .int (iI (e13)), .int (iI (e14)), .ref a15])), (a1, fA cyI 54 kc), (a3, fA cyI 216 d)]) sx.heap H locs → ∀ (ls : Array Slot), lv_has ls 3 [(0, .ref v), (1, .int (iI (z))), (2, .int (iI (i)))] → W pg l en ({ frames := 0, cells := 0, slots := 0, locals := 0 } : Room) sx mi ar bl mt cd H locs 0 0 (MQ bl (fp_Qw D [(v, .inr (8, [.ref a0, .ref a1, .ref a2, .ref a3, .int (iI (e4)), .ref a5, .int (iI (e6)), .ref a7, .int (iI (e8)), .int (iI (e9)), .int (iI (e10)), .ref a11, .int (iI (e12)), .int (iI (e13)), .int (iI (e14)), .ref a15])), (a1, fA cyI 54 kc), (a3, fA cyI 216 d)] (fun (u9 : Unit) => True) (fun (u9 : Unit) => some (.int (iI (z)))) (fun (u9 : Unit) => [(v, .inr (8, [.ref a0, .ref a1, .ref a2, .ref a3, .int (iI (recN e4)), .ref a5, .int (iI (e6)), .ref a7, .int (iI (e8)), .int (iI (e9)), .int (iI (e10)), .ref a11, .int (iI (e12)), .int (iI (e13)), .int (iI (e14)), .ref a15])), (a1, fA cyI 54 kc), (a3, fA cyI 216 (recH d kc e4))])) ar sx 0 0 (fp_A [(v, .inr (8, [.ref a0, .ref a1, .ref a2, .ref a3, .int (iI (e4)), .ref a5, .int (iI (e6)), .ref a7, .int (iI (e8)), .int (iI (e9)), .int (iI (e10)), .ref a11, .int (iI (e12)), .int (iI (e13)), .int (iI (e14)), .ref a15])), (a1, fA cyI 54 kc), (a3, fA cyI 216 d)])) (F0 mi 50 ls []) := by
      intro nf
      induction nf with
      | zero =>
        intro i f ii jf hfuel
        exact absurd hfuel (by omega)
      | succ nf ih1 =>
        intro i f ii jf hfuel H locs hP hD hS ls hl
        refine lv_iload_n hx hb dX8_acted_50 rfl (lv_at hl 2 rfl) ?_
        refine fp_bipush hx hb dX8_acted_51 (by decide) ?_
        refine fp_icmp_ge (tgt := 82) hx hb (by omega) dX8_acted_53 (by decide) (fun q53 => ?_) (fun q53 => ?_)
        · skip
          refine lv_aload_n hx hb dX8_acted_82 rfl (lv_at hl 0 rfl) ?_
          refine lv_dup hx hb dX8_acted_83 rfl ?_
          refine va_get (D := D) (ci := 8) (ws := [(v, .inr (8, [.ref a0, .ref a1, .ref a2, .ref a3, .int (iI (n7)), .ref a5, .int (iI (e6)), .ref a7, .int (iI (e8)), .int (iI (e9)), .int (iI (e10)), .ref a11, .int (iI (e12)), .int (iI (e13)), .int (iI (e14)), .ref a15])), (a1, fA cyI 54 kc), (a3, fA cyI 216 f)]) (v := .int (iI (n7))) (C := RX8) (T := TX8) (N := 16) hx hb hts (fun _ h => List.mem_cons_of_mem _ (List.mem_append_right _ h)) hown hK.1 hP 0 rfl rfl 4 (by decide) (hts _ fl_X8_acted_38) (fun _ h9 => h9) rfl dX8_acted_84 ?_
          refine fp_iconst hx hb dX8_acted_87 ?_
          refine fp_iadd hx hb dX8_acted_88 ?_
          refine va_put (D := D) (ci := 8) (ws := [(v, .inr (8, [.ref a0, .ref a1, .ref a2, .ref a3, .int (iI (n7)), .ref a5, .int (iI (e6)), .ref a7, .int (iI (e8)), .int (iI (e9)), .int (iI (e10)), .ref a11, .int (iI (e12)), .int (iI (e13)), .int (iI (e14)), .ref a15])), (a1, fA cyI 54 kc), (a3, fA cyI 216 f)]) (v := .int (iI (n7 + 1))) (ty := .int) (C := RX8) (T := TX8) (N := 16) hx hb hts (fun _ h => List.mem_cons_of_mem _ (List.mem_append_right _ h)) tyX8 tyX8_ok nmX8 hown hK.1 hP hD hS 0 rfl rfl 4 (by decide) (hts _ fl_X8_acted_38) (fun _ h9 => h9) rfl (by decide +kernel) rfl rfl (Nat.le_of_ble_eq_true rfl) dX8_acted_89 (fun H locs hP hD hS => ?_)
          have hP : va_P D vwCl [(v, .inr (8, [.ref a0, .ref a1, .ref a2, .ref a3, .int (iI (n7 + 1)), .ref a5, .int (iI (e6)), .ref a7, .int (iI (e8)), .int (iI (e9)), .int (iI (e10)), .ref a11, .int (iI (e12)), .int (iI (e13)), .int (iI (e14)), .ref a15])), (a1, fA cyI 54 kc), (a3, fA cyI 216 f)] H := hP
          have hD : va_D (fp_A [(v, .inr (8, [.ref a0, .ref a1, .ref a2, .ref a3, .int (iI (e4)), .ref a5, .int (iI (e6)), .ref a7, .int (iI (e8)), .int (iI (e9)), .int (iI (e10)), .ref a11, .int (iI (e12)), .int (iI (e13)), .int (iI (e14)), .ref a15])), (a1, fA cyI 54 kc), (a3, fA cyI 216 d)]) [(v, .inr (8, [.ref a0, .ref a1, .ref a2, .ref a3, .int (iI (n7 + 1)), .ref a5, .int (iI (e6)), .ref a7, .int (iI (e8)), .int (iI (e9)), .int (iI (e10)), .ref a11, .int (iI (e12)), .int (iI (e13)), .int (iI (e14)), .ref a15])), (a1, fA cyI 54 kc), (a3, fA cyI 216 f)] := hD
          refine lv_iload_n hx hb dX8_acted_92 rfl (lv_at hl 1 rfl) ?_
          have eh : f = recH d kc e4 := by
            rw [jf, show i = 54 by omega, jd, jn]
            unfold recH
            by_cases e : 4 ≤ e4
            · rw [if_pos e, if_pos e, if_pos e]; rfl
            · rw [if_neg e, if_neg e, if_neg e]
          have hP : va_P D vwCl [(v, .inr (8, [.ref a0, .ref a1, .ref a2, .ref a3, .int (iI (recN e4)), .ref a5, .int (iI (e6)), .ref a7, .int (iI (e8)), .int (iI (e9)), .int (iI (e10)), .ref a11, .int (iI (e12)), .int (iI (e13)), .int (iI (e14)), .ref a15])), (a1, fA cyI 54 kc), (a3, fA cyI 216 (recH d kc e4))] H := by
            rw [(show (f : Int → Int) = recH d kc e4 from eh).symm]
            rw [(show (n7 + 1 : Int) = recN e4 from (by unfold recN; rw [jn]; split <;> omega)).symm]
            exact hP
          have hret : (z : Int) = z := rfl
          exact fp_wret () hx hb hr hlocks hS hP trivial (congrArg (fun z : Int => some (Value.int (iI z))) hret) dX8_acted_93
        · skip
          refine lv_aload_n hx hb dX8_acted_56 rfl (lv_at hl 0 rfl) ?_
          refine va_get (D := D) (ci := 8) (ws := [(v, .inr (8, [.ref a0, .ref a1, .ref a2, .ref a3, .int (iI (n7)), .ref a5, .int (iI (e6)), .ref a7, .int (iI (e8)), .int (iI (e9)), .int (iI (e10)), .ref a11, .int (iI (e12)), .int (iI (e13)), .int (iI (e14)), .ref a15])), (a1, fA cyI 54 kc), (a3, fA cyI 216 f)]) (v := .ref a3) (C := RX8) (T := TX8) (N := 16) hx hb hts (fun _ h => List.mem_cons_of_mem _ (List.mem_append_right _ h)) hown hK.1 hP 0 rfl rfl 3 (by decide) (hts _ fl_X8_acted_19) (fun _ h9 => h9) rfl dX8_acted_57 ?_
          refine fp_bipush hx hb dX8_acted_60 (by decide) ?_
          refine lv_aload_n hx hb dX8_acted_62 rfl (lv_at hl 0 rfl) ?_
          refine va_get (D := D) (ci := 8) (ws := [(v, .inr (8, [.ref a0, .ref a1, .ref a2, .ref a3, .int (iI (n7)), .ref a5, .int (iI (e6)), .ref a7, .int (iI (e8)), .int (iI (e9)), .int (iI (e10)), .ref a11, .int (iI (e12)), .int (iI (e13)), .int (iI (e14)), .ref a15])), (a1, fA cyI 54 kc), (a3, fA cyI 216 f)]) (v := .int (iI (n7))) (C := RX8) (T := TX8) (N := 16) hx hb hts (fun _ h => List.mem_cons_of_mem _ (List.mem_append_right _ h)) hown hK.1 hP 0 rfl rfl 4 (by decide) (hts _ fl_X8_acted_38) (fun _ h9 => h9) rfl dX8_acted_63 ?_
          refine fp_imul hx hb dX8_acted_66 ?_
          refine lv_iload_n hx hb dX8_acted_67 rfl (lv_at hl 2 rfl) ?_
          refine fp_iadd hx hb dX8_acted_68 ?_
          refine lv_aload_n hx hb dX8_acted_69 rfl (lv_at hl 0 rfl) ?_
          refine va_get (D := D) (ci := 8) (ws := [(v, .inr (8, [.ref a0, .ref a1, .ref a2, .ref a3, .int (iI (n7)), .ref a5, .int (iI (e6)), .ref a7, .int (iI (e8)), .int (iI (e9)), .int (iI (e10)), .ref a11, .int (iI (e12)), .int (iI (e13)), .int (iI (e14)), .ref a15])), (a1, fA cyI 54 kc), (a3, fA cyI 216 f)]) (v := .ref a1) (C := RX8) (T := TX8) (N := 16) hx hb hts (fun _ h => List.mem_cons_of_mem _ (List.mem_append_right _ h)) hown hK.1 hP 0 rfl rfl 1 (by decide) (hts _ fl_X8_acted_13) (fun _ h9 => h9) rfl dX8_acted_70 ?_
          refine lv_iload_n hx hb dX8_acted_73 rfl (lv_at hl 2 rfl) ?_
          refine fp_iald (wsC := [(v, .inr (8, [.ref a0, .ref a1, .ref a2, .ref a3, .int (iI (n7)), .ref a5, .int (iI (e6)), .ref a7, .int (iI (e8)), .int (iI (e9)), .int (iI (e10)), .ref a11, .int (iI (e12)), .int (iI (e13)), .int (iI (e14)), .ref a15])), (a1, fA cyI 54 kc), (a3, fA cyI 216 f)]) hx hb hK hP 1 rfl (by omega) (by decide) dX8_acted_74 ?_
          refine fp_iast (wsC := [(v, .inr (8, [.ref a0, .ref a1, .ref a2, .ref a3, .int (iI (n7)), .ref a5, .int (iI (e6)), .ref a7, .int (iI (e8)), .int (iI (e9)), .int (iI (e10)), .ref a11, .int (iI (e12)), .int (iI (e13)), .int (iI (e14)), .ref a15])), (a1, fA cyI 54 kc), (a3, fA cyI 216 f)]) hx hb hK hP hD hS 2 rfl (by omega) (by decide) dX8_acted_75 (fun H locs hP hD hS => ?_)
          have hP : va_P D vwCl [(v, .inr (8, [.ref a0, .ref a1, .ref a2, .ref a3, .int (iI (n7)), .ref a5, .int (iI (e6)), .ref a7, .int (iI (e8)), .int (iI (e9)), .int (iI (e10)), .ref a11, .int (iI (e12)), .int (iI (e13)), .int (iI (e14)), .ref a15])), (a1, fA cyI 54 kc), (a3, fA cyI 216 (upI (f) ((54 * n7) + i) (kc i)))] H := hP
          have hD : va_D (fp_A [(v, .inr (8, [.ref a0, .ref a1, .ref a2, .ref a3, .int (iI (e4)), .ref a5, .int (iI (e6)), .ref a7, .int (iI (e8)), .int (iI (e9)), .int (iI (e10)), .ref a11, .int (iI (e12)), .int (iI (e13)), .int (iI (e14)), .ref a15])), (a1, fA cyI 54 kc), (a3, fA cyI 216 d)]) [(v, .inr (8, [.ref a0, .ref a1, .ref a2, .ref a3, .int (iI (n7)), .ref a5, .int (iI (e6)), .ref a7, .int (iI (e8)), .int (iI (e9)), .int (iI (e10)), .ref a11, .int (iI (e12)), .int (iI (e13)), .int (iI (e14)), .ref a15])), (a1, fA cyI 54 kc), (a3, fA cyI 216 (upI (f) ((54 * n7) + i) (kc i)))] := hD
          refine fp_iinc (k := 2) (lv' := [(2, .int (iI (i + 1))), (0, .ref v), (1, .int (iI (z)))]) hx hb dX8_acted_76 hl rfl (by decide) rfl (fun ls hl => ?_)
          refine lv_goto (tgt := 50) hx hb dX8_acted_79 (by decide) ?_
          have hjf : upI f (54 * n7 + i) (kc i) = cpI hd7 kc (n7 * 54) 0 (i + 1) := by
            have e1 := cpI_s hd7 kc (n7 * 54) 0 i ii.1
            rw [Int.zero_add] at e1
            rw [jf, show 54 * n7 + i = n7 * 54 + i by omega]
            exact e1
          exact ih1 (i + 1) (upI (f) ((54 * n7) + i) (kc i)) (by omega) hjf (by omega) H locs hP hD hS ls (lv_sub hl [1, 2, 0] rfl)
    exact lp1 (((54 : Int) + 1 - (0)).toNat) 0 hd7 (by omega) (cpI_0 _ _ _ _).symm (by omega) H locs hP hD hS ls hl
  refine fp_icmp_ne (tgt := 48) hx hb (by omega) dX8_acted_5 (by decide) (fun q5 => ?_) (fun q5 => ?_)
  · skip
    exact jn0 d e4 (by first | rw [if_neg (by omega)] | (rw [if_pos (by omega), jf, show i = 162 by omega])) (by split <;> omega) sx.heap [] hP hD hS ls (lv_sub hl [0, 1] rfl)
  · skip
    refine fp_iconst hx hb dX8_acted_8 ?_
    refine lv_istore_n (lv' := [(2, .int (iI (0))), (0, .ref v), (1, .int (iI (z)))]) hx hb dX8_acted_9 rfl hl (by decide) rfl (fun ls hl => ?_)
    have hl := lv_sub hl (l' := [(0, .ref v), (1, .int (iI (z))), (2, .int (iI (0)))]) [1, 2, 0] rfl
    have lp4 : ∀ (nf : Nat) (i : Int) (f : Int → Int), (0 ≤ i ∧ i ≤ 162) → (f = cpI d d 0 54 i) → (162 + 1 ≤ i + (nf : Int)) → ∀ (H : Heap) (locs : List Loc), va_P D vwCl [(v, .inr (8, [.ref a0, .ref a1, .ref a2, .ref a3, .int (iI (e4)), .ref a5, .int (iI (e6)), .ref a7, .int (iI (e8)), .int (iI (e9)), .int (iI (e10)), .ref a11, .int (iI (e12)), .int (iI (e13)), .int (iI (e14)), .ref a15])), (a1, fA cyI 54 kc), (a3, fA cyI 216 f)] H → va_D (fp_A [(v, .inr (8, [.ref a0, .ref a1, .ref a2, .ref a3, .int (iI (e4)), .ref a5, .int (iI (e6)), .ref a7, .int (iI (e8)), .int (iI (e9)), .int (iI (e10)), .ref a11, .int (iI (e12)), .int (iI (e13)), .int (iI (e14)), .ref a15])), (a1, fA cyI 54 kc), (a3, fA cyI 216 d)]) [(v, .inr (8, [.ref a0, .ref a1, .ref a2, .ref a3, .int (iI (e4)), .ref a5, .int (iI (e6)), .ref a7, .int (iI (e8)), .int (iI (e9)), .int (iI (e10)), .ref a11, .int (iI (e12)), .int (iI (e13)), .int (iI (e14)), .ref a15])), (a1, fA cyI 54 kc), (a3, fA cyI 216 f)] → va_S (fp_A [(v, .inr (8, [.ref a0, .ref a1, .ref a2, .ref a3, .int (iI (e4)), .ref a5, .int (iI (e6)), .ref a7, .int (iI (e8)), .int (iI (e9)), .int (iI (e10)), .ref a11, .int (iI (e12)), .int (iI (e13)), .int (iI (e14)), .ref a15])), (a1, fA cyI 54 kc), (a3, fA cyI 216 d)]) sx.heap H locs → ∀ (ls : Array Slot), lv_has ls 3 [(0, .ref v), (1, .int (iI (z))), (2, .int (iI (i)))] → W pg l en ({ frames := 0, cells := 0, slots := 0, locals := 0 } : Room) sx mi ar bl mt cd H locs 0 0 (MQ bl (fp_Qw D [(v, .inr (8, [.ref a0, .ref a1, .ref a2, .ref a3, .int (iI (e4)), .ref a5, .int (iI (e6)), .ref a7, .int (iI (e8)), .int (iI (e9)), .int (iI (e10)), .ref a11, .int (iI (e12)), .int (iI (e13)), .int (iI (e14)), .ref a15])), (a1, fA cyI 54 kc), (a3, fA cyI 216 d)] (fun (u9 : Unit) => True) (fun (u9 : Unit) => some (.int (iI (z)))) (fun (u9 : Unit) => [(v, .inr (8, [.ref a0, .ref a1, .ref a2, .ref a3, .int (iI (recN e4)), .ref a5, .int (iI (e6)), .ref a7, .int (iI (e8)), .int (iI (e9)), .int (iI (e10)), .ref a11, .int (iI (e12)), .int (iI (e13)), .int (iI (e14)), .ref a15])), (a1, fA cyI 54 kc), (a3, fA cyI 216 (recH d kc e4))])) ar sx 0 0 (fp_A [(v, .inr (8, [.ref a0, .ref a1, .ref a2, .ref a3, .int (iI (e4)), .ref a5, .int (iI (e6)), .ref a7, .int (iI (e8)), .int (iI (e9)), .int (iI (e10)), .ref a11, .int (iI (e12)), .int (iI (e13)), .int (iI (e14)), .ref a15])), (a1, fA cyI 54 kc), (a3, fA cyI 216 d)])) (F0 mi 10 ls []) := by
      intro nf
      induction nf with
      | zero =>
        intro i f ii jf hfuel
        exact absurd hfuel (by omega)
      | succ nf ih4 =>
        intro i f ii jf hfuel H locs hP hD hS ls hl
        refine lv_iload_n hx hb dX8_acted_10 rfl (lv_at hl 2 rfl) ?_
        refine fp_sipush hx hb dX8_acted_11 (by decide) ?_
        refine fp_icmp_ge (tgt := 38) hx hb (by omega) dX8_acted_14 (by decide) (fun q14 => ?_) (fun q14 => ?_)
        · skip
          refine lv_aload_n hx hb dX8_acted_38 rfl (lv_at hl 0 rfl) ?_
          refine lv_dup hx hb dX8_acted_39 rfl ?_
          refine va_get (D := D) (ci := 8) (ws := [(v, .inr (8, [.ref a0, .ref a1, .ref a2, .ref a3, .int (iI (e4)), .ref a5, .int (iI (e6)), .ref a7, .int (iI (e8)), .int (iI (e9)), .int (iI (e10)), .ref a11, .int (iI (e12)), .int (iI (e13)), .int (iI (e14)), .ref a15])), (a1, fA cyI 54 kc), (a3, fA cyI 216 f)]) (v := .int (iI (e4))) (C := RX8) (T := TX8) (N := 16) hx hb hts (fun _ h => List.mem_cons_of_mem _ (List.mem_append_right _ h)) hown hK.1 hP 0 rfl rfl 4 (by decide) (hts _ fl_X8_acted_38) (fun _ h9 => h9) rfl dX8_acted_40 ?_
          refine fp_iconst hx hb dX8_acted_43 ?_
          refine fp_isub hx hb dX8_acted_44 ?_
          refine va_put (D := D) (ci := 8) (ws := [(v, .inr (8, [.ref a0, .ref a1, .ref a2, .ref a3, .int (iI (e4)), .ref a5, .int (iI (e6)), .ref a7, .int (iI (e8)), .int (iI (e9)), .int (iI (e10)), .ref a11, .int (iI (e12)), .int (iI (e13)), .int (iI (e14)), .ref a15])), (a1, fA cyI 54 kc), (a3, fA cyI 216 f)]) (v := .int (iI (e4 - 1))) (ty := .int) (C := RX8) (T := TX8) (N := 16) hx hb hts (fun _ h => List.mem_cons_of_mem _ (List.mem_append_right _ h)) tyX8 tyX8_ok nmX8 hown hK.1 hP hD hS 0 rfl rfl 4 (by decide) (hts _ fl_X8_acted_38) (fun _ h9 => h9) rfl (by decide +kernel) rfl rfl (Nat.le_of_ble_eq_true rfl) dX8_acted_45 (fun H locs hP hD hS => ?_)
          have hP : va_P D vwCl [(v, .inr (8, [.ref a0, .ref a1, .ref a2, .ref a3, .int (iI (e4 - 1)), .ref a5, .int (iI (e6)), .ref a7, .int (iI (e8)), .int (iI (e9)), .int (iI (e10)), .ref a11, .int (iI (e12)), .int (iI (e13)), .int (iI (e14)), .ref a15])), (a1, fA cyI 54 kc), (a3, fA cyI 216 f)] H := hP
          have hD : va_D (fp_A [(v, .inr (8, [.ref a0, .ref a1, .ref a2, .ref a3, .int (iI (e4)), .ref a5, .int (iI (e6)), .ref a7, .int (iI (e8)), .int (iI (e9)), .int (iI (e10)), .ref a11, .int (iI (e12)), .int (iI (e13)), .int (iI (e14)), .ref a15])), (a1, fA cyI 54 kc), (a3, fA cyI 216 d)]) [(v, .inr (8, [.ref a0, .ref a1, .ref a2, .ref a3, .int (iI (e4 - 1)), .ref a5, .int (iI (e6)), .ref a7, .int (iI (e8)), .int (iI (e9)), .int (iI (e10)), .ref a11, .int (iI (e12)), .int (iI (e13)), .int (iI (e14)), .ref a15])), (a1, fA cyI 54 kc), (a3, fA cyI 216 f)] := hD
          exact jn0 f (e4 - 1) (by first | rw [if_neg (by omega)] | (rw [if_pos (by omega), jf, show i = 162 by omega])) (by split <;> omega) H locs hP hD hS ls (lv_sub hl [0, 1] rfl)
        · skip
          refine lv_aload_n hx hb dX8_acted_17 rfl (lv_at hl 0 rfl) ?_
          refine va_get (D := D) (ci := 8) (ws := [(v, .inr (8, [.ref a0, .ref a1, .ref a2, .ref a3, .int (iI (e4)), .ref a5, .int (iI (e6)), .ref a7, .int (iI (e8)), .int (iI (e9)), .int (iI (e10)), .ref a11, .int (iI (e12)), .int (iI (e13)), .int (iI (e14)), .ref a15])), (a1, fA cyI 54 kc), (a3, fA cyI 216 f)]) (v := .ref a3) (C := RX8) (T := TX8) (N := 16) hx hb hts (fun _ h => List.mem_cons_of_mem _ (List.mem_append_right _ h)) hown hK.1 hP 0 rfl rfl 3 (by decide) (hts _ fl_X8_acted_19) (fun _ h9 => h9) rfl dX8_acted_18 ?_
          refine lv_iload_n hx hb dX8_acted_21 rfl (lv_at hl 2 rfl) ?_
          refine lv_aload_n hx hb dX8_acted_22 rfl (lv_at hl 0 rfl) ?_
          refine va_get (D := D) (ci := 8) (ws := [(v, .inr (8, [.ref a0, .ref a1, .ref a2, .ref a3, .int (iI (e4)), .ref a5, .int (iI (e6)), .ref a7, .int (iI (e8)), .int (iI (e9)), .int (iI (e10)), .ref a11, .int (iI (e12)), .int (iI (e13)), .int (iI (e14)), .ref a15])), (a1, fA cyI 54 kc), (a3, fA cyI 216 f)]) (v := .ref a3) (C := RX8) (T := TX8) (N := 16) hx hb hts (fun _ h => List.mem_cons_of_mem _ (List.mem_append_right _ h)) hown hK.1 hP 0 rfl rfl 3 (by decide) (hts _ fl_X8_acted_19) (fun _ h9 => h9) rfl dX8_acted_23 ?_
          refine lv_iload_n hx hb dX8_acted_26 rfl (lv_at hl 2 rfl) ?_
          refine fp_bipush hx hb dX8_acted_27 (by decide) ?_
          refine fp_iadd hx hb dX8_acted_29 ?_
          refine fp_iald (wsC := [(v, .inr (8, [.ref a0, .ref a1, .ref a2, .ref a3, .int (iI (e4)), .ref a5, .int (iI (e6)), .ref a7, .int (iI (e8)), .int (iI (e9)), .int (iI (e10)), .ref a11, .int (iI (e12)), .int (iI (e13)), .int (iI (e14)), .ref a15])), (a1, fA cyI 54 kc), (a3, fA cyI 216 f)]) hx hb hK hP 2 rfl (by omega) (by decide) dX8_acted_30 ?_
          refine fp_iast (wsC := [(v, .inr (8, [.ref a0, .ref a1, .ref a2, .ref a3, .int (iI (e4)), .ref a5, .int (iI (e6)), .ref a7, .int (iI (e8)), .int (iI (e9)), .int (iI (e10)), .ref a11, .int (iI (e12)), .int (iI (e13)), .int (iI (e14)), .ref a15])), (a1, fA cyI 54 kc), (a3, fA cyI 216 f)]) hx hb hK hP hD hS 2 rfl (by omega) (by decide) dX8_acted_31 (fun H locs hP hD hS => ?_)
          have hP : va_P D vwCl [(v, .inr (8, [.ref a0, .ref a1, .ref a2, .ref a3, .int (iI (e4)), .ref a5, .int (iI (e6)), .ref a7, .int (iI (e8)), .int (iI (e9)), .int (iI (e10)), .ref a11, .int (iI (e12)), .int (iI (e13)), .int (iI (e14)), .ref a15])), (a1, fA cyI 54 kc), (a3, fA cyI 216 (upI (f) (i) (f (i + 54))))] H := hP
          have hD : va_D (fp_A [(v, .inr (8, [.ref a0, .ref a1, .ref a2, .ref a3, .int (iI (e4)), .ref a5, .int (iI (e6)), .ref a7, .int (iI (e8)), .int (iI (e9)), .int (iI (e10)), .ref a11, .int (iI (e12)), .int (iI (e13)), .int (iI (e14)), .ref a15])), (a1, fA cyI 54 kc), (a3, fA cyI 216 d)]) [(v, .inr (8, [.ref a0, .ref a1, .ref a2, .ref a3, .int (iI (e4)), .ref a5, .int (iI (e6)), .ref a7, .int (iI (e8)), .int (iI (e9)), .int (iI (e10)), .ref a11, .int (iI (e12)), .int (iI (e13)), .int (iI (e14)), .ref a15])), (a1, fA cyI 54 kc), (a3, fA cyI 216 (upI (f) (i) (f (i + 54))))] := hD
          refine fp_iinc (k := 2) (lv' := [(2, .int (iI (i + 1))), (0, .ref v), (1, .int (iI (z)))]) hx hb dX8_acted_32 hl rfl (by decide) rfl (fun ls hl => ?_)
          refine lv_goto (tgt := 10) hx hb dX8_acted_35 (by decide) ?_
          have hjf : upI f i (f (i + 54)) = cpI d d 0 54 (i + 1) := by
            have e1 := cpI_s d d 0 54 i ii.1
            rw [Int.zero_add] at e1
            rw [jf, cpI_out (j := i + 54) (by omega), show i + 54 = 54 + i by omega]
            exact e1
          exact ih4 (i + 1) (upI (f) (i) (f (i + 54))) (by omega) hjf (by omega) H locs hP hD hS ls (lv_sub hl [1, 2, 0] rfl)
    exact lp4 (((162 : Int) + 1 - (0)).toNat) 0 d (by omega) (cpI_0 _ _ _ _).symm (by omega) sx.heap [] hP hD hS ls hl
theorem fl_X8_puts_7 : Cond.fieldLink RX8 7 "FacingPlatesModel" "all" "[I" ∈ wsX8_puts := by decide +kernel
set_option maxHeartbeats 4000000 in
set_option maxRecDepth 100000 in
theorem c_X8_puts (l : Launch) (D : va_G) (cyI : ClassId) (v : Nat) (a0 : Nat) (a1 : Nat) (a2 : Nat) (a3 : Nat) (e4 : Int) (a5 : Nat) (e6 : Int) (a7 : Nat) (e8 : Int) (e9 : Int) (e10 : Int) (a11 : Nat) (e12 : Int) (e13 : Int) (e14 : Int) (a15 : Nat) (m : Int → Int) (k : Int) (t : Int) (p : Int) (b : Int) (q : Int) (hk : 0 ≤ k ∧ k < 12) : fp_MW l yX8_puts wsX8_puts ({ frames := 0, cells := 0, slots := 0, locals := 0 } : Room) D cyI [(v, .inr (8, [.ref a0, .ref a1, .ref a2, .ref a3, .int (iI (e4)), .ref a5, .int (iI (e6)), .ref a7, .int (iI (e8)), .int (iI (e9)), .int (iI (e10)), .ref a11, .int (iI (e12)), .int (iI (e13)), .int (iI (e14)), .ref a15])), (a0, fA cyI 54 m)] [.ref v, .int (iI (k)), .int (iI (t)), .int (iI (p)), .int (iI (b)), .int (iI (q))] (fun (u9 : Unit) => True) (fun (u9 : Unit) => none) (fun (u9 : Unit) => [(v, .inr (8, [.ref a0, .ref a1, .ref a2, .ref a3, .int (iI (e4)), .ref a5, .int (iI (e6)), .ref a7, .int (iI (e8)), .int (iI (e9)), .int (iI (e10)), .ref a11, .int (iI (e12)), .int (iI (e13)), .int (iI (e14)), .ref a15])), (a0, fA cyI 54 (puM m k t p b q))]) := by
  refine fp_start (cc := cX8_puts) (maxL := 6) (ret := none) (by decide) rfl (Nat.le_of_ble_eq_true rfl) ?_
  intro pg en sx mi ar bl mt cd ls hx hb hr hts hown hlocks hml hnm hP hK hD hl
  have hown : sx.vm.findClass RX8 = some mi.cls := hown
  have hl : lv_has ls 6 [(0, .ref v), (1, .int (iI (k))), (2, .int (iI (t))), (3, .int (iI (p))), (4, .int (iI (b))), (5, .int (iI (q)))] := hl
  have hD := fp_self hD
  have hS : va_S (fp_A [(v, .inr (8, [.ref a0, .ref a1, .ref a2, .ref a3, .int (iI (e4)), .ref a5, .int (iI (e6)), .ref a7, .int (iI (e8)), .int (iI (e9)), .int (iI (e10)), .ref a11, .int (iI (e12)), .int (iI (e13)), .int (iI (e14)), .ref a15])), (a0, fA cyI 54 m)]) sx.heap sx.heap [] := va_S.rf
  refine lv_aload_n hx hb dX8_puts_0 rfl (lv_at hl 0 rfl) ?_
  refine va_get (D := D) (ci := 8) (ws := [(v, .inr (8, [.ref a0, .ref a1, .ref a2, .ref a3, .int (iI (e4)), .ref a5, .int (iI (e6)), .ref a7, .int (iI (e8)), .int (iI (e9)), .int (iI (e10)), .ref a11, .int (iI (e12)), .int (iI (e13)), .int (iI (e14)), .ref a15])), (a0, fA cyI 54 m)]) (v := .ref a0) (C := RX8) (T := TX8) (N := 16) hx hb hts (fun _ h => List.mem_cons_of_mem _ (List.mem_append_right _ h)) hown hK.1 hP 0 rfl rfl 0 (by decide) (hts _ fl_X8_puts_7) (fun _ h9 => h9) rfl dX8_puts_1 ?_
  refine fp_bipush hx hb dX8_puts_4 (by decide) ?_
  refine lv_iload_n hx hb dX8_puts_6 rfl (lv_at hl 1 rfl) ?_
  refine fp_iadd hx hb dX8_puts_7 ?_
  refine lv_iload_n hx hb dX8_puts_8 rfl (lv_at hl 2 rfl) ?_
  refine fp_iast (wsC := [(v, .inr (8, [.ref a0, .ref a1, .ref a2, .ref a3, .int (iI (e4)), .ref a5, .int (iI (e6)), .ref a7, .int (iI (e8)), .int (iI (e9)), .int (iI (e10)), .ref a11, .int (iI (e12)), .int (iI (e13)), .int (iI (e14)), .ref a15])), (a0, fA cyI 54 m)]) hx hb hK hP hD hS 1 rfl (by omega) (by decide) dX8_puts_9 (fun H locs hP hD hS => ?_)
  have hP : va_P D vwCl [(v, .inr (8, [.ref a0, .ref a1, .ref a2, .ref a3, .int (iI (e4)), .ref a5, .int (iI (e6)), .ref a7, .int (iI (e8)), .int (iI (e9)), .int (iI (e10)), .ref a11, .int (iI (e12)), .int (iI (e13)), .int (iI (e14)), .ref a15])), (a0, fA cyI 54 (upI (m) (6 + k) (t)))] H := hP
  have hD : va_D (fp_A [(v, .inr (8, [.ref a0, .ref a1, .ref a2, .ref a3, .int (iI (e4)), .ref a5, .int (iI (e6)), .ref a7, .int (iI (e8)), .int (iI (e9)), .int (iI (e10)), .ref a11, .int (iI (e12)), .int (iI (e13)), .int (iI (e14)), .ref a15])), (a0, fA cyI 54 m)]) [(v, .inr (8, [.ref a0, .ref a1, .ref a2, .ref a3, .int (iI (e4)), .ref a5, .int (iI (e6)), .ref a7, .int (iI (e8)), .int (iI (e9)), .int (iI (e10)), .ref a11, .int (iI (e12)), .int (iI (e13)), .int (iI (e14)), .ref a15])), (a0, fA cyI 54 (upI (m) (6 + k) (t)))] := hD
  refine lv_aload_n hx hb dX8_puts_10 rfl (lv_at hl 0 rfl) ?_
  refine va_get (D := D) (ci := 8) (ws := [(v, .inr (8, [.ref a0, .ref a1, .ref a2, .ref a3, .int (iI (e4)), .ref a5, .int (iI (e6)), .ref a7, .int (iI (e8)), .int (iI (e9)), .int (iI (e10)), .ref a11, .int (iI (e12)), .int (iI (e13)), .int (iI (e14)), .ref a15])), (a0, fA cyI 54 (upI (m) (6 + k) (t)))]) (v := .ref a0) (C := RX8) (T := TX8) (N := 16) hx hb hts (fun _ h => List.mem_cons_of_mem _ (List.mem_append_right _ h)) hown hK.1 hP 0 rfl rfl 0 (by decide) (hts _ fl_X8_puts_7) (fun _ h9 => h9) rfl dX8_puts_11 ?_
  refine fp_bipush hx hb dX8_puts_14 (by decide) ?_
  refine lv_iload_n hx hb dX8_puts_16 rfl (lv_at hl 1 rfl) ?_
  refine fp_iadd hx hb dX8_puts_17 ?_
  refine lv_iload_n hx hb dX8_puts_18 rfl (lv_at hl 3 rfl) ?_
  refine fp_iast (wsC := [(v, .inr (8, [.ref a0, .ref a1, .ref a2, .ref a3, .int (iI (e4)), .ref a5, .int (iI (e6)), .ref a7, .int (iI (e8)), .int (iI (e9)), .int (iI (e10)), .ref a11, .int (iI (e12)), .int (iI (e13)), .int (iI (e14)), .ref a15])), (a0, fA cyI 54 (upI (m) (6 + k) (t)))]) hx hb hK hP hD hS 1 rfl (by omega) (by decide) dX8_puts_19 (fun H locs hP hD hS => ?_)
  have hP : va_P D vwCl [(v, .inr (8, [.ref a0, .ref a1, .ref a2, .ref a3, .int (iI (e4)), .ref a5, .int (iI (e6)), .ref a7, .int (iI (e8)), .int (iI (e9)), .int (iI (e10)), .ref a11, .int (iI (e12)), .int (iI (e13)), .int (iI (e14)), .ref a15])), (a0, fA cyI 54 (upI (upI (m) (6 + k) (t)) (18 + k) (p)))] H := hP
  have hD : va_D (fp_A [(v, .inr (8, [.ref a0, .ref a1, .ref a2, .ref a3, .int (iI (e4)), .ref a5, .int (iI (e6)), .ref a7, .int (iI (e8)), .int (iI (e9)), .int (iI (e10)), .ref a11, .int (iI (e12)), .int (iI (e13)), .int (iI (e14)), .ref a15])), (a0, fA cyI 54 m)]) [(v, .inr (8, [.ref a0, .ref a1, .ref a2, .ref a3, .int (iI (e4)), .ref a5, .int (iI (e6)), .ref a7, .int (iI (e8)), .int (iI (e9)), .int (iI (e10)), .ref a11, .int (iI (e12)), .int (iI (e13)), .int (iI (e14)), .ref a15])), (a0, fA cyI 54 (upI (upI (m) (6 + k) (t)) (18 + k) (p)))] := hD
  refine lv_aload_n hx hb dX8_puts_20 rfl (lv_at hl 0 rfl) ?_
  refine va_get (D := D) (ci := 8) (ws := [(v, .inr (8, [.ref a0, .ref a1, .ref a2, .ref a3, .int (iI (e4)), .ref a5, .int (iI (e6)), .ref a7, .int (iI (e8)), .int (iI (e9)), .int (iI (e10)), .ref a11, .int (iI (e12)), .int (iI (e13)), .int (iI (e14)), .ref a15])), (a0, fA cyI 54 (upI (upI (m) (6 + k) (t)) (18 + k) (p)))]) (v := .ref a0) (C := RX8) (T := TX8) (N := 16) hx hb hts (fun _ h => List.mem_cons_of_mem _ (List.mem_append_right _ h)) hown hK.1 hP 0 rfl rfl 0 (by decide) (hts _ fl_X8_puts_7) (fun _ h9 => h9) rfl dX8_puts_21 ?_
  refine fp_bipush hx hb dX8_puts_24 (by decide) ?_
  refine lv_iload_n hx hb dX8_puts_26 rfl (lv_at hl 1 rfl) ?_
  refine fp_iadd hx hb dX8_puts_27 ?_
  refine lv_iload hx hb dX8_puts_28 (lv_at hl 4 rfl) ?_
  refine fp_iast (wsC := [(v, .inr (8, [.ref a0, .ref a1, .ref a2, .ref a3, .int (iI (e4)), .ref a5, .int (iI (e6)), .ref a7, .int (iI (e8)), .int (iI (e9)), .int (iI (e10)), .ref a11, .int (iI (e12)), .int (iI (e13)), .int (iI (e14)), .ref a15])), (a0, fA cyI 54 (upI (upI (m) (6 + k) (t)) (18 + k) (p)))]) hx hb hK hP hD hS 1 rfl (by omega) (by decide) dX8_puts_30 (fun H locs hP hD hS => ?_)
  have hP : va_P D vwCl [(v, .inr (8, [.ref a0, .ref a1, .ref a2, .ref a3, .int (iI (e4)), .ref a5, .int (iI (e6)), .ref a7, .int (iI (e8)), .int (iI (e9)), .int (iI (e10)), .ref a11, .int (iI (e12)), .int (iI (e13)), .int (iI (e14)), .ref a15])), (a0, fA cyI 54 (upI (upI (upI (m) (6 + k) (t)) (18 + k) (p)) (30 + k) (b)))] H := hP
  have hD : va_D (fp_A [(v, .inr (8, [.ref a0, .ref a1, .ref a2, .ref a3, .int (iI (e4)), .ref a5, .int (iI (e6)), .ref a7, .int (iI (e8)), .int (iI (e9)), .int (iI (e10)), .ref a11, .int (iI (e12)), .int (iI (e13)), .int (iI (e14)), .ref a15])), (a0, fA cyI 54 m)]) [(v, .inr (8, [.ref a0, .ref a1, .ref a2, .ref a3, .int (iI (e4)), .ref a5, .int (iI (e6)), .ref a7, .int (iI (e8)), .int (iI (e9)), .int (iI (e10)), .ref a11, .int (iI (e12)), .int (iI (e13)), .int (iI (e14)), .ref a15])), (a0, fA cyI 54 (upI (upI (upI (m) (6 + k) (t)) (18 + k) (p)) (30 + k) (b)))] := hD
  refine lv_aload_n hx hb dX8_puts_31 rfl (lv_at hl 0 rfl) ?_
  refine va_get (D := D) (ci := 8) (ws := [(v, .inr (8, [.ref a0, .ref a1, .ref a2, .ref a3, .int (iI (e4)), .ref a5, .int (iI (e6)), .ref a7, .int (iI (e8)), .int (iI (e9)), .int (iI (e10)), .ref a11, .int (iI (e12)), .int (iI (e13)), .int (iI (e14)), .ref a15])), (a0, fA cyI 54 (upI (upI (upI (m) (6 + k) (t)) (18 + k) (p)) (30 + k) (b)))]) (v := .ref a0) (C := RX8) (T := TX8) (N := 16) hx hb hts (fun _ h => List.mem_cons_of_mem _ (List.mem_append_right _ h)) hown hK.1 hP 0 rfl rfl 0 (by decide) (hts _ fl_X8_puts_7) (fun _ h9 => h9) rfl dX8_puts_32 ?_
  refine fp_bipush hx hb dX8_puts_35 (by decide) ?_
  refine lv_iload_n hx hb dX8_puts_37 rfl (lv_at hl 1 rfl) ?_
  refine fp_iadd hx hb dX8_puts_38 ?_
  refine lv_iload hx hb dX8_puts_39 (lv_at hl 5 rfl) ?_
  refine fp_iast (wsC := [(v, .inr (8, [.ref a0, .ref a1, .ref a2, .ref a3, .int (iI (e4)), .ref a5, .int (iI (e6)), .ref a7, .int (iI (e8)), .int (iI (e9)), .int (iI (e10)), .ref a11, .int (iI (e12)), .int (iI (e13)), .int (iI (e14)), .ref a15])), (a0, fA cyI 54 (upI (upI (upI (m) (6 + k) (t)) (18 + k) (p)) (30 + k) (b)))]) hx hb hK hP hD hS 1 rfl (by omega) (by decide) dX8_puts_41 (fun H locs hP hD hS => ?_)
  have hP : va_P D vwCl [(v, .inr (8, [.ref a0, .ref a1, .ref a2, .ref a3, .int (iI (e4)), .ref a5, .int (iI (e6)), .ref a7, .int (iI (e8)), .int (iI (e9)), .int (iI (e10)), .ref a11, .int (iI (e12)), .int (iI (e13)), .int (iI (e14)), .ref a15])), (a0, fA cyI 54 (upI (upI (upI (upI (m) (6 + k) (t)) (18 + k) (p)) (30 + k) (b)) (42 + k) (q)))] H := hP
  have hD : va_D (fp_A [(v, .inr (8, [.ref a0, .ref a1, .ref a2, .ref a3, .int (iI (e4)), .ref a5, .int (iI (e6)), .ref a7, .int (iI (e8)), .int (iI (e9)), .int (iI (e10)), .ref a11, .int (iI (e12)), .int (iI (e13)), .int (iI (e14)), .ref a15])), (a0, fA cyI 54 m)]) [(v, .inr (8, [.ref a0, .ref a1, .ref a2, .ref a3, .int (iI (e4)), .ref a5, .int (iI (e6)), .ref a7, .int (iI (e8)), .int (iI (e9)), .int (iI (e10)), .ref a11, .int (iI (e12)), .int (iI (e13)), .int (iI (e14)), .ref a15])), (a0, fA cyI 54 (upI (upI (upI (upI (m) (6 + k) (t)) (18 + k) (p)) (30 + k) (b)) (42 + k) (q)))] := hD
  have hP : va_P D vwCl [(v, .inr (8, [.ref a0, .ref a1, .ref a2, .ref a3, .int (iI (e4)), .ref a5, .int (iI (e6)), .ref a7, .int (iI (e8)), .int (iI (e9)), .int (iI (e10)), .ref a11, .int (iI (e12)), .int (iI (e13)), .int (iI (e14)), .ref a15])), (a0, fA cyI 54 (puM m k t p b q))] H := by
    rw [(show (upI (upI (upI (upI (m) (6 + k) (t)) (18 + k) (p)) (30 + k) (b)) (42 + k) (q) : Int → Int) = puM m k t p b q from (by first | rfl | (exfalso; omega))).symm]
    exact hP
  exact fp_wvret () hx hb hr hlocks hS hP trivial rfl dX8_puts_42
theorem ck_X8_isText_138 : Cond.constantLong RX8 138 (3) ∈ wsX8_isText := by decide +kernel
set_option maxHeartbeats 4000000 in
set_option maxRecDepth 100000 in
theorem c_X8_isText (l : Launch) (D : va_G) (cyI : ClassId) (t : Int) (ht9 : -2147483648 ≤ t ∧ t ≤ 2147483647) : fp_M l yX8_isText wsX8_isText ({ frames := 1, cells := 0, slots := 0, locals := 25 } : Room) D cyI [] [.int (iI (t))] (some (.int (iI (bI (1 ≤ t ∧ t ≤ 3))))) := by
  refine fp_start (cc := cX8_isText) (maxL := 1) (ret := (some .boolean)) (by decide) rfl (Nat.le_of_ble_eq_true rfl) ?_
  intro pg en sx mi ar bl mt cd ls hx hb hr hts hown hlocks hml hnm hP hK hD hl
  have hown : sx.vm.findClass RX8 = some mi.cls := hown
  have hl : lv_has ls 1 [(0, .int (iI (t)))] := hl
  refine lv_iload_n hx hb dX8_isText_0 rfl (lv_at hl 0 rfl) ?_
  refine fp_i2l hx hb (by omega) dX8_isText_1 ?_
  refine fp_lconst hx hb 1 dX8_isText_2 rfl ?_
  refine fp_ldc2 hx hb (3) rfl hown (hts _ ck_X8_isText_138) dX8_isText_3 ?_
  refine fp_pS (As := [.long (lI (t)), .long (lI (1)), .long (lI (3))]) (rest := []) (wsC := []) ⟨hx, hb, hml, hown, hts⟩ (c_X8_in l D cyI t 1 3 (by omega)) (va_cwS 3 hts gX8_isText_X8_in rfl rfl rfl (by decide +kernel) ⟨Nat.le_of_ble_eq_true rfl, Nat.le_of_ble_eq_true rfl⟩) hK hP hD [] (by decide) rfl rfl hl.1 rfl (Nat.le_of_ble_eq_true rfl) dX8_isText_6 ⟨Nat.zero_le _, Nat.zero_le _⟩ ?_
  have hret : (bI (1 ≤ t ∧ t ≤ 3) : Int) = bI (1 ≤ t ∧ t ≤ 3) := (by first | rfl | omega | (unfold bI; split <;> first | rfl | omega))
  exact fp_zret hx hb hr hlocks (by first | exact Or.inl rfl | exact Or.inr rfl | exact bI_01 _ | omega) dX8_isText_9 (congrArg (fun z : Int => Value.int (iI z)) hret)
theorem ck_X8_isSetting_180 : Cond.constantLong RX8 180 (99) ∈ wsX8_isSetting := by decide +kernel
theorem ck_X8_isSetting_178 : Cond.constantLong RX8 178 (999) ∈ wsX8_isSetting := by decide +kernel
set_option maxHeartbeats 4000000 in
set_option maxRecDepth 100000 in
theorem c_X8_isSetting (l : Launch) (D : va_G) (cyI : ClassId) (w : Int) (y : Int) (hw : 0 ≤ w ∧ w ≤ 4) (hy9 : -2147483648 ≤ y ∧ y ≤ 2147483647) : fp_M l yX8_isSetting wsX8_isSetting ({ frames := 1, cells := 0, slots := 0, locals := 25 } : Room) D cyI [] [.int (iI (w)), .int (iI (y))] (some (.int (iI (bI ((w = 0 ∧ (y = 4 ∨ y = 8 ∨ y = 16)) ∨ (¬ w = 0 ∧ 0 ≤ y ∧ (y ≤ 99 ∨ (w = 4 ∧ y ≤ 999)))))))) := by
  refine fp_start (cc := cX8_isSetting) (maxL := 2) (ret := (some .boolean)) (by decide) rfl (Nat.le_of_ble_eq_true rfl) ?_
  intro pg en sx mi ar bl mt cd ls hx hb hr hts hown hlocks hml hnm hP hK hD hl
  have hown : sx.vm.findClass RX8 = some mi.cls := hown
  have hl : lv_has ls 2 [(0, .int (iI (w))), (1, .int (iI (y)))] := hl
  refine lv_iload_n hx hb dX8_isSetting_0 rfl (lv_at hl 0 rfl) ?_
  refine fp_if_ne (tgt := 29) hx hb (by omega) dX8_isSetting_1 (by decide) (fun q1 => ?_) (fun q1 => ?_)
  · skip
    refine lv_iload_n hx hb dX8_isSetting_29 rfl (lv_at hl 1 rfl) ?_
    refine fp_i2l hx hb (by omega) dX8_isSetting_30 ?_
    refine fp_lconst hx hb 0 dX8_isSetting_31 rfl ?_
    refine lv_iload_n hx hb dX8_isSetting_32 rfl (lv_at hl 0 rfl) ?_
    refine fp_iconst hx hb dX8_isSetting_33 ?_
    refine fp_icmp_ne (tgt := 43) hx hb (by omega) dX8_isSetting_34 (by decide) (fun q34 => ?_) (fun q34 => ?_)
    · skip
      refine fp_ldc2 hx hb (99) rfl hown (hts _ ck_X8_isSetting_180) dX8_isSetting_43 ?_
      refine fp_pS (As := [.long (lI (y)), .long (lI (0)), .long (lI (99))]) (rest := []) (wsC := []) ⟨hx, hb, hml, hown, hts⟩ (c_X8_in l D cyI y 0 99 (by omega)) (va_cwS 3 hts gX8_isSetting_X8_in rfl rfl rfl (by decide +kernel) ⟨Nat.le_of_ble_eq_true rfl, Nat.le_of_ble_eq_true rfl⟩) hK hP hD [] (by decide) rfl rfl hl.1 rfl (Nat.le_of_ble_eq_true rfl) dX8_isSetting_46 ⟨Nat.zero_le _, Nat.zero_le _⟩ ?_
      have hret : (bI ((w = 0 ∧ (y = 4 ∨ y = 8 ∨ y = 16)) ∨ (¬ w = 0 ∧ 0 ≤ y ∧ (y ≤ 99 ∨ (w = 4 ∧ y ≤ 999)))) : Int) = bI (0 ≤ y ∧ y ≤ 99) := (by first | rw [bI_t (by omega)] | rw [bI_f (by omega)] | exact bI_c (by omega))
      exact fp_zret hx hb hr hlocks (by first | exact Or.inl rfl | exact Or.inr rfl | exact bI_01 _ | omega) dX8_isSetting_49 (congrArg (fun z : Int => Value.int (iI z)) hret)
    · skip
      refine fp_ldc2 hx hb (999) rfl hown (hts _ ck_X8_isSetting_178) dX8_isSetting_37 ?_
      refine lv_goto (tgt := 46) hx hb dX8_isSetting_40 (by decide) ?_
      refine fp_pS (As := [.long (lI (y)), .long (lI (0)), .long (lI (999))]) (rest := []) (wsC := []) ⟨hx, hb, hml, hown, hts⟩ (c_X8_in l D cyI y 0 999 (by omega)) (va_cwS 3 hts gX8_isSetting_X8_in rfl rfl rfl (by decide +kernel) ⟨Nat.le_of_ble_eq_true rfl, Nat.le_of_ble_eq_true rfl⟩) hK hP hD [] (by decide) rfl rfl hl.1 rfl (Nat.le_of_ble_eq_true rfl) dX8_isSetting_46 ⟨Nat.zero_le _, Nat.zero_le _⟩ ?_
      have hret : (bI ((w = 0 ∧ (y = 4 ∨ y = 8 ∨ y = 16)) ∨ (¬ w = 0 ∧ 0 ≤ y ∧ (y ≤ 99 ∨ (w = 4 ∧ y ≤ 999)))) : Int) = bI (0 ≤ y ∧ y ≤ 999) := (by first | rw [bI_t (by omega)] | rw [bI_f (by omega)] | exact bI_c (by omega))
      exact fp_zret hx hb hr hlocks (by first | exact Or.inl rfl | exact Or.inr rfl | exact bI_01 _ | omega) dX8_isSetting_49 (congrArg (fun z : Int => Value.int (iI z)) hret)
  · skip
    refine lv_iload_n hx hb dX8_isSetting_4 rfl (lv_at hl 1 rfl) ?_
    refine fp_iconst hx hb dX8_isSetting_5 ?_
    refine fp_icmp_eq (tgt := 21) hx hb (by omega) dX8_isSetting_6 (by decide) (fun q6 => ?_) (fun q6 => ?_)
    · skip
      refine fp_iconst hx hb dX8_isSetting_21 ?_
      refine lv_goto (tgt := 49) hx hb dX8_isSetting_22 (by decide) ?_
      have hret : (bI ((w = 0 ∧ (y = 4 ∨ y = 8 ∨ y = 16)) ∨ (¬ w = 0 ∧ 0 ≤ y ∧ (y ≤ 99 ∨ (w = 4 ∧ y ≤ 999)))) : Int) = 1 := (by first | rw [bI_t (by omega)] | rw [bI_f (by omega)] | exact bI_c (by omega))
      exact fp_zret hx hb hr hlocks (by first | exact Or.inl rfl | exact Or.inr rfl | exact bI_01 _ | omega) dX8_isSetting_49 (congrArg (fun z : Int => Value.int (iI z)) hret)
    · skip
      refine lv_iload_n hx hb dX8_isSetting_9 rfl (lv_at hl 1 rfl) ?_
      refine fp_bipush hx hb dX8_isSetting_10 (by decide) ?_
      refine fp_icmp_eq (tgt := 21) hx hb (by omega) dX8_isSetting_12 (by decide) (fun q12 => ?_) (fun q12 => ?_)
      · skip
        refine fp_iconst hx hb dX8_isSetting_21 ?_
        refine lv_goto (tgt := 49) hx hb dX8_isSetting_22 (by decide) ?_
        have hret : (bI ((w = 0 ∧ (y = 4 ∨ y = 8 ∨ y = 16)) ∨ (¬ w = 0 ∧ 0 ≤ y ∧ (y ≤ 99 ∨ (w = 4 ∧ y ≤ 999)))) : Int) = 1 := (by first | rw [bI_t (by omega)] | rw [bI_f (by omega)] | exact bI_c (by omega))
        exact fp_zret hx hb hr hlocks (by first | exact Or.inl rfl | exact Or.inr rfl | exact bI_01 _ | omega) dX8_isSetting_49 (congrArg (fun z : Int => Value.int (iI z)) hret)
      · skip
        refine lv_iload_n hx hb dX8_isSetting_15 rfl (lv_at hl 1 rfl) ?_
        refine fp_bipush hx hb dX8_isSetting_16 (by decide) ?_
        refine fp_icmp_ne (tgt := 25) hx hb (by omega) dX8_isSetting_18 (by decide) (fun q18 => ?_) (fun q18 => ?_)
        · skip
          refine fp_iconst hx hb dX8_isSetting_25 ?_
          refine lv_goto (tgt := 49) hx hb dX8_isSetting_26 (by decide) ?_
          have hret : (bI ((w = 0 ∧ (y = 4 ∨ y = 8 ∨ y = 16)) ∨ (¬ w = 0 ∧ 0 ≤ y ∧ (y ≤ 99 ∨ (w = 4 ∧ y ≤ 999)))) : Int) = 0 := (by first | rw [bI_t (by omega)] | rw [bI_f (by omega)] | exact bI_c (by omega))
          exact fp_zret hx hb hr hlocks (by first | exact Or.inl rfl | exact Or.inr rfl | exact bI_01 _ | omega) dX8_isSetting_49 (congrArg (fun z : Int => Value.int (iI z)) hret)
        · skip
          refine fp_iconst hx hb dX8_isSetting_21 ?_
          refine lv_goto (tgt := 49) hx hb dX8_isSetting_22 (by decide) ?_
          have hret : (bI ((w = 0 ∧ (y = 4 ∨ y = 8 ∨ y = 16)) ∨ (¬ w = 0 ∧ 0 ≤ y ∧ (y ≤ 99 ∨ (w = 4 ∧ y ≤ 999)))) : Int) = 1 := (by first | rw [bI_t (by omega)] | rw [bI_f (by omega)] | exact bI_c (by omega))
          exact fp_zret hx hb hr hlocks (by first | exact Or.inl rfl | exact Or.inr rfl | exact bI_01 _ | omega) dX8_isSetting_49 (congrArg (fun z : Int => Value.int (iI z)) hret)
set_option maxHeartbeats 4000000 in
set_option maxRecDepth 100000 in
theorem c_X8_isPlace (l : Launch) (D : va_G) (cyI : ClassId) (v : Nat) (a0 : Nat) (a1 : Nat) (a2 : Nat) (a3 : Nat) (e4 : Int) (a5 : Nat) (e6 : Int) (a7 : Nat) (e8 : Int) (e9 : Int) (e10 : Int) (a11 : Nat) (e12 : Int) (e13 : Int) (e14 : Int) (a15 : Nat) (m : Int → Int) (k : Int) (q : Int) (hC : CatOK (cM m)) (hk : 0 ≤ k ∧ k < m 5) (hq9 : -2147483648 ≤ q ∧ q ≤ 2147483647) : fp_M l yX8_isPlace wsX8_isPlace ({ frames := 1, cells := 0, slots := 0, locals := 25 } : Room) D cyI [(v, .inr (8, [.ref a0, .ref a1, .ref a2, .ref a3, .int (iI (e4)), .ref a5, .int (iI (e6)), .ref a7, .int (iI (e8)), .int (iI (e9)), .int (iI (e10)), .ref a11, .int (iI (e12)), .int (iI (e13)), .int (iI (e14)), .ref a15])), (a0, fA cyI 54 m)] [.ref v, .int (iI (k)), .int (iI (q))] (some (.int (iI (bI (0 ≤ q ∧ q ≤ mostC (cM m) k))))) := by
  refine fp_start (cc := cX8_isPlace) (maxL := 3) (ret := (some .boolean)) (by decide) rfl (Nat.le_of_ble_eq_true rfl) ?_
  intro pg en sx mi ar bl mt cd ls hx hb hr hts hown hlocks hml hnm hP hK hD hl
  have hown : sx.vm.findClass RX8 = some mi.cls := hown
  have hl : lv_has ls 3 [(0, .ref v), (1, .int (iI (k))), (2, .int (iI (q)))] := hl
  have hN := hC.1
  rw [cM_0] at hN
  have hL := lot_f hC (k := k) (by rw [cM_0]; exact hk)
  unfold LotOK at hL
  rw [cM_t (by omega), cM_p (by omega), cM_b (by omega), cM_q (by omega)] at hL
  have e1 : cM m (k * 4 + 2) = m (18 + k) := cM_p (by omega)
  have e2 : cM m (k * 4 + 1) = m (6 + k) := cM_t (by omega)
  refine lv_iload_n hx hb dX8_isPlace_0 rfl (lv_at hl 2 rfl) ?_
  refine fp_i2l hx hb (by omega) dX8_isPlace_1 ?_
  refine fp_lconst hx hb 0 dX8_isPlace_2 rfl ?_
  refine lv_aload_n hx hb dX8_isPlace_3 rfl (lv_at hl 0 rfl) ?_
  refine lv_iload_n hx hb dX8_isPlace_4 rfl (lv_at hl 1 rfl) ?_
  refine fp_pV (As := [.int (iI (k))]) (rest := [.long (lI (0)), .long (lI (q))]) (wsC := [(v, .inr (8, [.ref a0, .ref a1, .ref a2, .ref a3, .int (iI (e4)), .ref a5, .int (iI (e6)), .ref a7, .int (iI (e8)), .int (iI (e9)), .int (iI (e10)), .ref a11, .int (iI (e12)), .int (iI (e13)), .int (iI (e14)), .ref a15])), (a0, fA cyI 54 m)]) ⟨hx, hb, hml, hown, hts⟩ (c_X8_hasPlate l D cyI v a0 a1 a2 a3 e4 a5 e6 a7 e8 e9 e10 a11 e12 e13 e14 a15 m k hC (by omega)) (cwV 1 hts gX8_isPlace_X8_hasPlate rfl rfl rfl (by decide +kernel) ⟨Nat.le_of_ble_eq_true rfl, Nat.le_of_ble_eq_true rfl⟩) hK hP hD [0, 1] (by decide) rfl rfl rfl rfl hl.1 rfl (Nat.le_of_ble_eq_true rfl) dX8_isPlace_5 ⟨Nat.zero_le _, Nat.zero_le _⟩ ?_
  refine fp_if_eq (tgt := 20) hx hb (bI_r32 _) dX8_isPlace_8 (by decide) (fun q8 => ?_) (fun q8 => ?_)
  · skip
    have w8 := bI_e q8
    refine fp_lconst hx hb 0 dX8_isPlace_20 rfl ?_
    refine fp_pS (As := [.long (lI (q)), .long (lI (0)), .long (lI (0))]) (rest := []) (wsC := [(v, .inr (8, [.ref a0, .ref a1, .ref a2, .ref a3, .int (iI (e4)), .ref a5, .int (iI (e6)), .ref a7, .int (iI (e8)), .int (iI (e9)), .int (iI (e10)), .ref a11, .int (iI (e12)), .int (iI (e13)), .int (iI (e14)), .ref a15])), (a0, fA cyI 54 m)]) ⟨hx, hb, hml, hown, hts⟩ (c_X8_in l D cyI q 0 0 (by omega)) (va_cwS 3 hts gX8_isPlace_X8_in rfl rfl rfl (by decide +kernel) ⟨Nat.le_of_ble_eq_true rfl, Nat.le_of_ble_eq_true rfl⟩) hK hP hD [] (by decide) rfl rfl hl.1 rfl (Nat.le_of_ble_eq_true rfl) dX8_isPlace_21 ⟨Nat.zero_le _, Nat.zero_le _⟩ ?_
    have hret : (bI (0 ≤ q ∧ q ≤ mostC (cM m) k) : Int) = bI (0 ≤ q ∧ q ≤ 0) := (by unfold mostC; first | rw [if_pos (by omega)] | rw [if_neg (by omega)])
    exact fp_zret hx hb hr hlocks (by first | exact Or.inl rfl | exact Or.inr rfl | exact bI_01 _ | omega) dX8_isPlace_24 (congrArg (fun z : Int => Value.int (iI z)) hret)
  · skip
    have w8 := bI_ne q8
    refine lv_aload_n hx hb dX8_isPlace_11 rfl (lv_at hl 0 rfl) ?_
    refine lv_iload_n hx hb dX8_isPlace_12 rfl (lv_at hl 1 rfl) ?_
    refine fp_pV (As := [.int (iI (k))]) (rest := [.long (lI (0)), .long (lI (q))]) (wsC := [(v, .inr (8, [.ref a0, .ref a1, .ref a2, .ref a3, .int (iI (e4)), .ref a5, .int (iI (e6)), .ref a7, .int (iI (e8)), .int (iI (e9)), .int (iI (e10)), .ref a11, .int (iI (e12)), .int (iI (e13)), .int (iI (e14)), .ref a15])), (a0, fA cyI 54 m)]) ⟨hx, hb, hml, hown, hts⟩ (c_X8_textOf l D cyI v a0 a1 a2 a3 e4 a5 e6 a7 e8 e9 e10 a11 e12 e13 e14 a15 m k (by omega)) (cwV 1 hts gX8_isPlace_X8_textOf rfl rfl rfl (by decide +kernel) ⟨Nat.le_of_ble_eq_true rfl, Nat.le_of_ble_eq_true rfl⟩) hK hP hD [0, 1] (by decide) rfl rfl rfl rfl hl.1 rfl (Nat.le_of_ble_eq_true rfl) dX8_isPlace_13 ⟨Nat.zero_le _, Nat.zero_le _⟩ ?_
    refine fp_i2l hx hb (by omega) dX8_isPlace_16 ?_
    refine lv_goto (tgt := 21) hx hb dX8_isPlace_17 (by decide) ?_
    refine fp_pS (As := [.long (lI (q)), .long (lI (0)), .long (lI (cM m (k * 4 + 1)))]) (rest := []) (wsC := [(v, .inr (8, [.ref a0, .ref a1, .ref a2, .ref a3, .int (iI (e4)), .ref a5, .int (iI (e6)), .ref a7, .int (iI (e8)), .int (iI (e9)), .int (iI (e10)), .ref a11, .int (iI (e12)), .int (iI (e13)), .int (iI (e14)), .ref a15])), (a0, fA cyI 54 m)]) ⟨hx, hb, hml, hown, hts⟩ (c_X8_in l D cyI q 0 (cM m (k * 4 + 1)) (by omega)) (va_cwS 3 hts gX8_isPlace_X8_in rfl rfl rfl (by decide +kernel) ⟨Nat.le_of_ble_eq_true rfl, Nat.le_of_ble_eq_true rfl⟩) hK hP hD [] (by decide) rfl rfl hl.1 rfl (Nat.le_of_ble_eq_true rfl) dX8_isPlace_21 ⟨Nat.zero_le _, Nat.zero_le _⟩ ?_
    have hret : (bI (0 ≤ q ∧ q ≤ mostC (cM m) k) : Int) = bI (0 ≤ q ∧ q ≤ (cM m (k * 4 + 1))) := (by unfold mostC; first | rw [if_pos (by omega)] | rw [if_neg (by omega)])
    exact fp_zret hx hb hr hlocks (by first | exact Or.inl rfl | exact Or.inr rfl | exact bI_01 _ | omega) dX8_isPlace_24 (congrArg (fun z : Int => Value.int (iI z)) hret)
theorem fl_X8_isAsKept_7 : Cond.fieldLink RX8 7 "FacingPlatesModel" "all" "[I" ∈ wsX8_isAsKept := by decide +kernel
theorem fl_X8_isAsKept_13 : Cond.fieldLink RX8 13 "FacingPlatesModel" "kept" "[I" ∈ wsX8_isAsKept := by decide +kernel
set_option maxHeartbeats 4000000 in
set_option maxRecDepth 100000 in
theorem c_X8_isAsKept (l : Launch) (D : va_G) (cyI : ClassId) (v : Nat) (a0 : Nat) (a1 : Nat) (a2 : Nat) (a3 : Nat) (e4 : Int) (a5 : Nat) (e6 : Int) (a7 : Nat) (e8 : Int) (e9 : Int) (e10 : Int) (a11 : Nat) (e12 : Int) (e13 : Int) (e14 : Int) (a15 : Nat) (m : Int → Int) (kc : Int → Int) (hr1 : ∀ j : Int, 0 ≤ j → j < 54 → -2147483648 ≤ m j ∧ m j ≤ 2147483647) (hr2 : ∀ j : Int, 0 ≤ j → j < 54 → -2147483648 ≤ kc j ∧ kc j ≤ 2147483647) : fp_M l yX8_isAsKept wsX8_isAsKept ({ frames := 0, cells := 0, slots := 0, locals := 0 } : Room) D cyI [(v, .inr (8, [.ref a0, .ref a1, .ref a2, .ref a3, .int (iI (e4)), .ref a5, .int (iI (e6)), .ref a7, .int (iI (e8)), .int (iI (e9)), .int (iI (e10)), .ref a11, .int (iI (e12)), .int (iI (e13)), .int (iI (e14)), .ref a15])), (a0, fA cyI 54 m), (a1, fA cyI 54 kc)] [.ref v] (some (.int (iI (eqN m kc 54)))) := by
  refine fp_start (cc := cX8_isAsKept) (maxL := 3) (ret := (some .boolean)) (by decide) rfl (Nat.le_of_ble_eq_true rfl) ?_
  intro pg en sx mi ar bl mt cd ls hx hb hr hts hown hlocks hml hnm hP hK hD hl
  have hown : sx.vm.findClass RX8 = some mi.cls := hown
  have hl : lv_has ls 3 [(0, .ref v)] := hl
  refine fp_iconst hx hb dX8_isAsKept_0 ?_
  refine lv_istore_n (lv' := [(1, .int (iI (1))), (0, .ref v)]) hx hb dX8_isAsKept_1 rfl hl (by decide) rfl (fun ls hl => ?_)
  refine fp_iconst hx hb dX8_isAsKept_2 ?_
  refine lv_istore_n (lv' := [(2, .int (iI (0))), (1, .int (iI (1))), (0, .ref v)]) hx hb dX8_isAsKept_3 rfl hl (by decide) rfl (fun ls hl => ?_)
  have hl := lv_sub hl (l' := [(0, .ref v), (1, .int (iI (1))), (2, .int (iI (0)))]) [2, 1, 0] rfl
  have lp0 : ∀ (nf : Nat) (x : Int) (i : Int), (0 ≤ i ∧ i ≤ 54) → (x = eqN m kc i.toNat) → (54 + 1 ≤ i + (nf : Int)) → ∀ (ls : Array Slot), lv_has ls 3 [(0, .ref v), (1, .int (iI (x))), (2, .int (iI (i)))] → W pg l en ({ frames := 0, cells := 0, slots := 0, locals := 0 } : Room) sx mi ar bl mt cd sx.heap [] 0 0 (MQ bl (fp_Qp (some (.int (iI (eqN m kc 54))))) ar sx 0 0 (fun _ => False)) (F0 mi 4 ls []) := by
    intro nf
    induction nf with
    | zero =>
      intro x i ii ix hfuel
      exact absurd hfuel (by omega)
    | succ nf ih0 =>
      intro x i ii ix hfuel ls hl
      refine lv_iload_n hx hb dX8_isAsKept_4 rfl (lv_at hl 2 rfl) ?_
      refine fp_bipush hx hb dX8_isAsKept_5 (by decide) ?_
      refine fp_icmp_ge (tgt := 41) hx hb (by omega) dX8_isAsKept_7 (by decide) (fun q7 => ?_) (fun q7 => ?_)
      · skip
        refine lv_iload_n hx hb dX8_isAsKept_41 rfl (lv_at hl 1 rfl) ?_
        have hret : (eqN m kc 54 : Int) = x := (by rw [ix, show i = 54 by omega]; rfl)
        exact fp_zret hx hb hr hlocks (by rw [ix]; exact eqN_01 _ _ _) dX8_isAsKept_42 (congrArg (fun z : Int => Value.int (iI z)) hret)
      · skip
        have hx01 := eqN_01 m kc i.toNat
        have hm1 := hr1 i ii.1 (by omega)
        have hm2 := hr2 i ii.1 (by omega)
        refine lv_iload_n hx hb dX8_isAsKept_10 rfl (lv_at hl 1 rfl) ?_
        refine fp_if_eq (tgt := 33) hx hb (by omega) dX8_isAsKept_11 (by decide) (fun q11 => ?_) (fun q11 => ?_)
        · skip
          refine fp_iconst hx hb dX8_isAsKept_33 ?_
          refine lv_istore_n (lv' := [(1, .int (iI (0))), (0, .ref v), (2, .int (iI (i)))]) hx hb dX8_isAsKept_34 rfl hl (by decide) rfl (fun ls hl => ?_)
          refine fp_iinc (k := 2) (lv' := [(2, .int (iI (i + 1))), (1, .int (iI (0))), (0, .ref v)]) hx hb dX8_isAsKept_35 hl rfl (by decide) rfl (fun ls hl => ?_)
          refine lv_goto (tgt := 4) hx hb dX8_isAsKept_38 (by decide) ?_
          exact ih0 0 (i + 1) (by omega) (by rw [eqN_s _ _ ii.1]; first | rw [if_pos ⟨by omega, by omega⟩] | rw [if_neg (fun z => by have := z.1; omega)] | rw [if_neg (fun z => q26 z.2)] | rw [if_neg (by omega)]) (by omega) ls (lv_sub hl [2, 1, 0] rfl)
        · skip
          refine lv_aload_n hx hb dX8_isAsKept_14 rfl (lv_at hl 0 rfl) ?_
          refine va_get (D := D) (ci := 8) (ws := [(v, .inr (8, [.ref a0, .ref a1, .ref a2, .ref a3, .int (iI (e4)), .ref a5, .int (iI (e6)), .ref a7, .int (iI (e8)), .int (iI (e9)), .int (iI (e10)), .ref a11, .int (iI (e12)), .int (iI (e13)), .int (iI (e14)), .ref a15])), (a0, fA cyI 54 m), (a1, fA cyI 54 kc)]) (v := .ref a0) (C := RX8) (T := TX8) (N := 16) hx hb hts (fun _ h => List.mem_cons_of_mem _ (List.mem_append_right _ h)) hown hK.1 hP 0 rfl rfl 0 (by decide) (hts _ fl_X8_isAsKept_7) (fun _ h9 => h9) rfl dX8_isAsKept_15 ?_
          refine lv_iload_n hx hb dX8_isAsKept_18 rfl (lv_at hl 2 rfl) ?_
          refine fp_iald (wsC := [(v, .inr (8, [.ref a0, .ref a1, .ref a2, .ref a3, .int (iI (e4)), .ref a5, .int (iI (e6)), .ref a7, .int (iI (e8)), .int (iI (e9)), .int (iI (e10)), .ref a11, .int (iI (e12)), .int (iI (e13)), .int (iI (e14)), .ref a15])), (a0, fA cyI 54 m), (a1, fA cyI 54 kc)]) hx hb hK hP 1 rfl (by omega) (by decide) dX8_isAsKept_19 ?_
          refine lv_aload_n hx hb dX8_isAsKept_20 rfl (lv_at hl 0 rfl) ?_
          refine va_get (D := D) (ci := 8) (ws := [(v, .inr (8, [.ref a0, .ref a1, .ref a2, .ref a3, .int (iI (e4)), .ref a5, .int (iI (e6)), .ref a7, .int (iI (e8)), .int (iI (e9)), .int (iI (e10)), .ref a11, .int (iI (e12)), .int (iI (e13)), .int (iI (e14)), .ref a15])), (a0, fA cyI 54 m), (a1, fA cyI 54 kc)]) (v := .ref a1) (C := RX8) (T := TX8) (N := 16) hx hb hts (fun _ h => List.mem_cons_of_mem _ (List.mem_append_right _ h)) hown hK.1 hP 0 rfl rfl 1 (by decide) (hts _ fl_X8_isAsKept_13) (fun _ h9 => h9) rfl dX8_isAsKept_21 ?_
          refine lv_iload_n hx hb dX8_isAsKept_24 rfl (lv_at hl 2 rfl) ?_
          refine fp_iald (wsC := [(v, .inr (8, [.ref a0, .ref a1, .ref a2, .ref a3, .int (iI (e4)), .ref a5, .int (iI (e6)), .ref a7, .int (iI (e8)), .int (iI (e9)), .int (iI (e10)), .ref a11, .int (iI (e12)), .int (iI (e13)), .int (iI (e14)), .ref a15])), (a0, fA cyI 54 m), (a1, fA cyI 54 kc)]) hx hb hK hP 2 rfl (by omega) (by decide) dX8_isAsKept_25 ?_
          refine fp_icmp_ne (tgt := 33) hx hb (by omega) dX8_isAsKept_26 (by decide) (fun q26 => ?_) (fun q26 => ?_)
          · skip
            refine fp_iconst hx hb dX8_isAsKept_33 ?_
            refine lv_istore_n (lv' := [(1, .int (iI (0))), (0, .ref v), (2, .int (iI (i)))]) hx hb dX8_isAsKept_34 rfl hl (by decide) rfl (fun ls hl => ?_)
            refine fp_iinc (k := 2) (lv' := [(2, .int (iI (i + 1))), (1, .int (iI (0))), (0, .ref v)]) hx hb dX8_isAsKept_35 hl rfl (by decide) rfl (fun ls hl => ?_)
            refine lv_goto (tgt := 4) hx hb dX8_isAsKept_38 (by decide) ?_
            exact ih0 0 (i + 1) (by omega) (by rw [eqN_s _ _ ii.1]; first | rw [if_pos ⟨by omega, by omega⟩] | rw [if_neg (fun z => by have := z.1; omega)] | rw [if_neg (fun z => q26 z.2)] | rw [if_neg (by omega)]) (by omega) ls (lv_sub hl [2, 1, 0] rfl)
          · skip
            refine fp_iconst hx hb dX8_isAsKept_29 ?_
            refine lv_goto (tgt := 34) hx hb dX8_isAsKept_30 (by decide) ?_
            refine lv_istore_n (lv' := [(1, .int (iI (1))), (0, .ref v), (2, .int (iI (i)))]) hx hb dX8_isAsKept_34 rfl hl (by decide) rfl (fun ls hl => ?_)
            refine fp_iinc (k := 2) (lv' := [(2, .int (iI (i + 1))), (1, .int (iI (1))), (0, .ref v)]) hx hb dX8_isAsKept_35 hl rfl (by decide) rfl (fun ls hl => ?_)
            refine lv_goto (tgt := 4) hx hb dX8_isAsKept_38 (by decide) ?_
            exact ih0 1 (i + 1) (by omega) (by rw [eqN_s _ _ ii.1]; first | rw [if_pos ⟨by omega, by omega⟩] | rw [if_neg (fun z => by have := z.1; omega)] | rw [if_neg (fun z => q26 z.2)] | rw [if_neg (by omega)]) (by omega) ls (lv_sub hl [2, 1, 0] rfl)
  exact lp0 (((54 : Int) + 1 - (0)).toNat) 1 0 (by omega) rfl (by omega) ls hl
