/-! the planner's table and its path -/
def lnS (c : Int → Int) (k : Int) : Int := sumI k.toNat (lenC c)
def blS (g : Int → Int) (k : Int) : Int := sumI k.toNat (fun i => g (i * 4 + 3))
theorem lnS_b {c : Int → Int} (hC : CatOK c) {k : Int} (hk : 0 ≤ k ∧ k ≤ c 0) : k ≤ lnS c k ∧ lnS c k ≤ 4 * k := by
  have h := sumI_b (f := lenC c) (lo := 1) (hi := 4) k.toNat (fun i h1 h2 => by have := len_rg hC (k := i) (by omega); omega)
  unfold lnS
  omega
theorem lnS_s {c : Int → Int} {k : Int} (hk : 0 ≤ k) : lnS c (k + 1) = lnS c k + lenC c k := sumI_s _ hk
theorem blS_s {c : Int → Int} {k : Int} (hk : 0 ≤ k) : blS c (k + 1) = blS c k + c (k * 4 + 3) := sumI_s _ hk
theorem blS_b {c : Int → Int} {k : Int} (hk : 0 ≤ k) (h : ∀ i : Int, 0 ≤ i → i < k → 0 ≤ c (i * 4 + 3) ∧ c (i * 4 + 3) ≤ 1) : 0 ≤ blS c k ∧ blS c k ≤ k := by
  have h := sumI_b (f := fun i => c (i * 4 + 3)) (lo := 0) (hi := 1) k.toNat (fun i h1 h2 => h i h1 (by omega))
  unfold blS
  omega
theorem pgC_ln {c : Int → Int} : ∀ n : Nat, pgC c n = lnS c n + blS c n := by
  intro n
  induction n with
  | zero => rfl
  | succ n ih =>
    have h1 := pgC_s (c := c) (k := n) (by omega)
    have h2 := lnS_s (c := c) (k := n) (by omega)
    have h3 := blS_s (c := c) (k := n) (by omega)
    have e : ((n + 1 : Nat) : Int) = (n : Int) + 1 := rfl
    rw [e, h1, h2, h3, ih]
    unfold itsC
    omega
def bsI (c : Int → Int) (G : Int) : Nat → Int → Int → Int → Int
  | 0, _, p, _ => gfI p G * gcC c
  | m + 1, k, p, s => mnB (fun b q => ctV c G k p s b q (bsI c G m (k + 1) (p + lenC c k + b) (sbI c G k p (p + lenC c k + b) s b q))) (mostC c k + 1).toNat 2
def ctB (c : Int → Int) (G k p s b q : Int) : Int := ctV c G k p s b q (bsI c G (c 0 - (k + 1)).toNat (k + 1) (p + lenC c k + b) (sbI c G k p (p + lenC c k + b) s b q))
theorem bsI_s {c : Int → Int} {G k p s : Int} (hk : k < c 0) : bsI c G (c 0 - k).toNat k p s = mnB (ctB c G k p s) (mostC c k + 1).toNat 2 := by
  have e : (c 0 - k).toNat = (c 0 - (k + 1)).toNat + 1 := by omega
  rw [e]
  rfl
theorem mnI_le {f : Int → Int} {z : Int} : ∀ n : Nat, mnI f n z ≤ z ∧ ∀ i : Int, 0 ≤ i → i < n → mnI f n z ≤ f i := by
  intro n
  induction n with
  | zero => exact ⟨Int.le_refl z, fun i a b => by omega⟩
  | succ n ih =>
    have e : mnI f (n + 1) z = min (mnI f n z) (f n) := rfl
    refine ⟨by omega, fun i a b => ?_⟩
    by_cases q : i = n
    · subst q; omega
    · have := ih.2 i a (by omega)
      omega
theorem mnI_at {f : Int → Int} {z : Int} : ∀ n : Nat, mnI f n z = z ∨ ∃ i : Int, 0 ≤ i ∧ i < n ∧ mnI f n z = f i := by
  intro n
  induction n with
  | zero => exact Or.inl rfl
  | succ n ih =>
    have e : mnI f (n + 1) z = min (mnI f n z) (f n) := rfl
    by_cases q : f n < mnI f n z
    · exact Or.inr ⟨n, by omega, by omega, by omega⟩
    · rcases ih with h | ⟨i, h1, h2, h3⟩
      · exact Or.inl (by omega)
      · exact Or.inr ⟨i, h1, by omega, by omega⟩
theorem mnB_le {F : Int → Int → Int} {w : Nat} : ∀ n : Nat, mnB F w n ≤ 1000000 ∧ ∀ b i : Int, 0 ≤ b → b < n → 0 ≤ i → i < w → mnB F w n ≤ F b i := by
  intro n
  induction n with
  | zero => exact ⟨Int.le_refl _, fun b i a1 a2 => by omega⟩
  | succ n ih =>
    have e : mnB F w (n + 1) = mnI (F n) w (mnB F w n) := rfl
    have h1 := mnI_le (f := F n) (z := mnB F w n) w
    refine ⟨by omega, fun b i a1 a2 a3 a4 => ?_⟩
    by_cases q : b = n
    · subst q
      have := h1.2 i a3 a4
      omega
    · have := ih.2 b i a1 (by omega) a3 a4
      omega
theorem mnB_at {F : Int → Int → Int} {w : Nat} : ∀ n : Nat, mnB F w n = 1000000 ∨ ∃ b i : Int, (0 ≤ b ∧ b < n) ∧ (0 ≤ i ∧ i < w) ∧ F b i = mnB F w n := by
  intro n
  induction n with
  | zero => exact Or.inl rfl
  | succ n ih =>
    have e : mnB F w (n + 1) = mnI (F n) w (mnB F w n) := rfl
    rcases mnI_at (f := F n) (z := mnB F w n) w with h | ⟨i, h1, h2, h3⟩
    · rcases ih with h4 | ⟨b, i, h5, h6, h7⟩
      · exact Or.inl (by omega)
      · exact Or.inr ⟨b, i, by omega, h6, by omega⟩
    · exact Or.inr ⟨n, i, by omega, ⟨h1, h2⟩, by omega⟩
/-- there always is a way, and it costs little -/
theorem bs_rg {c : Int → Int} (hC : CatOK c) {G : Int} (hG : G = 4 ∨ G = 8 ∨ G = 16) : ∀ (m : Nat) (k p s : Int), 0 ≤ k → k + m = c 0 → (0 ≤ p ∧ p ≤ 5 * k) → 0 ≤ bsI c G m k p s ∧ bsI c G m k p s ≤ 3500 + 300 * m := by
  have hX := hC.2.2
  unfold SetOK at hX
  have hN := hC.1
  intro m
  induction m with
  | zero =>
    intro k p s h0 h1 hp
    have hg := gf_b (q := p) hG (by omega)
    have h2 : 0 ≤ gcC c ∧ gcC c ≤ 198 := by unfold gcC; omega
    have h3 : 0 ≤ gfI p G * gcC c := Int.mul_nonneg hg.1 h2.1
    have h4 : gfI p G * gcC c ≤ 15 * 198 := Int.mul_le_mul hg.2.1 h2.2 h2.1 (by omega)
    show 0 ≤ gfI p G * gcC c ∧ gfI p G * gcC c ≤ 3500 + 300 * ((0 : Nat) : Int)
    omega
  | succ m ih =>
    intro k p s h0 h1 hp
    have hk : 0 ≤ k ∧ k < c 0 := by omega
    have hL := lot_f hC hk
    have hl := len_rg hC hk
    have hM := most_rg hC hk
    unfold LotOK at hL
    have key : ∀ b q : Int, 0 ≤ b → b ≤ 1 → 0 ≤ ctV c G k p s b q (bsI c G m (k + 1) (p + lenC c k + b) (sbI c G k p (p + lenC c k + b) s b q)) ∧ (¬ (¬ c (k * 4 + 2) = 0 ∧ facI (p + 1 + b + q) q (c (k * 4 + 1)) = 0) → ctV c G k p s b q (bsI c G m (k + 1) (p + lenC c k + b) (sbI c G k p (p + lenC c k + b) s b q)) ≤ 3500 + 300 * m + 99 + 99) := by
      intro b q hb1 hb2
      have h2 := ih (k + 1) (p + lenC c k + b) (sbI c G k p (p + lenC c k + b) s b q) (by omega) (by omega) (by omega)
      have h3 := sa_rg hC (G := G) (k := k) (p := p) (s := s) (b := b) (q := q)
      have h4 : 0 ≤ b * c (49 + 3) ∧ b * c (49 + 3) ≤ 99 := by
        have hb3 : b = 0 ∨ b = 1 := by omega
        rcases hb3 with rfl | rfl <;> omega
      refine ⟨(ct_rg hC ⟨hb1, hb2⟩ h2.1).1, fun hv => ?_⟩
      unfold ctV
      rw [if_neg hv]
      omega
    have hw : ((mostC c k + 1).toNat : Int) = mostC c k + 1 := by omega
    have hlo := mnB_rg (F := fun b q => ctV c G k p s b q (bsI c G m (k + 1) (p + lenC c k + b) (sbI c G k p (p + lenC c k + b) s b q))) (w := (mostC c k + 1).toNat) 2 (fun b i a1 a2 _ _ => (key b i a1 (by omega)).1)
    refine ⟨hlo.1, ?_⟩
    have hle := (mnB_le (F := fun b q => ctV c G k p s b q (bsI c G m (k + 1) (p + lenC c k + b) (sbI c G k p (p + lenC c k + b) s b q))) (w := (mostC c k + 1).toNat) 2).2
    show mnB _ _ 2 ≤ 3500 + 300 * ((m + 1 : Nat) : Int)
    by_cases e : (p + 1) % 2 = 0
    · have h5 := hle 0 0 (by omega) (by omega) (by omega) (by omega)
      have h6 := (key 0 0 (by omega) (by omega)).2 (by
        rintro ⟨a1, a2⟩
        unfold facI at a2
        rw [if_pos (by omega), bI_t (by omega)] at a2
        omega)
      omega
    · have h5 := hle 1 0 (by omega) (by omega) (by omega) (by omega)
      have h6 := (key 1 0 (by omega) (by omega)).2 (by
        rintro ⟨a1, a2⟩
        unfold facI at a2
        rw [if_pos (by omega), bI_t (by omega)] at a2
        omega)
      omega
theorem bs_lt {c : Int → Int} (hC : CatOK c) {G k p s : Int} (hG : G = 4 ∨ G = 8 ∨ G = 16) (hk : 0 ≤ k ∧ k ≤ c 0) (hp : 0 ≤ p ∧ p ≤ 5 * k) : 0 ≤ bsI c G (c 0 - k).toNat k p s ∧ bsI c G (c 0 - k).toNat k p s ≤ 999999 := by
  have hN := hC.1
  have h := bs_rg hC hG (c 0 - k).toNat k p s hk.1 (by omega) hp
  omega
def LeOK (c : Int → Int) (G : Int) (le : Int → Int) (k : Int) : Prop := ∀ k' : Int, k ≤ k' → k' ≤ c 0 → ∀ st : Int, 0 ≤ st → st < (k' + 1) * 4 → le (k' * 52 + st) = bsI c G (c 0 - k').toNat k' (lnS c k' + st / 4) (st % 4)
def AhOK (c ah : Int → Int) : Prop := ∀ j : Int, 0 ≤ j → j ≤ c 0 → ah j = lnS c j
theorem ctR_B {c : Int → Int} (hC : CatOK c) {G : Int} {ah le : Int → Int} {k st b q : Int} (hk : 0 ≤ k ∧ k < c 0) (hs : 0 ≤ st ∧ st < (k + 1) * 4) (hb : 0 ≤ b ∧ b ≤ 1) (hA : AhOK c ah) (hL : LeOK c G le (k + 1)) :
    ctR c G ah le k st b q = ctB c G k (lnS c k + st / 4) (st % 4) b q := by
  have h1 := stB_rg (f := c) (G := G) (ah := ah) (q := q) hs hb
  have h2 := sb_rg (c := c) (G := G) (k := k) (p := ah k + st / 4) (nx := ah (k + 1) + st / 4 + b) (s := st % 4) (b := b) (q := q) (by omega)
  have e1 := hA k hk.1 (by omega)
  have e2 := hA (k + 1) (by omega) (by omega)
  have e3 := lnS_s (c := c) hk.1
  unfold ctR ctB
  rw [hL (k + 1) (by omega) (by omega) _ h1.1 (by omega)]
  have e4 : stB c G ah k st b q / 4 = st / 4 + b := by unfold stB; omega
  have e5 : stB c G ah k st b q % 4 = sbI c G k (ah k + st / 4) (ah (k + 1) + st / 4 + b) (st % 4) b q := by unfold stB; omega
  rw [e4, e5, e1, e2, e3]
  rw [show lnS c k + lenC c k + (st / 4 + b) = lnS c k + st / 4 + lenC c k + b by omega, show lnS c k + lenC c k + st / 4 + b = lnS c k + st / 4 + lenC c k + b by omega]
theorem LeOK_s {c : Int → Int} (hC : CatOK c) {G : Int} {ah le le2 : Int → Int} {k : Int} (hk : 0 ≤ k ∧ k < c 0) (hA : AhOK c ah) (hL : LeOK c G le (k + 1)) (h : ∀ j : Int, le2 j = if k * 52 ≤ j ∧ j < k * 52 + (k + 1) * 4 then wgR c G ah le k (j - k * 52) else le j) : LeOK c G le2 k := by
  have hN := hC.1
  intro k' h1 h2 st h3 h4
  rw [h (k' * 52 + st)]
  by_cases e : k' = k
  · subst e
    rw [if_pos (by omega), show k' * 52 + st - k' * 52 = st by omega, bsI_s (by omega)]
    unfold wgR
    have hM := most_rg hC hk
    exact mnB_c 2 (fun b i a1 a2 a3 a4 => ctR_B hC hk ⟨h3, h4⟩ (by omega) hA hL)
  · rw [if_neg (by omega)]
    exact hL k' (by omega) h2 st h3 h4
theorem Le_rg {c : Int → Int} (hC : CatOK c) {G : Int} {le : Int → Int} {k j : Int} (hG : G = 4 ∨ G = 8 ∨ G = 16) (hk : 0 ≤ k ∧ k ≤ c 0) (hL : LeOK c G le k) (h1 : k * 52 ≤ j) (h2 : j < k * 52 + (k + 1) * 4) : 0 ≤ le j ∧ le j ≤ 999999 := by
  have hb := lnS_b hC hk
  have e := hL k (by omega) hk.2 (j - k * 52) (by omega) (by omega)
  rw [show k * 52 + (j - k * 52) = j by omega] at e
  have := bs_lt hC (p := lnS c k + (j - k * 52) / 4) (s := (j - k * 52) % 4) hG hk (by omega)
  omega
theorem ctR_rg {f : Int → Int} (hC : CatOK f) {G : Int} {ah le : Int → Int} {k st b q : Int} (hs : 0 ≤ st ∧ st < (k + 1) * 4) (hb : 0 ≤ b ∧ b ≤ 1) (h : ∀ j : Int, (k + 1) * 52 ≤ j → j < (k + 1) * 52 + (k + 2) * 4 → 0 ≤ le j ∧ le j ≤ 1000000) : 0 ≤ ctR f G ah le k st b q ∧ ctR f G ah le k st b q ≤ 1000000 := by
  have h1 := stB_rg (f := f) (G := G) (ah := ah) (q := q) hs hb
  exact ct_rg hC hb (h _ (by omega) (by omega)).1
theorem fl_X3_countPagesAhead_23 : Cond.fieldLink RX3 23 "FacingPlates$Planner" "ahead" "LFacingPlates$Row;" ∈ wsX3_countPagesAhead := by decide +kernel
theorem fl_X3_countPagesAhead_14 : Cond.fieldLink RX3 14 "FacingPlates$Planner" "chosen" "LFacingPlates$Catalogue;" ∈ wsX3_countPagesAhead := by decide +kernel
set_option maxHeartbeats 4000000 in
set_option maxRecDepth 100000 in
theorem c_X3_countPagesAhead (l : Launch) (D : va_G) (cyI : ClassId) (h : Nat) (hc : Nat) (ra : Nat) (rl : Nat) (size : Int) (aa : Nat) (ah : Int → Int) (cr : Nat) (ca : Nat) (f : Int → Int) (hC : CatOK f) : fp_MW l yX3_countPagesAhead wsX3_countPagesAhead ({ frames := 3, cells := 0, slots := 0, locals := 63 } : Room) D cyI [(h, .inr (3, [.ref hc, .ref ra, .ref rl, .int (iI (size))])), (ra, .inr (5, [.ref aa])), (aa, fA cyI 13 ah), (hc, .inr (0, [.ref cr])), (cr, .inr (5, [.ref ca])), (ca, fA cyI 54 f)] [.ref h] (fun (u9 : (Int → Int)) => (AhOK f u9)) (fun (u9 : (Int → Int)) => none) (fun (u9 : (Int → Int)) => [(h, .inr (3, [.ref hc, .ref ra, .ref rl, .int (iI (size))])), (ra, .inr (5, [.ref aa])), (aa, fA cyI 13 u9), (hc, .inr (0, [.ref cr])), (cr, .inr (5, [.ref ca])), (ca, fA cyI 54 f)]) := by
  refine fp_start (cc := cX3_countPagesAhead) (maxL := 2) (ret := none) (by decide) rfl (Nat.le_of_ble_eq_true rfl) ?_
  intro pg en sx mi ar bl mt cd ls hx hb hr hts hown hlocks hml hnm hP hK hD hl
  have hown : sx.vm.findClass RX3 = some mi.cls := hown
  have hl : lv_has ls 2 [(0, .ref h)] := hl
  have hD := fp_self hD
  have hS : va_S (fp_A [(h, .inr (3, [.ref hc, .ref ra, .ref rl, .int (iI (size))])), (ra, .inr (5, [.ref aa])), (aa, fA cyI 13 ah), (hc, .inr (0, [.ref cr])), (cr, .inr (5, [.ref ca])), (ca, fA cyI 54 f)]) sx.heap sx.heap [] := va_S.rf
  have hN := hC.1
  refine lv_aload_n hx hb dX3_countPagesAhead_0 rfl (lv_at hl 0 rfl) ?_
  refine va_get (D := D) (ci := 3) (ws := [(h, .inr (3, [.ref hc, .ref ra, .ref rl, .int (iI (size))])), (ra, .inr (5, [.ref aa])), (aa, fA cyI 13 ah), (hc, .inr (0, [.ref cr])), (cr, .inr (5, [.ref ca])), (ca, fA cyI 54 f)]) (v := .ref ra) (C := RX3) (T := TX3) (N := 4) hx hb hts (fun _ h => List.mem_cons_of_mem _ (List.mem_append_left _ (List.mem_append_left _ (List.mem_append_right _ h)))) hown hK.1 hP 0 rfl rfl 1 (by decide) (hts _ fl_X3_countPagesAhead_23) (fun _ h9 => h9) rfl dX3_countPagesAhead_1 ?_
  refine fp_iconst hx hb dX3_countPagesAhead_4 ?_
  refine fp_iconst hx hb dX3_countPagesAhead_5 ?_
  refine fp_wV (As := [.int (iI (0)), .int (iI (0))]) (rest := []) (wsC := [(h, .inr (3, [.ref hc, .ref ra, .ref rl, .int (iI (size))])), (ra, .inr (5, [.ref aa])), (aa, fA cyI 13 ah), (hc, .inr (0, [.ref cr])), (cr, .inr (5, [.ref ca])), (ca, fA cyI 54 f)]) ⟨hx, hb, hml, hown, hts⟩ (c_X5_put l D cyI ra aa 13 ah 0 0 (by omega) (by decide)) (cwV 2 hts gX3_countPagesAhead_X5_put rfl rfl rfl (by decide +kernel) ⟨Nat.le_of_ble_eq_true rfl, Nat.le_of_ble_eq_true rfl⟩) (fun _ => rfl) hK hP hD hS [1, 2] (by decide) rfl rfl rfl rfl hl.1 rfl (Nat.le_of_ble_eq_true rfl) dX3_countPagesAhead_6 ⟨Nat.zero_le _, Nat.zero_le _⟩ (fun u9v H locs hu hP hD hS => ?_)
  refine W.eq (g2 := F0 mi 9 ls []) rfl ?_
  have hP : va_P D vwCl [(h, .inr (3, [.ref hc, .ref ra, .ref rl, .int (iI (size))])), (ra, .inr (5, [.ref aa])), (aa, fA cyI 13 (upI ah 0 0)), (hc, .inr (0, [.ref cr])), (cr, .inr (5, [.ref ca])), (ca, fA cyI 54 f)] H := hP
  have hD : va_D (fp_A [(h, .inr (3, [.ref hc, .ref ra, .ref rl, .int (iI (size))])), (ra, .inr (5, [.ref aa])), (aa, fA cyI 13 ah), (hc, .inr (0, [.ref cr])), (cr, .inr (5, [.ref ca])), (ca, fA cyI 54 f)]) [(h, .inr (3, [.ref hc, .ref ra, .ref rl, .int (iI (size))])), (ra, .inr (5, [.ref aa])), (aa, fA cyI 13 (upI ah 0 0)), (hc, .inr (0, [.ref cr])), (cr, .inr (5, [.ref ca])), (ca, fA cyI 54 f)] := hD
  refine fp_iconst hx hb dX3_countPagesAhead_9 ?_
  refine lv_istore_n (lv' := [(1, .int (iI (0))), (0, .ref h)]) hx hb dX3_countPagesAhead_10 rfl hl (by decide) rfl (fun ls hl => ?_)
  have hl := lv_sub hl (l' := [(0, .ref h), (1, .int (iI (0)))]) [1, 0] rfl
  have lp0 : ∀ (nf : Nat) (k : Int) (a2 : Int → Int), (0 ≤ k ∧ k ≤ f 0) → (∀ j : Int, 0 ≤ j → j ≤ k → a2 j = lnS f j) → (f 0 + 1 ≤ k + (nf : Int)) → ∀ (H : Heap) (locs : List Loc), va_P D vwCl [(h, .inr (3, [.ref hc, .ref ra, .ref rl, .int (iI (size))])), (ra, .inr (5, [.ref aa])), (aa, fA cyI 13 a2), (hc, .inr (0, [.ref cr])), (cr, .inr (5, [.ref ca])), (ca, fA cyI 54 f)] H → va_D (fp_A [(h, .inr (3, [.ref hc, .ref ra, .ref rl, .int (iI (size))])), (ra, .inr (5, [.ref aa])), (aa, fA cyI 13 ah), (hc, .inr (0, [.ref cr])), (cr, .inr (5, [.ref ca])), (ca, fA cyI 54 f)]) [(h, .inr (3, [.ref hc, .ref ra, .ref rl, .int (iI (size))])), (ra, .inr (5, [.ref aa])), (aa, fA cyI 13 a2), (hc, .inr (0, [.ref cr])), (cr, .inr (5, [.ref ca])), (ca, fA cyI 54 f)] → va_S (fp_A [(h, .inr (3, [.ref hc, .ref ra, .ref rl, .int (iI (size))])), (ra, .inr (5, [.ref aa])), (aa, fA cyI 13 ah), (hc, .inr (0, [.ref cr])), (cr, .inr (5, [.ref ca])), (ca, fA cyI 54 f)]) sx.heap H locs → ∀ (ls : Array Slot), lv_has ls 2 [(0, .ref h), (1, .int (iI (k)))] → W pg l en ({ frames := 3, cells := 0, slots := 0, locals := 63 } : Room) sx mi ar bl mt cd H locs 0 0 (MQ bl (fp_Qw D [(h, .inr (3, [.ref hc, .ref ra, .ref rl, .int (iI (size))])), (ra, .inr (5, [.ref aa])), (aa, fA cyI 13 ah), (hc, .inr (0, [.ref cr])), (cr, .inr (5, [.ref ca])), (ca, fA cyI 54 f)] (fun (u9 : (Int → Int)) => (AhOK f u9)) (fun (u9 : (Int → Int)) => none) (fun (u9 : (Int → Int)) => [(h, .inr (3, [.ref hc, .ref ra, .ref rl, .int (iI (size))])), (ra, .inr (5, [.ref aa])), (aa, fA cyI 13 u9), (hc, .inr (0, [.ref cr])), (cr, .inr (5, [.ref ca])), (ca, fA cyI 54 f)])) ar sx 0 0 (fp_A [(h, .inr (3, [.ref hc, .ref ra, .ref rl, .int (iI (size))])), (ra, .inr (5, [.ref aa])), (aa, fA cyI 13 ah), (hc, .inr (0, [.ref cr])), (cr, .inr (5, [.ref ca])), (ca, fA cyI 54 f)])) (F0 mi 11 ls []) := by
    intro nf
    induction nf with
    | zero =>
      intro k a2 ik ja hfuel
      exact absurd hfuel (by omega)
    | succ nf ih0 =>
      intro k a2 ik ja hfuel H locs hP hD hS ls hl
      refine lv_iload_n hx hb dX3_countPagesAhead_11 rfl (lv_at hl 1 rfl) ?_
      refine lv_aload_n hx hb dX3_countPagesAhead_12 rfl (lv_at hl 0 rfl) ?_
      refine va_get (D := D) (ci := 3) (ws := [(h, .inr (3, [.ref hc, .ref ra, .ref rl, .int (iI (size))])), (ra, .inr (5, [.ref aa])), (aa, fA cyI 13 a2), (hc, .inr (0, [.ref cr])), (cr, .inr (5, [.ref ca])), (ca, fA cyI 54 f)]) (v := .ref hc) (C := RX3) (T := TX3) (N := 4) hx hb hts (fun _ h => List.mem_cons_of_mem _ (List.mem_append_left _ (List.mem_append_left _ (List.mem_append_right _ h)))) hown hK.1 hP 0 rfl rfl 0 (by decide) (hts _ fl_X3_countPagesAhead_14) (fun _ h9 => h9) rfl dX3_countPagesAhead_13 ?_
      refine fp_pV (As := []) (rest := [.int (iI (k))]) (wsC := [(h, .inr (3, [.ref hc, .ref ra, .ref rl, .int (iI (size))])), (ra, .inr (5, [.ref aa])), (aa, fA cyI 13 a2), (hc, .inr (0, [.ref cr])), (cr, .inr (5, [.ref ca])), (ca, fA cyI 54 f)]) ⟨hx, hb, hml, hown, hts⟩ (c_X0_lots l D cyI hc cr ca f) (cwV 0 hts gX3_countPagesAhead_X0_lots rfl rfl rfl (by decide +kernel) ⟨Nat.le_of_ble_eq_true rfl, Nat.le_of_ble_eq_true rfl⟩) hK hP hD [3, 4, 5] (by decide) rfl rfl rfl rfl hl.1 rfl (Nat.le_of_ble_eq_true rfl) dX3_countPagesAhead_16 ⟨Nat.zero_le _, Nat.zero_le _⟩ ?_
      refine fp_icmp_ge (tgt := 55) hx hb (by omega) dX3_countPagesAhead_19 (by decide) (fun q19 => ?_) (fun q19 => ?_)
      · skip
        exact fp_wvret (a2) hx hb hr hlocks hS hP (fun j a1 a3 => ja j a1 (by omega)) rfl dX3_countPagesAhead_55
      · skip
        refine lv_aload_n hx hb dX3_countPagesAhead_22 rfl (lv_at hl 0 rfl) ?_
        refine va_get (D := D) (ci := 3) (ws := [(h, .inr (3, [.ref hc, .ref ra, .ref rl, .int (iI (size))])), (ra, .inr (5, [.ref aa])), (aa, fA cyI 13 a2), (hc, .inr (0, [.ref cr])), (cr, .inr (5, [.ref ca])), (ca, fA cyI 54 f)]) (v := .ref ra) (C := RX3) (T := TX3) (N := 4) hx hb hts (fun _ h => List.mem_cons_of_mem _ (List.mem_append_left _ (List.mem_append_left _ (List.mem_append_right _ h)))) hown hK.1 hP 0 rfl rfl 1 (by decide) (hts _ fl_X3_countPagesAhead_23) (fun _ h9 => h9) rfl dX3_countPagesAhead_23 ?_
        refine lv_iload_n hx hb dX3_countPagesAhead_26 rfl (lv_at hl 1 rfl) ?_
        refine fp_iconst hx hb dX3_countPagesAhead_27 ?_
        refine fp_iadd hx hb dX3_countPagesAhead_28 ?_
        refine lv_aload_n hx hb dX3_countPagesAhead_29 rfl (lv_at hl 0 rfl) ?_
        refine va_get (D := D) (ci := 3) (ws := [(h, .inr (3, [.ref hc, .ref ra, .ref rl, .int (iI (size))])), (ra, .inr (5, [.ref aa])), (aa, fA cyI 13 a2), (hc, .inr (0, [.ref cr])), (cr, .inr (5, [.ref ca])), (ca, fA cyI 54 f)]) (v := .ref ra) (C := RX3) (T := TX3) (N := 4) hx hb hts (fun _ h => List.mem_cons_of_mem _ (List.mem_append_left _ (List.mem_append_left _ (List.mem_append_right _ h)))) hown hK.1 hP 0 rfl rfl 1 (by decide) (hts _ fl_X3_countPagesAhead_23) (fun _ h9 => h9) rfl dX3_countPagesAhead_30 ?_
        refine lv_iload_n hx hb dX3_countPagesAhead_33 rfl (lv_at hl 1 rfl) ?_
        refine fp_pV (As := [.int (iI (k))]) (rest := [.int (iI (k + 1)), .ref ra]) (wsC := [(h, .inr (3, [.ref hc, .ref ra, .ref rl, .int (iI (size))])), (ra, .inr (5, [.ref aa])), (aa, fA cyI 13 a2), (hc, .inr (0, [.ref cr])), (cr, .inr (5, [.ref ca])), (ca, fA cyI 54 f)]) ⟨hx, hb, hml, hown, hts⟩ (c_X5_at l D cyI ra aa 13 a2 k (by omega) (by decide)) (cwV 1 hts gX3_countPagesAhead_X5_at rfl rfl rfl (by decide +kernel) ⟨Nat.le_of_ble_eq_true rfl, Nat.le_of_ble_eq_true rfl⟩) hK hP hD [1, 2] (by decide) rfl rfl rfl rfl hl.1 rfl (Nat.le_of_ble_eq_true rfl) dX3_countPagesAhead_34 ⟨Nat.zero_le _, Nat.zero_le _⟩ ?_
        refine lv_aload_n hx hb dX3_countPagesAhead_37 rfl (lv_at hl 0 rfl) ?_
        refine va_get (D := D) (ci := 3) (ws := [(h, .inr (3, [.ref hc, .ref ra, .ref rl, .int (iI (size))])), (ra, .inr (5, [.ref aa])), (aa, fA cyI 13 a2), (hc, .inr (0, [.ref cr])), (cr, .inr (5, [.ref ca])), (ca, fA cyI 54 f)]) (v := .ref hc) (C := RX3) (T := TX3) (N := 4) hx hb hts (fun _ h => List.mem_cons_of_mem _ (List.mem_append_left _ (List.mem_append_left _ (List.mem_append_right _ h)))) hown hK.1 hP 0 rfl rfl 0 (by decide) (hts _ fl_X3_countPagesAhead_14) (fun _ h9 => h9) rfl dX3_countPagesAhead_38 ?_
        refine lv_iload_n hx hb dX3_countPagesAhead_41 rfl (lv_at hl 1 rfl) ?_
        refine fp_pV (As := [.int (iI (k))]) (rest := [.int (iI (a2 k)), .int (iI (k + 1)), .ref ra]) (wsC := [(h, .inr (3, [.ref hc, .ref ra, .ref rl, .int (iI (size))])), (ra, .inr (5, [.ref aa])), (aa, fA cyI 13 a2), (hc, .inr (0, [.ref cr])), (cr, .inr (5, [.ref ca])), (ca, fA cyI 54 f)]) ⟨hx, hb, hml, hown, hts⟩ (c_X0_ownPages l D cyI hc cr ca f k hC (by omega)) (cwV 1 hts gX3_countPagesAhead_X0_ownPages rfl rfl rfl (by decide +kernel) ⟨Nat.le_of_ble_eq_true rfl, Nat.le_of_ble_eq_true rfl⟩) hK hP hD [3, 4, 5] (by decide) rfl rfl rfl rfl hl.1 rfl (Nat.le_of_ble_eq_true rfl) dX3_countPagesAhead_42 ⟨Nat.zero_le _, Nat.zero_le _⟩ ?_
        refine fp_iadd hx hb dX3_countPagesAhead_45 ?_
        refine fp_wV (As := [.int (iI (k + 1)), .int (iI ((a2 k) + (lenC f k)))]) (rest := []) (wsC := [(h, .inr (3, [.ref hc, .ref ra, .ref rl, .int (iI (size))])), (ra, .inr (5, [.ref aa])), (aa, fA cyI 13 a2), (hc, .inr (0, [.ref cr])), (cr, .inr (5, [.ref ca])), (ca, fA cyI 54 f)]) ⟨hx, hb, hml, hown, hts⟩ (c_X5_put l D cyI ra aa 13 a2 (k + 1) ((a2 k) + (lenC f k)) (by omega) (by decide)) (cwV 2 hts gX3_countPagesAhead_X5_put rfl rfl rfl (by decide +kernel) ⟨Nat.le_of_ble_eq_true rfl, Nat.le_of_ble_eq_true rfl⟩) (fun _ => rfl) hK hP hD hS [1, 2] (by decide) rfl rfl rfl rfl hl.1 rfl (Nat.le_of_ble_eq_true rfl) dX3_countPagesAhead_46 ⟨Nat.zero_le _, Nat.zero_le _⟩ (fun u9v H locs hu hP hD hS => ?_)
        refine W.eq (g2 := F0 mi 49 ls []) rfl ?_
        have hP : va_P D vwCl [(h, .inr (3, [.ref hc, .ref ra, .ref rl, .int (iI (size))])), (ra, .inr (5, [.ref aa])), (aa, fA cyI 13 (upI a2 (k + 1) ((a2 k) + (lenC f k)))), (hc, .inr (0, [.ref cr])), (cr, .inr (5, [.ref ca])), (ca, fA cyI 54 f)] H := hP
        have hD : va_D (fp_A [(h, .inr (3, [.ref hc, .ref ra, .ref rl, .int (iI (size))])), (ra, .inr (5, [.ref aa])), (aa, fA cyI 13 ah), (hc, .inr (0, [.ref cr])), (cr, .inr (5, [.ref ca])), (ca, fA cyI 54 f)]) [(h, .inr (3, [.ref hc, .ref ra, .ref rl, .int (iI (size))])), (ra, .inr (5, [.ref aa])), (aa, fA cyI 13 (upI a2 (k + 1) ((a2 k) + (lenC f k)))), (hc, .inr (0, [.ref cr])), (cr, .inr (5, [.ref ca])), (ca, fA cyI 54 f)] := hD
        refine fp_iinc (k := 1) (lv' := [(1, .int (iI (k + 1))), (0, .ref h)]) hx hb dX3_countPagesAhead_49 hl rfl (by decide) rfl (fun ls hl => ?_)
        refine lv_goto (tgt := 11) hx hb dX3_countPagesAhead_52 (by decide) ?_
        exact ih0 (k + 1) (upI a2 (k + 1) ((a2 k) + (lenC f k))) (by omega) (fun j a1 a3 => by
        by_cases e : j = k + 1
        · rw [upI_s e, e, lnS_s ik.1, ja k ik.1 (by omega)]
        · rw [upI_n e]; exact ja j a1 (by omega)) (by omega) H locs hP hD hS ls (lv_sub hl [1, 0] rfl)
  exact lp0 (((f 0 : Int) + 1 - (0)).toNat) 0 (upI ah 0 0) (by omega) (fun j a1 a2 => by rw [show j = 0 by omega, upI_s rfl]; rfl) (by omega) H locs hP hD hS ls hl
theorem fl_X3_weighEnds_14 : Cond.fieldLink RX3 14 "FacingPlates$Planner" "chosen" "LFacingPlates$Catalogue;" ∈ wsX3_weighEnds := by decide +kernel
theorem fl_X3_weighEnds_30 : Cond.fieldLink RX3 30 "FacingPlates$Planner" "size" "I" ∈ wsX3_weighEnds := by decide +kernel
theorem ini_X3_weighEnds_X7 : Cond.initialized RX7 ∈ wsX3_weighEnds := by decide +kernel
theorem stt_X3_weighEnds_X7_gatheringsFor : Cond.static yX7_gatheringsFor ∈ wsX3_weighEnds := by decide +kernel
set_option maxHeartbeats 4000000 in
set_option maxRecDepth 100000 in
theorem c_X3_weighEnds (l : Launch) (D : va_G) (cyI : ClassId) (h : Nat) (hc : Nat) (ra : Nat) (rl : Nat) (size : Int) (aa : Nat) (ah : Int → Int) (al : Nat) (le : Int → Int) (cr : Nat) (ca : Nat) (f : Int → Int) (hC : CatOK f) (hg : size = 4 ∨ size = 8 ∨ size = 16) (hA : AhOK f ah) : fp_MW l yX3_weighEnds wsX3_weighEnds ({ frames := 3, cells := 0, slots := 0, locals := 62 } : Room) D cyI [(h, .inr (3, [.ref hc, .ref ra, .ref rl, .int (iI (size))])), (ra, .inr (5, [.ref aa])), (aa, fA cyI 13 ah), (rl, .inr (5, [.ref al])), (al, fA cyI 676 le), (hc, .inr (0, [.ref cr])), (cr, .inr (5, [.ref ca])), (ca, fA cyI 54 f)] [.ref h] (fun (u9 : (Int → Int)) => (LeOK f size u9 (f 0))) (fun (u9 : (Int → Int)) => none) (fun (u9 : (Int → Int)) => [(h, .inr (3, [.ref hc, .ref ra, .ref rl, .int (iI (size))])), (ra, .inr (5, [.ref aa])), (aa, fA cyI 13 ah), (rl, .inr (5, [.ref al])), (al, fA cyI 676 u9), (hc, .inr (0, [.ref cr])), (cr, .inr (5, [.ref ca])), (ca, fA cyI 54 f)]) := by
  refine fp_start (cc := cX3_weighEnds) (maxL := 4) (ret := none) (by decide) rfl (Nat.le_of_ble_eq_true rfl) ?_
  intro pg en sx mi ar bl mt cd ls hx hb hr hts hown hlocks hml hnm hP hK hD hl
  have hown : sx.vm.findClass RX3 = some mi.cls := hown
  have hl : lv_has ls 4 [(0, .ref h)] := hl
  have hD := fp_self hD
  have hS : va_S (fp_A [(h, .inr (3, [.ref hc, .ref ra, .ref rl, .int (iI (size))])), (ra, .inr (5, [.ref aa])), (aa, fA cyI 13 ah), (rl, .inr (5, [.ref al])), (al, fA cyI 676 le), (hc, .inr (0, [.ref cr])), (cr, .inr (5, [.ref ca])), (ca, fA cyI 54 f)]) sx.heap sx.heap [] := va_S.rf
  have hN := hC.1
  have eA := hA (f 0) (by omega) (by omega)
  have hB := lnS_b hC (k := f 0) (by omega)
  refine lv_aload_n hx hb dX3_weighEnds_0 rfl (lv_at hl 0 rfl) ?_
  refine va_get (D := D) (ci := 3) (ws := [(h, .inr (3, [.ref hc, .ref ra, .ref rl, .int (iI (size))])), (ra, .inr (5, [.ref aa])), (aa, fA cyI 13 ah), (rl, .inr (5, [.ref al])), (al, fA cyI 676 le), (hc, .inr (0, [.ref cr])), (cr, .inr (5, [.ref ca])), (ca, fA cyI 54 f)]) (v := .ref hc) (C := RX3) (T := TX3) (N := 4) hx hb hts (fun _ h => List.mem_cons_of_mem _ (List.mem_append_left _ (List.mem_append_left _ (List.mem_append_right _ h)))) hown hK.1 hP 0 rfl rfl 0 (by decide) (hts _ fl_X3_weighEnds_14) (fun _ h9 => h9) rfl dX3_weighEnds_1 ?_
  refine fp_pV (As := []) (rest := []) (wsC := [(h, .inr (3, [.ref hc, .ref ra, .ref rl, .int (iI (size))])), (ra, .inr (5, [.ref aa])), (aa, fA cyI 13 ah), (rl, .inr (5, [.ref al])), (al, fA cyI 676 le), (hc, .inr (0, [.ref cr])), (cr, .inr (5, [.ref ca])), (ca, fA cyI 54 f)]) ⟨hx, hb, hml, hown, hts⟩ (c_X0_lots l D cyI hc cr ca f) (cwV 0 hts gX3_weighEnds_X0_lots rfl rfl rfl (by decide +kernel) ⟨Nat.le_of_ble_eq_true rfl, Nat.le_of_ble_eq_true rfl⟩) hK hP hD [5, 6, 7] (by decide) rfl rfl rfl rfl hl.1 rfl (Nat.le_of_ble_eq_true rfl) dX3_weighEnds_4 ⟨Nat.zero_le _, Nat.zero_le _⟩ ?_
  refine lv_istore_n (lv' := [(1, .int (iI (f 0))), (0, .ref h)]) hx hb dX3_weighEnds_7 rfl hl (by decide) rfl (fun ls hl => ?_)
  refine fp_iconst hx hb dX3_weighEnds_8 ?_
  refine lv_istore_n (lv' := [(2, .int (iI (0))), (1, .int (iI (f 0))), (0, .ref h)]) hx hb dX3_weighEnds_9 rfl hl (by decide) rfl (fun ls hl => ?_)
  have hl := lv_sub hl (l' := [(0, .ref h), (1, .int (iI (f 0))), (2, .int (iI (0)))]) [2, 1, 0] rfl
  have lp0 : ∀ (nf : Nat) (st : Int) (l2 : Int → Int), (0 ≤ st ∧ st ≤ (f 0 + 1) * 4) → (∀ j : Int, 0 ≤ j → j < st → l2 (f 0 * 52 + j) = gfI (lnS f (f 0) + j / 4) size * gcC f) → ((f 0 + 1) * 4 + 1 ≤ st + (nf : Int)) → ∀ (H : Heap) (locs : List Loc), va_P D vwCl [(h, .inr (3, [.ref hc, .ref ra, .ref rl, .int (iI (size))])), (ra, .inr (5, [.ref aa])), (aa, fA cyI 13 ah), (rl, .inr (5, [.ref al])), (al, fA cyI 676 l2), (hc, .inr (0, [.ref cr])), (cr, .inr (5, [.ref ca])), (ca, fA cyI 54 f)] H → va_D (fp_A [(h, .inr (3, [.ref hc, .ref ra, .ref rl, .int (iI (size))])), (ra, .inr (5, [.ref aa])), (aa, fA cyI 13 ah), (rl, .inr (5, [.ref al])), (al, fA cyI 676 le), (hc, .inr (0, [.ref cr])), (cr, .inr (5, [.ref ca])), (ca, fA cyI 54 f)]) [(h, .inr (3, [.ref hc, .ref ra, .ref rl, .int (iI (size))])), (ra, .inr (5, [.ref aa])), (aa, fA cyI 13 ah), (rl, .inr (5, [.ref al])), (al, fA cyI 676 l2), (hc, .inr (0, [.ref cr])), (cr, .inr (5, [.ref ca])), (ca, fA cyI 54 f)] → va_S (fp_A [(h, .inr (3, [.ref hc, .ref ra, .ref rl, .int (iI (size))])), (ra, .inr (5, [.ref aa])), (aa, fA cyI 13 ah), (rl, .inr (5, [.ref al])), (al, fA cyI 676 le), (hc, .inr (0, [.ref cr])), (cr, .inr (5, [.ref ca])), (ca, fA cyI 54 f)]) sx.heap H locs → ∀ (ls : Array Slot), lv_has ls 4 [(0, .ref h), (1, .int (iI (f 0))), (2, .int (iI (st)))] → W pg l en ({ frames := 3, cells := 0, slots := 0, locals := 62 } : Room) sx mi ar bl mt cd H locs 0 0 (MQ bl (fp_Qw D [(h, .inr (3, [.ref hc, .ref ra, .ref rl, .int (iI (size))])), (ra, .inr (5, [.ref aa])), (aa, fA cyI 13 ah), (rl, .inr (5, [.ref al])), (al, fA cyI 676 le), (hc, .inr (0, [.ref cr])), (cr, .inr (5, [.ref ca])), (ca, fA cyI 54 f)] (fun (u9 : (Int → Int)) => (LeOK f size u9 (f 0))) (fun (u9 : (Int → Int)) => none) (fun (u9 : (Int → Int)) => [(h, .inr (3, [.ref hc, .ref ra, .ref rl, .int (iI (size))])), (ra, .inr (5, [.ref aa])), (aa, fA cyI 13 ah), (rl, .inr (5, [.ref al])), (al, fA cyI 676 u9), (hc, .inr (0, [.ref cr])), (cr, .inr (5, [.ref ca])), (ca, fA cyI 54 f)])) ar sx 0 0 (fp_A [(h, .inr (3, [.ref hc, .ref ra, .ref rl, .int (iI (size))])), (ra, .inr (5, [.ref aa])), (aa, fA cyI 13 ah), (rl, .inr (5, [.ref al])), (al, fA cyI 676 le), (hc, .inr (0, [.ref cr])), (cr, .inr (5, [.ref ca])), (ca, fA cyI 54 f)])) (F0 mi 10 ls []) := by
    intro nf
    induction nf with
    | zero =>
      intro st l2 ist jl hfuel
      exact absurd hfuel (by omega)
    | succ nf ih0 =>
      intro st l2 ist jl hfuel H locs hP hD hS ls hl
      refine lv_iload_n hx hb dX3_weighEnds_10 rfl (lv_at hl 2 rfl) ?_
      refine lv_iload_n hx hb dX3_weighEnds_11 rfl (lv_at hl 1 rfl) ?_
      refine fp_iconst hx hb dX3_weighEnds_12 ?_
      refine fp_iadd hx hb dX3_weighEnds_13 ?_
      refine fp_iconst hx hb dX3_weighEnds_14 ?_
      refine fp_imul hx hb dX3_weighEnds_15 ?_
      refine fp_icmp_ge (tgt := 54) hx hb (by omega) dX3_weighEnds_16 (by decide) (fun q16 => ?_) (fun q16 => ?_)
      · skip
        have pLe : LeOK f size l2 (f 0) := by
          intro k2 a1 a2 s2 a3 a4
          have e2 : k2 = f 0 := by omega
          subst e2
          rw [jl s2 a3 (by omega), show (f 0 - f 0).toNat = 0 by omega]
          rfl
        exact fp_wvret (l2) hx hb hr hlocks hS hP pLe rfl dX3_weighEnds_54
      · skip
        refine lv_aload_n hx hb dX3_weighEnds_19 rfl (lv_at hl 0 rfl) ?_
        refine lv_iload_n hx hb dX3_weighEnds_20 rfl (lv_at hl 1 rfl) ?_
        refine lv_iload_n hx hb dX3_weighEnds_21 rfl (lv_at hl 2 rfl) ?_
        refine fp_pV (As := [.int (iI (f 0)), .int (iI (st))]) (rest := []) (wsC := [(h, .inr (3, [.ref hc, .ref ra, .ref rl, .int (iI (size))])), (ra, .inr (5, [.ref aa])), (aa, fA cyI 13 ah), (rl, .inr (5, [.ref al])), (al, fA cyI 676 l2), (hc, .inr (0, [.ref cr])), (cr, .inr (5, [.ref ca])), (ca, fA cyI 54 f)]) ⟨hx, hb, hml, hown, hts⟩ (c_X3_pagesAhead l D cyI h hc ra rl size aa ah (f 0) st (by omega) (by omega)) (cwV 2 hts gX3_weighEnds_X3_pagesAhead rfl rfl rfl (by decide +kernel) ⟨Nat.le_of_ble_eq_true rfl, Nat.le_of_ble_eq_true rfl⟩) hK hP hD [0, 1, 2] (by decide) rfl rfl rfl rfl hl.1 rfl (Nat.le_of_ble_eq_true rfl) dX3_weighEnds_22 ⟨Nat.zero_le _, Nat.zero_le _⟩ ?_
        refine lv_aload_n hx hb dX3_weighEnds_25 rfl (lv_at hl 0 rfl) ?_
        refine va_get (D := D) (ci := 3) (ws := [(h, .inr (3, [.ref hc, .ref ra, .ref rl, .int (iI (size))])), (ra, .inr (5, [.ref aa])), (aa, fA cyI 13 ah), (rl, .inr (5, [.ref al])), (al, fA cyI 676 l2), (hc, .inr (0, [.ref cr])), (cr, .inr (5, [.ref ca])), (ca, fA cyI 54 f)]) (v := .int (iI (size))) (C := RX3) (T := TX3) (N := 4) hx hb hts (fun _ h => List.mem_cons_of_mem _ (List.mem_append_left _ (List.mem_append_left _ (List.mem_append_right _ h)))) hown hK.1 hP 0 rfl rfl 3 (by decide) (hts _ fl_X3_weighEnds_30) (fun _ h9 => h9) rfl dX3_weighEnds_26 ?_
        refine fp_pSN (As := [.int (iI (ah (f 0) + st / 4)), .int (iI (size))]) (rest := []) (wsC := [(h, .inr (3, [.ref hc, .ref ra, .ref rl, .int (iI (size))])), (ra, .inr (5, [.ref aa])), (aa, fA cyI 13 ah), (rl, .inr (5, [.ref al])), (al, fA cyI 676 l2), (hc, .inr (0, [.ref cr])), (cr, .inr (5, [.ref ca])), (ca, fA cyI 54 f)]) ⟨hx, hb, hml, hown, hts⟩ (c_X7_gatheringsFor l D cyI (ah (f 0) + st / 4) size hg (by omega)) ⟨va_cnB 2 hts gX3_weighEnds_X7_gatheringsFor_n86 rfl rfl rfl hK.2.2.2.2.1 (hts _ ini_X3_weighEnds_X7) (by decide +kernel) ⟨Nat.le_of_ble_eq_true rfl, Nat.le_of_ble_eq_true rfl⟩, (hts _ stt_X3_weighEnds_X7_gatheringsFor), trivial⟩ hK hP hD [] (by decide) rfl rfl hl.1 rfl (Nat.le_of_ble_eq_true rfl) dX3_weighEnds_29 ⟨Nat.zero_le _, Nat.zero_le _⟩ ?_
        refine lv_istore_n (lv' := [(3, .int (iI (gfI (ah (f 0) + st / 4) size))), (0, .ref h), (1, .int (iI (f 0))), (2, .int (iI (st)))]) hx hb dX3_weighEnds_32 rfl hl (by decide) rfl (fun ls hl => ?_)
        refine lv_aload_n hx hb dX3_weighEnds_33 rfl (lv_at hl 1 rfl) ?_
        refine lv_iload_n hx hb dX3_weighEnds_34 rfl (lv_at hl 2 rfl) ?_
        refine lv_iload_n hx hb dX3_weighEnds_35 rfl (lv_at hl 3 rfl) ?_
        refine lv_iload_n hx hb dX3_weighEnds_36 rfl (lv_at hl 0 rfl) ?_
        refine lv_aload_n hx hb dX3_weighEnds_37 rfl (lv_at hl 1 rfl) ?_
        refine va_get (D := D) (ci := 3) (ws := [(h, .inr (3, [.ref hc, .ref ra, .ref rl, .int (iI (size))])), (ra, .inr (5, [.ref aa])), (aa, fA cyI 13 ah), (rl, .inr (5, [.ref al])), (al, fA cyI 676 l2), (hc, .inr (0, [.ref cr])), (cr, .inr (5, [.ref ca])), (ca, fA cyI 54 f)]) (v := .ref hc) (C := RX3) (T := TX3) (N := 4) hx hb hts (fun _ h => List.mem_cons_of_mem _ (List.mem_append_left _ (List.mem_append_left _ (List.mem_append_right _ h)))) hown hK.1 hP 0 rfl rfl 0 (by decide) (hts _ fl_X3_weighEnds_14) (fun _ h9 => h9) rfl dX3_weighEnds_38 ?_
        refine fp_pV (As := []) (rest := [.int (iI (gfI (ah (f 0) + st / 4) size)), .int (iI (st)), .int (iI (f 0)), .ref h]) (wsC := [(h, .inr (3, [.ref hc, .ref ra, .ref rl, .int (iI (size))])), (ra, .inr (5, [.ref aa])), (aa, fA cyI 13 ah), (rl, .inr (5, [.ref al])), (al, fA cyI 676 l2), (hc, .inr (0, [.ref cr])), (cr, .inr (5, [.ref ca])), (ca, fA cyI 54 f)]) ⟨hx, hb, hml, hown, hts⟩ (c_X0_costOfGathering l D cyI hc cr ca f hC) (cwV 0 hts gX3_weighEnds_X0_costOfGathering rfl rfl rfl (by decide +kernel) ⟨Nat.le_of_ble_eq_true rfl, Nat.le_of_ble_eq_true rfl⟩) hK hP hD [5, 6, 7] (by decide) rfl rfl rfl rfl hl.1 rfl (Nat.le_of_ble_eq_true rfl) dX3_weighEnds_41 ⟨Nat.zero_le _, Nat.zero_le _⟩ ?_
        refine fp_imul hx hb dX3_weighEnds_44 ?_
        refine fp_wV (As := [.int (iI (f 0)), .int (iI (st)), .int (iI ((gfI (ah (f 0) + st / 4) size) * (gcC f)))]) (rest := []) (wsC := [(h, .inr (3, [.ref hc, .ref ra, .ref rl, .int (iI (size))])), (ra, .inr (5, [.ref aa])), (aa, fA cyI 13 ah), (rl, .inr (5, [.ref al])), (al, fA cyI 676 l2), (hc, .inr (0, [.ref cr])), (cr, .inr (5, [.ref ca])), (ca, fA cyI 54 f)]) ⟨hx, hb, hml, hown, hts⟩ (c_X3_putLeast l D cyI h hc ra rl size al l2 (f 0) st ((gfI (ah (f 0) + st / 4) size) * (gcC f)) (by omega) (by omega)) (cwV 3 hts gX3_weighEnds_X3_putLeast rfl rfl rfl (by decide +kernel) ⟨Nat.le_of_ble_eq_true rfl, Nat.le_of_ble_eq_true rfl⟩) (fun _ => rfl) hK hP hD hS [0, 3, 4] (by decide) rfl rfl rfl rfl hl.1 rfl (Nat.le_of_ble_eq_true rfl) dX3_weighEnds_45 ⟨Nat.zero_le _, Nat.zero_le _⟩ (fun u9v H locs hu hP hD hS => ?_)
        refine W.eq (g2 := F0 mi 48 ls []) rfl ?_
        have hP : va_P D vwCl [(h, .inr (3, [.ref hc, .ref ra, .ref rl, .int (iI (size))])), (ra, .inr (5, [.ref aa])), (aa, fA cyI 13 ah), (rl, .inr (5, [.ref al])), (al, fA cyI 676 (upI l2 ((f 0) * 52 + st) ((gfI (ah (f 0) + st / 4) size) * (gcC f)))), (hc, .inr (0, [.ref cr])), (cr, .inr (5, [.ref ca])), (ca, fA cyI 54 f)] H := hP
        have hD : va_D (fp_A [(h, .inr (3, [.ref hc, .ref ra, .ref rl, .int (iI (size))])), (ra, .inr (5, [.ref aa])), (aa, fA cyI 13 ah), (rl, .inr (5, [.ref al])), (al, fA cyI 676 le), (hc, .inr (0, [.ref cr])), (cr, .inr (5, [.ref ca])), (ca, fA cyI 54 f)]) [(h, .inr (3, [.ref hc, .ref ra, .ref rl, .int (iI (size))])), (ra, .inr (5, [.ref aa])), (aa, fA cyI 13 ah), (rl, .inr (5, [.ref al])), (al, fA cyI 676 (upI l2 ((f 0) * 52 + st) ((gfI (ah (f 0) + st / 4) size) * (gcC f)))), (hc, .inr (0, [.ref cr])), (cr, .inr (5, [.ref ca])), (ca, fA cyI 54 f)] := hD
        refine fp_iinc (k := 3) (lv' := [(2, .int (iI (st + 1))), (3, .int (iI (gfI (ah (f 0) + st / 4) size))), (0, .ref h), (1, .int (iI (f 0)))]) hx hb dX3_weighEnds_48 hl rfl (by decide) rfl (fun ls hl => ?_)
        refine lv_goto (tgt := 10) hx hb dX3_weighEnds_51 (by decide) ?_
        exact ih0 (st + 1) (upI l2 ((f 0) * 52 + st) ((gfI (ah (f 0) + st / 4) size) * (gcC f))) (by omega) (fun j a1 a3 => by
        by_cases e : j = st
        · rw [upI_s (by omega), e, eA]
        · rw [upI_n (by omega)]; exact jl j a1 (by omega)) (by omega) H locs hP hD hS ls (lv_sub hl [2, 3, 0] rfl)
  exact lp0 ((((f 0 + 1) * 4 : Int) + 1 - (0)).toNat) 0 le (by omega) (fun j a1 a2 => by omega) (by omega) sx.heap [] hP hD hS ls hl
theorem ck_X3_weigh_59 : Cond.constant RX3 59 (1000000) ∈ wsX3_weigh := by decide +kernel
theorem fl_X3_weigh_14 : Cond.fieldLink RX3 14 "FacingPlates$Planner" "chosen" "LFacingPlates$Catalogue;" ∈ wsX3_weigh := by decide +kernel
theorem ml_X3_weigh_102 : Cond.methodLink RX3 102 Lib.Math.min.name ∈ wsX3_weigh := by decide +kernel
theorem mm_X3_weigh_s : Cond.static Lib.Math.min.name ∈ wsX3_weigh := by decide +kernel
theorem mm_X3_weigh_i : Cond.initialized "java/lang/Math" ∈ wsX3_weigh := by decide +kernel
theorem mm_X3_weigh_c : Cond.code Lib.Math.min.name Lib.Math.min.code 2 (some .int) ∈ wsX3_weigh := by decide +kernel
set_option maxHeartbeats 4000000 in
set_option maxRecDepth 100000 in
theorem c_X3_weigh (l : Launch) (D : va_G) (cyI : ClassId) (h : Nat) (hc : Nat) (ra : Nat) (rl : Nat) (size : Int) (aa : Nat) (ah : Int → Int) (al : Nat) (le : Int → Int) (cr : Nat) (ca : Nat) (f : Int → Int) (k : Int) (hC : CatOK f) (hk : 0 ≤ k ∧ k < f 0) (hg : size = 4 ∨ size = 8 ∨ size = 16) (hah : ∀ j : Int, 0 ≤ j → j ≤ f 0 → 0 ≤ ah j ∧ ah j ≤ 48) (hle : ∀ j : Int, (k + 1) * 52 ≤ j → j < (k + 1) * 52 + (k + 2) * 4 → 0 ≤ le j ∧ le j ≤ 1000000) : fp_MW l yX3_weigh wsX3_weigh ({ frames := 4, cells := 0, slots := 0, locals := 101 } : Room) D cyI [(h, .inr (3, [.ref hc, .ref ra, .ref rl, .int (iI (size))])), (ra, .inr (5, [.ref aa])), (aa, fA cyI 13 ah), (rl, .inr (5, [.ref al])), (al, fA cyI 676 le), (hc, .inr (0, [.ref cr])), (cr, .inr (5, [.ref ca])), (ca, fA cyI 54 f)] [.ref h, .int (iI (k))] (fun (u9 : (Int → Int)) => (∀ j : Int, u9 j = if k * 52 ≤ j ∧ j < k * 52 + (k + 1) * 4 then wgR f size ah le k (j - k * 52) else le j)) (fun (u9 : (Int → Int)) => none) (fun (u9 : (Int → Int)) => [(h, .inr (3, [.ref hc, .ref ra, .ref rl, .int (iI (size))])), (ra, .inr (5, [.ref aa])), (aa, fA cyI 13 ah), (rl, .inr (5, [.ref al])), (al, fA cyI 676 u9), (hc, .inr (0, [.ref cr])), (cr, .inr (5, [.ref ca])), (ca, fA cyI 54 f)]) := by
  refine fp_start (cc := cX3_weigh) (maxL := 6) (ret := none) (by decide) rfl (Nat.le_of_ble_eq_true rfl) ?_
  intro pg en sx mi ar bl mt cd ls hx hb hr hts hown hlocks hml hnm hP hK hD hl
  have hown : sx.vm.findClass RX3 = some mi.cls := hown
  have hl : lv_has ls 6 [(0, .ref h), (1, .int (iI (k)))] := hl
  have hD := fp_self hD
  have hS : va_S (fp_A [(h, .inr (3, [.ref hc, .ref ra, .ref rl, .int (iI (size))])), (ra, .inr (5, [.ref aa])), (aa, fA cyI 13 ah), (rl, .inr (5, [.ref al])), (al, fA cyI 676 le), (hc, .inr (0, [.ref cr])), (cr, .inr (5, [.ref ca])), (ca, fA cyI 54 f)]) sx.heap sx.heap [] := va_S.rf
  have hN := hC.1
  have hM := most_rg hC hk
  refine fp_iconst hx hb dX3_weigh_0 ?_
  refine lv_istore_n (lv' := [(2, .int (iI (0))), (0, .ref h), (1, .int (iI (k)))]) hx hb dX3_weigh_1 rfl hl (by decide) rfl (fun ls hl => ?_)
  have hl := lv_sub hl (l' := [(0, .ref h), (1, .int (iI (k))), (2, .int (iI (0)))]) [1, 2, 0] rfl
  have lp0 : ∀ (nf : Nat) (st : Int) (l2 : Int → Int), (0 ≤ st ∧ st ≤ (k + 1) * 4) → (∀ j : Int, l2 j = if k * 52 ≤ j ∧ j < k * 52 + st then wgR f size ah le k (j - k * 52) else le j) → ((k + 1) * 4 + 1 ≤ st + (nf : Int)) → ∀ (H : Heap) (locs : List Loc), va_P D vwCl [(h, .inr (3, [.ref hc, .ref ra, .ref rl, .int (iI (size))])), (ra, .inr (5, [.ref aa])), (aa, fA cyI 13 ah), (rl, .inr (5, [.ref al])), (al, fA cyI 676 l2), (hc, .inr (0, [.ref cr])), (cr, .inr (5, [.ref ca])), (ca, fA cyI 54 f)] H → va_D (fp_A [(h, .inr (3, [.ref hc, .ref ra, .ref rl, .int (iI (size))])), (ra, .inr (5, [.ref aa])), (aa, fA cyI 13 ah), (rl, .inr (5, [.ref al])), (al, fA cyI 676 le), (hc, .inr (0, [.ref cr])), (cr, .inr (5, [.ref ca])), (ca, fA cyI 54 f)]) [(h, .inr (3, [.ref hc, .ref ra, .ref rl, .int (iI (size))])), (ra, .inr (5, [.ref aa])), (aa, fA cyI 13 ah), (rl, .inr (5, [.ref al])), (al, fA cyI 676 l2), (hc, .inr (0, [.ref cr])), (cr, .inr (5, [.ref ca])), (ca, fA cyI 54 f)] → va_S (fp_A [(h, .inr (3, [.ref hc, .ref ra, .ref rl, .int (iI (size))])), (ra, .inr (5, [.ref aa])), (aa, fA cyI 13 ah), (rl, .inr (5, [.ref al])), (al, fA cyI 676 le), (hc, .inr (0, [.ref cr])), (cr, .inr (5, [.ref ca])), (ca, fA cyI 54 f)]) sx.heap H locs → ∀ (ls : Array Slot), lv_has ls 6 [(0, .ref h), (1, .int (iI (k))), (2, .int (iI (st)))] → W pg l en ({ frames := 4, cells := 0, slots := 0, locals := 101 } : Room) sx mi ar bl mt cd H locs 0 0 (MQ bl (fp_Qw D [(h, .inr (3, [.ref hc, .ref ra, .ref rl, .int (iI (size))])), (ra, .inr (5, [.ref aa])), (aa, fA cyI 13 ah), (rl, .inr (5, [.ref al])), (al, fA cyI 676 le), (hc, .inr (0, [.ref cr])), (cr, .inr (5, [.ref ca])), (ca, fA cyI 54 f)] (fun (u9 : (Int → Int)) => (∀ j : Int, u9 j = if k * 52 ≤ j ∧ j < k * 52 + (k + 1) * 4 then wgR f size ah le k (j - k * 52) else le j)) (fun (u9 : (Int → Int)) => none) (fun (u9 : (Int → Int)) => [(h, .inr (3, [.ref hc, .ref ra, .ref rl, .int (iI (size))])), (ra, .inr (5, [.ref aa])), (aa, fA cyI 13 ah), (rl, .inr (5, [.ref al])), (al, fA cyI 676 u9), (hc, .inr (0, [.ref cr])), (cr, .inr (5, [.ref ca])), (ca, fA cyI 54 f)])) ar sx 0 0 (fp_A [(h, .inr (3, [.ref hc, .ref ra, .ref rl, .int (iI (size))])), (ra, .inr (5, [.ref aa])), (aa, fA cyI 13 ah), (rl, .inr (5, [.ref al])), (al, fA cyI 676 le), (hc, .inr (0, [.ref cr])), (cr, .inr (5, [.ref ca])), (ca, fA cyI 54 f)])) (F0 mi 2 ls []) := by
    intro nf
    induction nf with
    | zero =>
      intro st l2 ist jl hfuel
      exact absurd hfuel (by omega)
    | succ nf ih0 =>
      intro st l2 ist jl hfuel H locs hP hD hS ls hl
      refine lv_iload_n hx hb dX3_weigh_2 rfl (lv_at hl 2 rfl) ?_
      refine lv_iload_n hx hb dX3_weigh_3 rfl (lv_at hl 1 rfl) ?_
      refine fp_iconst hx hb dX3_weigh_4 ?_
      refine fp_iadd hx hb dX3_weigh_5 ?_
      refine fp_iconst hx hb dX3_weigh_6 ?_
      refine fp_imul hx hb dX3_weigh_7 ?_
      refine fp_icmp_ge (tgt := 79) hx hb (by omega) dX3_weigh_8 (by decide) (fun q8 => ?_) (fun q8 => ?_)
      · skip
        exact fp_wvret (l2) hx hb hr hlocks hS hP (fun j => by rw [jl j, show st = (k + 1) * 4 by omega]) rfl dX3_weigh_79
      · skip
        refine fp_ldc hx hb (1000000) rfl hown (hts _ ck_X3_weigh_59) dX3_weigh_11 ?_
        refine lv_istore_n (lv' := [(3, .int (iI (1000000))), (0, .ref h), (1, .int (iI (k))), (2, .int (iI (st)))]) hx hb dX3_weigh_13 rfl hl (by decide) rfl (fun ls hl => ?_)
        refine fp_iconst hx hb dX3_weigh_14 ?_
        refine lv_istore (lv' := [(4, .int (iI (0))), (3, .int (iI (1000000))), (0, .ref h), (1, .int (iI (k))), (2, .int (iI (st)))]) hx hb dX3_weigh_15 hl (by decide) rfl (fun ls hl => ?_)
        have hl := lv_sub hl (l' := [(0, .ref h), (1, .int (iI (k))), (2, .int (iI (st))), (3, .int (iI (1000000))), (4, .int (iI (0)))]) [2, 3, 4, 1, 0] rfl
        have lp2 : ∀ (nf : Nat) (x : Int) (b : Int), (0 ≤ b ∧ b ≤ 2) → (x = mnB (ctR f size ah le k st) (mostC f k + 1).toNat b.toNat) → (2 + 1 ≤ b + (nf : Int)) → ∀ (H : Heap) (locs : List Loc), va_P D vwCl [(h, .inr (3, [.ref hc, .ref ra, .ref rl, .int (iI (size))])), (ra, .inr (5, [.ref aa])), (aa, fA cyI 13 ah), (rl, .inr (5, [.ref al])), (al, fA cyI 676 l2), (hc, .inr (0, [.ref cr])), (cr, .inr (5, [.ref ca])), (ca, fA cyI 54 f)] H → va_D (fp_A [(h, .inr (3, [.ref hc, .ref ra, .ref rl, .int (iI (size))])), (ra, .inr (5, [.ref aa])), (aa, fA cyI 13 ah), (rl, .inr (5, [.ref al])), (al, fA cyI 676 le), (hc, .inr (0, [.ref cr])), (cr, .inr (5, [.ref ca])), (ca, fA cyI 54 f)]) [(h, .inr (3, [.ref hc, .ref ra, .ref rl, .int (iI (size))])), (ra, .inr (5, [.ref aa])), (aa, fA cyI 13 ah), (rl, .inr (5, [.ref al])), (al, fA cyI 676 l2), (hc, .inr (0, [.ref cr])), (cr, .inr (5, [.ref ca])), (ca, fA cyI 54 f)] → va_S (fp_A [(h, .inr (3, [.ref hc, .ref ra, .ref rl, .int (iI (size))])), (ra, .inr (5, [.ref aa])), (aa, fA cyI 13 ah), (rl, .inr (5, [.ref al])), (al, fA cyI 676 le), (hc, .inr (0, [.ref cr])), (cr, .inr (5, [.ref ca])), (ca, fA cyI 54 f)]) sx.heap H locs → ∀ (ls : Array Slot), lv_has ls 6 [(0, .ref h), (1, .int (iI (k))), (2, .int (iI (st))), (3, .int (iI (x))), (4, .int (iI (b)))] → W pg l en ({ frames := 4, cells := 0, slots := 0, locals := 101 } : Room) sx mi ar bl mt cd H locs 0 0 (MQ bl (fp_Qw D [(h, .inr (3, [.ref hc, .ref ra, .ref rl, .int (iI (size))])), (ra, .inr (5, [.ref aa])), (aa, fA cyI 13 ah), (rl, .inr (5, [.ref al])), (al, fA cyI 676 le), (hc, .inr (0, [.ref cr])), (cr, .inr (5, [.ref ca])), (ca, fA cyI 54 f)] (fun (u9 : (Int → Int)) => (∀ j : Int, u9 j = if k * 52 ≤ j ∧ j < k * 52 + (k + 1) * 4 then wgR f size ah le k (j - k * 52) else le j)) (fun (u9 : (Int → Int)) => none) (fun (u9 : (Int → Int)) => [(h, .inr (3, [.ref hc, .ref ra, .ref rl, .int (iI (size))])), (ra, .inr (5, [.ref aa])), (aa, fA cyI 13 ah), (rl, .inr (5, [.ref al])), (al, fA cyI 676 u9), (hc, .inr (0, [.ref cr])), (cr, .inr (5, [.ref ca])), (ca, fA cyI 54 f)])) ar sx 0 0 (fp_A [(h, .inr (3, [.ref hc, .ref ra, .ref rl, .int (iI (size))])), (ra, .inr (5, [.ref aa])), (aa, fA cyI 13 ah), (rl, .inr (5, [.ref al])), (al, fA cyI 676 le), (hc, .inr (0, [.ref cr])), (cr, .inr (5, [.ref ca])), (ca, fA cyI 54 f)])) (F0 mi 17 ls []) := by
          intro nf
          induction nf with
          | zero =>
            intro x b ib jx hfuel
            exact absurd hfuel (by omega)
          | succ nf ih2 =>
            intro x b ib jx hfuel H locs hP hD hS ls hl
            have hle2 : ∀ j : Int, (k + 1) * 52 ≤ j → l2 j = le j := fun j a1 => by rw [jl j, if_neg (by omega)]
            have hF : ∀ b9 i9 : Int, 0 ≤ b9 → b9 ≤ 1 → 0 ≤ ctR f size ah le k st b9 i9 ∧ ctR f size ah le k st b9 i9 ≤ 1000000 := fun b9 i9 a1 a2 => ctR_rg hC (by omega) (by omega) hle
            refine lv_iload hx hb dX3_weigh_17 (lv_at hl 4 rfl) ?_
            refine fp_iconst hx hb dX3_weigh_19 ?_
            refine fp_icmp_gt (tgt := 66) hx hb (by omega) dX3_weigh_20 (by decide) (fun q20 => ?_) (fun q20 => ?_)
            · skip
              refine lv_aload_n hx hb dX3_weigh_66 rfl (lv_at hl 0 rfl) ?_
              refine lv_iload_n hx hb dX3_weigh_67 rfl (lv_at hl 1 rfl) ?_
              refine lv_iload_n hx hb dX3_weigh_68 rfl (lv_at hl 2 rfl) ?_
              refine lv_iload_n hx hb dX3_weigh_69 rfl (lv_at hl 3 rfl) ?_
              refine fp_wV (As := [.int (iI (k)), .int (iI (st)), .int (iI (x))]) (rest := []) (wsC := [(h, .inr (3, [.ref hc, .ref ra, .ref rl, .int (iI (size))])), (ra, .inr (5, [.ref aa])), (aa, fA cyI 13 ah), (rl, .inr (5, [.ref al])), (al, fA cyI 676 l2), (hc, .inr (0, [.ref cr])), (cr, .inr (5, [.ref ca])), (ca, fA cyI 54 f)]) ⟨hx, hb, hml, hown, hts⟩ (c_X3_putLeast l D cyI h hc ra rl size al l2 k st x (by omega) (by omega)) (cwV 3 hts gX3_weigh_X3_putLeast rfl rfl rfl (by decide +kernel) ⟨Nat.le_of_ble_eq_true rfl, Nat.le_of_ble_eq_true rfl⟩) (fun _ => rfl) hK hP hD hS [0, 3, 4] (by decide) rfl rfl rfl rfl hl.1 rfl (Nat.le_of_ble_eq_true rfl) dX3_weigh_70 ⟨Nat.zero_le _, Nat.zero_le _⟩ (fun u9v H locs hu hP hD hS => ?_)
              refine W.eq (g2 := F0 mi 73 ls []) rfl ?_
              have hP : va_P D vwCl [(h, .inr (3, [.ref hc, .ref ra, .ref rl, .int (iI (size))])), (ra, .inr (5, [.ref aa])), (aa, fA cyI 13 ah), (rl, .inr (5, [.ref al])), (al, fA cyI 676 (upI l2 (k * 52 + st) x)), (hc, .inr (0, [.ref cr])), (cr, .inr (5, [.ref ca])), (ca, fA cyI 54 f)] H := hP
              have hD : va_D (fp_A [(h, .inr (3, [.ref hc, .ref ra, .ref rl, .int (iI (size))])), (ra, .inr (5, [.ref aa])), (aa, fA cyI 13 ah), (rl, .inr (5, [.ref al])), (al, fA cyI 676 le), (hc, .inr (0, [.ref cr])), (cr, .inr (5, [.ref ca])), (ca, fA cyI 54 f)]) [(h, .inr (3, [.ref hc, .ref ra, .ref rl, .int (iI (size))])), (ra, .inr (5, [.ref aa])), (aa, fA cyI 13 ah), (rl, .inr (5, [.ref al])), (al, fA cyI 676 (upI l2 (k * 52 + st) x)), (hc, .inr (0, [.ref cr])), (cr, .inr (5, [.ref ca])), (ca, fA cyI 54 f)] := hD
              refine fp_iinc (k := 2) (lv' := [(2, .int (iI (st + 1))), (0, .ref h), (1, .int (iI (k))), (3, .int (iI (x))), (4, .int (iI (b)))]) hx hb dX3_weigh_73 hl rfl (by decide) rfl (fun ls hl => ?_)
              refine lv_goto (tgt := 2) hx hb dX3_weigh_76 (by decide) ?_
              have e2 : b = 2 := by omega
              have hjl : ∀ j : Int, upI l2 (k * 52 + st) x j = if k * 52 ≤ j ∧ j < k * 52 + (st + 1) then wgR f size ah le k (j - k * 52) else le j := by
                intro j
                by_cases e : j = k * 52 + st
                · rw [upI_s e, if_pos (by omega), jx, e2, show j - k * 52 = st by omega]
                  rfl
                · rw [upI_n e, jl j]
                  by_cases a1 : k * 52 ≤ j ∧ j < k * 52 + st
                  · rw [if_pos a1, if_pos (by omega)]
                  · rw [if_neg a1, if_neg (by omega)]
              exact ih0 (st + 1) (upI l2 (k * 52 + st) x) (by omega) hjl (by omega) H locs hP hD hS ls (lv_sub hl [1, 2, 0] rfl)
            · skip
              refine fp_iconst hx hb dX3_weigh_23 ?_
              refine lv_istore (lv' := [(5, .int (iI (0))), (0, .ref h), (1, .int (iI (k))), (2, .int (iI (st))), (3, .int (iI (x))), (4, .int (iI (b)))]) hx hb dX3_weigh_24 hl (by decide) rfl (fun ls hl => ?_)
              have hl := lv_sub hl (l' := [(0, .ref h), (1, .int (iI (k))), (2, .int (iI (st))), (3, .int (iI (x))), (4, .int (iI (b))), (5, .int (iI (0)))]) [1, 2, 3, 4, 5, 0] rfl
              have lp4 : ∀ (nf : Nat) (y : Int) (q : Int), (0 ≤ q ∧ q ≤ mostC f k + 1) → (y = mnI (ctR f size ah le k st b) q.toNat (mnB (ctR f size ah le k st) (mostC f k + 1).toNat b.toNat)) → (mostC f k + 1 + 1 ≤ q + (nf : Int)) → ∀ (H : Heap) (locs : List Loc), va_P D vwCl [(h, .inr (3, [.ref hc, .ref ra, .ref rl, .int (iI (size))])), (ra, .inr (5, [.ref aa])), (aa, fA cyI 13 ah), (rl, .inr (5, [.ref al])), (al, fA cyI 676 l2), (hc, .inr (0, [.ref cr])), (cr, .inr (5, [.ref ca])), (ca, fA cyI 54 f)] H → va_D (fp_A [(h, .inr (3, [.ref hc, .ref ra, .ref rl, .int (iI (size))])), (ra, .inr (5, [.ref aa])), (aa, fA cyI 13 ah), (rl, .inr (5, [.ref al])), (al, fA cyI 676 le), (hc, .inr (0, [.ref cr])), (cr, .inr (5, [.ref ca])), (ca, fA cyI 54 f)]) [(h, .inr (3, [.ref hc, .ref ra, .ref rl, .int (iI (size))])), (ra, .inr (5, [.ref aa])), (aa, fA cyI 13 ah), (rl, .inr (5, [.ref al])), (al, fA cyI 676 l2), (hc, .inr (0, [.ref cr])), (cr, .inr (5, [.ref ca])), (ca, fA cyI 54 f)] → va_S (fp_A [(h, .inr (3, [.ref hc, .ref ra, .ref rl, .int (iI (size))])), (ra, .inr (5, [.ref aa])), (aa, fA cyI 13 ah), (rl, .inr (5, [.ref al])), (al, fA cyI 676 le), (hc, .inr (0, [.ref cr])), (cr, .inr (5, [.ref ca])), (ca, fA cyI 54 f)]) sx.heap H locs → ∀ (ls : Array Slot), lv_has ls 6 [(0, .ref h), (1, .int (iI (k))), (2, .int (iI (st))), (3, .int (iI (y))), (4, .int (iI (b))), (5, .int (iI (q)))] → W pg l en ({ frames := 4, cells := 0, slots := 0, locals := 101 } : Room) sx mi ar bl mt cd H locs 0 0 (MQ bl (fp_Qw D [(h, .inr (3, [.ref hc, .ref ra, .ref rl, .int (iI (size))])), (ra, .inr (5, [.ref aa])), (aa, fA cyI 13 ah), (rl, .inr (5, [.ref al])), (al, fA cyI 676 le), (hc, .inr (0, [.ref cr])), (cr, .inr (5, [.ref ca])), (ca, fA cyI 54 f)] (fun (u9 : (Int → Int)) => (∀ j : Int, u9 j = if k * 52 ≤ j ∧ j < k * 52 + (k + 1) * 4 then wgR f size ah le k (j - k * 52) else le j)) (fun (u9 : (Int → Int)) => none) (fun (u9 : (Int → Int)) => [(h, .inr (3, [.ref hc, .ref ra, .ref rl, .int (iI (size))])), (ra, .inr (5, [.ref aa])), (aa, fA cyI 13 ah), (rl, .inr (5, [.ref al])), (al, fA cyI 676 u9), (hc, .inr (0, [.ref cr])), (cr, .inr (5, [.ref ca])), (ca, fA cyI 54 f)])) ar sx 0 0 (fp_A [(h, .inr (3, [.ref hc, .ref ra, .ref rl, .int (iI (size))])), (ra, .inr (5, [.ref aa])), (aa, fA cyI 13 ah), (rl, .inr (5, [.ref al])), (al, fA cyI 676 le), (hc, .inr (0, [.ref cr])), (cr, .inr (5, [.ref ca])), (ca, fA cyI 54 f)])) (F0 mi 26 ls []) := by
                intro nf
                induction nf with
                | zero =>
                  intro y q iq jy hfuel
                  exact absurd hfuel (by omega)
                | succ nf ih4 =>
                  intro y q iq jy hfuel H locs hP hD hS ls hl
                  have hyr : 0 ≤ y ∧ y ≤ 1000000 := by
                    rw [jy]
                    exact mnI_rg (mnB_rg _ (fun b9 i9 a1 a2 a3 a4 => (hF b9 i9 a1 (by omega)).1)) _ (fun i9 a1 a2 => (hF b i9 (by omega) (by omega)).1)
                  refine lv_iload hx hb dX3_weigh_26 (lv_at hl 5 rfl) ?_
                  refine lv_aload_n hx hb dX3_weigh_28 rfl (lv_at hl 0 rfl) ?_
                  refine va_get (D := D) (ci := 3) (ws := [(h, .inr (3, [.ref hc, .ref ra, .ref rl, .int (iI (size))])), (ra, .inr (5, [.ref aa])), (aa, fA cyI 13 ah), (rl, .inr (5, [.ref al])), (al, fA cyI 676 l2), (hc, .inr (0, [.ref cr])), (cr, .inr (5, [.ref ca])), (ca, fA cyI 54 f)]) (v := .ref hc) (C := RX3) (T := TX3) (N := 4) hx hb hts (fun _ h => List.mem_cons_of_mem _ (List.mem_append_left _ (List.mem_append_left _ (List.mem_append_right _ h)))) hown hK.1 hP 0 rfl rfl 0 (by decide) (hts _ fl_X3_weigh_14) (fun _ h9 => h9) rfl dX3_weigh_29 ?_
                  refine lv_iload_n hx hb dX3_weigh_32 rfl (lv_at hl 1 rfl) ?_
                  refine fp_pV (As := [.int (iI (k))]) (rest := [.int (iI (q))]) (wsC := [(h, .inr (3, [.ref hc, .ref ra, .ref rl, .int (iI (size))])), (ra, .inr (5, [.ref aa])), (aa, fA cyI 13 ah), (rl, .inr (5, [.ref al])), (al, fA cyI 676 l2), (hc, .inr (0, [.ref cr])), (cr, .inr (5, [.ref ca])), (ca, fA cyI 54 f)]) ⟨hx, hb, hml, hown, hts⟩ (c_X0_mostPlace l D cyI hc cr ca f k hC (by omega)) (cwV 1 hts gX3_weigh_X0_mostPlace rfl rfl rfl (by decide +kernel) ⟨Nat.le_of_ble_eq_true rfl, Nat.le_of_ble_eq_true rfl⟩) hK hP hD [5, 6, 7] (by decide) rfl rfl rfl rfl hl.1 rfl (Nat.le_of_ble_eq_true rfl) dX3_weigh_33 ⟨Nat.zero_le _, Nat.zero_le _⟩ ?_
                  refine fp_icmp_gt (tgt := 60) hx hb (by omega) dX3_weigh_36 (by decide) (fun q36 => ?_) (fun q36 => ?_)
                  · skip
                    refine fp_iinc (k := 4) (lv' := [(4, .int (iI (b + 1))), (0, .ref h), (1, .int (iI (k))), (2, .int (iI (st))), (3, .int (iI (y))), (5, .int (iI (q)))]) hx hb dX3_weigh_60 hl rfl (by decide) rfl (fun ls hl => ?_)
                    refine lv_goto (tgt := 17) hx hb dX3_weigh_63 (by decide) ?_
                    exact ih2 y (b + 1) (by omega) (by rw [mnB_s _ _ ib.1, jy]; congr 1; omega) (by omega) H locs hP hD hS ls (lv_sub hl [1, 2, 3, 4, 0] rfl)
                  · skip
                    refine lv_iload_n hx hb dX3_weigh_39 rfl (lv_at hl 3 rfl) ?_
                    refine lv_aload_n hx hb dX3_weigh_40 rfl (lv_at hl 0 rfl) ?_
                    refine lv_iload_n hx hb dX3_weigh_41 rfl (lv_at hl 1 rfl) ?_
                    refine lv_iload_n hx hb dX3_weigh_42 rfl (lv_at hl 2 rfl) ?_
                    refine lv_iload hx hb dX3_weigh_43 (lv_at hl 4 rfl) ?_
                    refine lv_iload hx hb dX3_weigh_45 (lv_at hl 5 rfl) ?_
                    refine fp_pV (As := [.int (iI (k)), .int (iI (st)), .int (iI (b)), .int (iI (q))]) (rest := [.int (iI (y))]) (wsC := [(h, .inr (3, [.ref hc, .ref ra, .ref rl, .int (iI (size))])), (ra, .inr (5, [.ref aa])), (aa, fA cyI 13 ah), (rl, .inr (5, [.ref al])), (al, fA cyI 676 l2), (hc, .inr (0, [.ref cr])), (cr, .inr (5, [.ref ca])), (ca, fA cyI 54 f)]) ⟨hx, hb, hml, hown, hts⟩ (c_X3_costThrough l D cyI h hc ra rl size aa ah al l2 cr ca f k st b q hC (by omega) (by omega) (by omega) (by omega) hg ⟨hah k hk.1 (by omega), hah (k + 1) (by omega) (by omega)⟩ (fun j a1 a2 => by rw [hle2 j a1]; exact hle j a1 a2)) (cwV 4 hts gX3_weigh_X3_costThrough rfl rfl rfl (by decide +kernel) ⟨Nat.le_of_ble_eq_true rfl, Nat.le_of_ble_eq_true rfl⟩) hK hP hD [0, 1, 2, 3, 4, 5, 6, 7] (by decide) rfl rfl rfl rfl hl.1 rfl (Nat.le_of_ble_eq_true rfl) dX3_weigh_47 ⟨Nat.zero_le _, Nat.zero_le _⟩ ?_
                    have hcr := hF b q (by omega) (by omega)
                    rw [show (ctR f size ah l2 k st b q : Int) = ctR f size ah le k st b q from (ctR_c (by omega) (by omega) hle2)]
                    refine fp_mmin hx hb (hml.trans hl.1.symm) hown (hts _ ml_X3_weigh_102) (hts _ mm_X3_weigh_s) (hts _ mm_X3_weigh_i) (hts _ mm_X3_weigh_c) (Nat.le_of_ble_eq_true rfl) (Nat.le_of_ble_eq_true rfl) (by omega) dX3_weigh_50 ?_
                    refine lv_istore_n (lv' := [(3, .int (iI (min (y) (ctR f size ah le k st b q)))), (0, .ref h), (1, .int (iI (k))), (2, .int (iI (st))), (4, .int (iI (b))), (5, .int (iI (q)))]) hx hb dX3_weigh_53 rfl hl (by decide) rfl (fun ls hl => ?_)
                    refine fp_iinc (k := 5) (lv' := [(5, .int (iI (q + 1))), (3, .int (iI (min (y) (ctR f size ah le k st b q)))), (0, .ref h), (1, .int (iI (k))), (2, .int (iI (st))), (4, .int (iI (b)))]) hx hb dX3_weigh_54 hl rfl (by decide) rfl (fun ls hl => ?_)
                    refine lv_goto (tgt := 26) hx hb dX3_weigh_57 (by decide) ?_
                    exact ih4 (min (y) (ctR f size ah le k st b q)) (q + 1) (by omega) (by rw [mnI_s _ _ iq.1, ← jy]) (by omega) H locs hP hD hS ls (lv_sub hl [2, 3, 4, 1, 5, 0] rfl)
              exact lp4 (((mostC f k + 1 : Int) + 1 - (0)).toNat) x 0 (by omega) jx (by omega) H locs hP hD hS ls hl
        exact lp2 (((2 : Int) + 1 - (0)).toNat) 1000000 0 (by omega) rfl (by omega) H locs hP hD hS ls hl
  exact lp0 ((((k + 1) * 4 : Int) + 1 - (0)).toNat) 0 le (by omega) (fun j => (if_neg (by omega)).symm) (by omega) sx.heap [] hP hD hS ls hl
