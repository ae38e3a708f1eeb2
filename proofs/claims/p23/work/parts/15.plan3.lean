/-! choices along the path -/
def Agr (g f : Int → Int) : Prop := g 0 = f 0 ∧ (∀ k : Int, 0 ≤ k → k < f 0 → g (k * 4 + 1) = f (k * 4 + 1) ∧ g (k * 4 + 2) = f (k * 4 + 2)) ∧ ∀ j : Int, 0 ≤ j → j < 5 → g (49 + j) = f (49 + j)
theorem Agr_rf (f : Int → Int) : Agr f f := ⟨rfl, fun _ _ _ => ⟨rfl, rfl⟩, fun _ _ _ => rfl⟩
theorem Agr_len {g f : Int → Int} (h : Agr g f) {k : Int} (hk : 0 ≤ k ∧ k < f 0) : lenC g k = lenC f k ∧ mostC g k = mostC f k := by
  have h1 := h.2.1 k hk.1 hk.2
  unfold lenC mostC
  rw [h1.1, h1.2]
  exact ⟨rfl, rfl⟩
theorem Agr_ct {g f : Int → Int} (h : Agr g f) {G k p s b q v : Int} (hk : 0 ≤ k ∧ k < f 0) : ctV g G k p s b q v = ctV f G k p s b q v := by
  have h1 := h.2.1 k hk.1 hk.2
  have h2 := h.2.2 2 (by omega) (by omega)
  have h3 := h.2.2 3 (by omega) (by omega)
  unfold ctV saV
  rw [h1.1, h1.2, h2, h3]
theorem Agr_sb {g f : Int → Int} (h : Agr g f) {G k p nx s b q : Int} (hk : 0 ≤ k ∧ k < f 0) : sbI g G k p nx s b q = sbI f G k p nx s b q := by
  have h1 := h.2.1 k hk.1 hk.2
  unfold sbI
  rw [h1.2]
theorem Agr_ctR {g f : Int → Int} (h : Agr g f) {G : Int} {ah le : Int → Int} {k st b q : Int} (hk : 0 ≤ k ∧ k < f 0) : ctR g G ah le k st b q = ctR f G ah le k st b q := by
  unfold ctR stB
  rw [Agr_ct h hk, Agr_sb h hk]
theorem cho_at (g : Int → Int) (k b q j : Int) : choL g k b q j = if j = k * 4 + 4 then q else if j = k * 4 + 3 then b else g j := rfl
theorem cho_n {g : Int → Int} {k b q j : Int} (h : ¬ (j = k * 4 + 3 ∨ j = k * 4 + 4)) : choL g k b q j = g j := by
  rw [cho_at, if_neg (by omega), if_neg (by omega)]
theorem cho_b {g : Int → Int} {k b q j : Int} (h : j = k * 4 + 3) : choL g k b q j = b := by
  rw [cho_at, if_neg (by omega), if_pos h]
theorem cho_q {g : Int → Int} {k b q j : Int} (h : j = k * 4 + 4) : choL g k b q j = q := by
  rw [cho_at, if_pos h]
theorem Agr_cho {g f : Int → Int} (h : Agr g f) {k b q : Int} (hk : 0 ≤ k ∧ k < f 0) (hN : f 0 ≤ 12) : Agr (choL g k b q) f := by
  refine ⟨?_, fun i h1 h2 => ?_, fun j h1 h2 => ?_⟩
  · rw [cho_n (by omega)]; exact h.1
  · rw [cho_n (by omega), cho_n (by omega)]; exact h.2.1 i h1 h2
  · rw [cho_n (by omega)]; exact h.2.2 j h1 h2
theorem Cat_cho {g : Int → Int} (h : CatOK g) {k b q : Int} (hk : 0 ≤ k ∧ k < g 0) (hb : 0 ≤ b ∧ b ≤ 1) (hq : 0 ≤ q ∧ q ≤ mostC g k) : CatOK (choL g k b q) := by
  have hN := h.1
  refine ⟨?_, fun i h1 h2 => ?_, ?_⟩
  · rw [cho_n (by omega)]; exact h.1
  · rw [cho_n (j := 0) (by omega)] at h2
    have hi := h.2.1 i h1 h2
    rw [cho_n (j := i * 4 + 1) (by omega), cho_n (j := i * 4 + 2) (by omega)]
    by_cases e : i = k
    · subst e
      rw [cho_b rfl, cho_q rfl]
      unfold LotOK at hi ⊢
      unfold mostC at hq
      split at hq <;> omega
    · rw [cho_n (by omega), cho_n (by omega)]
      exact hi
  · rw [cho_n (by omega), cho_n (by omega), cho_n (by omega), cho_n (by omega), cho_n (by omega)]
    exact h.2.2
def ssI (f g : Int → Int) (G : Int) : Nat → Int
  | 0 => 0
  | j + 1 => sbI f G (j : Int) (lnS f (j : Int) + blS g (j : Int)) (lnS f ((j : Int) + 1) + blS g ((j : Int) + 1)) (ssI f g G j) (g ((j : Int) * 4 + 3)) (g ((j : Int) * 4 + 4))
theorem ssI_s (f g : Int → Int) (G : Int) {k : Int} (h : 0 ≤ k) : ssI f g G (k + 1).toNat = sbI f G k (lnS f k + blS g k) (lnS f (k + 1) + blS g (k + 1)) (ssI f g G k.toNat) (g (k * 4 + 3)) (g (k * 4 + 4)) := by
  obtain ⟨n, rfl⟩ := Int.eq_ofNat_of_zero_le h
  rfl
theorem ssI_rg (f g : Int → Int) (G : Int) : ∀ n : Nat, 0 ≤ ssI f g G n ∧ ssI f g G n ≤ 3 := by
  intro n
  induction n with
  | zero => exact ⟨Int.le_refl 0, by show (0 : Int) ≤ 3; omega⟩
  | succ n ih => exact sb_rg ih
theorem blS_c {g g' : Int → Int} {k : Int} (h : ∀ i : Int, 0 ≤ i → i < k → g (i * 4 + 3) = g' (i * 4 + 3)) : blS g k = blS g' k := sumI_c k.toNat (fun i h1 h2 => h i h1 (by omega))
theorem ssI_c {f g g' : Int → Int} {G : Int} : ∀ n : Nat, (∀ i : Int, 0 ≤ i → i < n → g (i * 4 + 3) = g' (i * 4 + 3) ∧ g (i * 4 + 4) = g' (i * 4 + 4)) → ssI f g G n = ssI f g' G n := by
  intro n
  induction n with
  | zero => intro _; rfl
  | succ n ih =>
    intro h
    have h1 := ih (fun i a b => h i a (by omega))
    have h2 := h n (by omega) (by omega)
    have h3 := blS_c (g := g) (g' := g') (k := (n : Int)) (fun i a b => (h i a (by omega)).1)
    have h4 := blS_c (g := g) (g' := g') (k := (n : Int) + 1) (fun i a b => (h i a (by omega)).1)
    show sbI f G n _ _ _ _ _ = sbI f G n _ _ _ _ _
    rw [h1, h2.1, h2.2, h3, h4]
/-- the first cheapest choice, lot by lot -/
def Opt (f g : Int → Int) (G k : Int) : Prop := ∀ j : Int, 0 ≤ j → j < k → ((0 ≤ g (j * 4 + 3) ∧ g (j * 4 + 3) ≤ 1) ∧ 0 ≤ g (j * 4 + 4) ∧ g (j * 4 + 4) ≤ mostC f j) ∧
  ctB f G j (lnS f j + blS g j) (ssI f g G j.toNat) (g (j * 4 + 3)) (g (j * 4 + 4)) = bsI f G (f 0 - j).toNat j (lnS f j + blS g j) (ssI f g G j.toNat) ∧
  ∀ b q : Int, 0 ≤ b → 0 ≤ q → q ≤ mostC f j → (b < g (j * 4 + 3) ∨ (b = g (j * 4 + 3) ∧ q < g (j * 4 + 4))) → ¬ ctB f G j (lnS f j + blS g j) (ssI f g G j.toNat) b q = bsI f G (f 0 - j).toNat j (lnS f j + blS g j) (ssI f g G j.toNat)
theorem Opt_s {f g : Int → Int} {G k b q : Int} (h : Opt f g G k) (hk : 0 ≤ k) (hb : 0 ≤ b ∧ b ≤ 1) (hq : 0 ≤ q ∧ q ≤ mostC f k)
    (h1 : ctB f G k (lnS f k + blS g k) (ssI f g G k.toNat) b q = bsI f G (f 0 - k).toNat k (lnS f k + blS g k) (ssI f g G k.toNat))
    (h2 : ∀ b' q' : Int, 0 ≤ b' → 0 ≤ q' → q' ≤ mostC f k → (b' < b ∨ (b' = b ∧ q' < q)) → ¬ ctB f G k (lnS f k + blS g k) (ssI f g G k.toNat) b' q' = bsI f G (f 0 - k).toNat k (lnS f k + blS g k) (ssI f g G k.toNat)) : Opt f (choL g k b q) G (k + 1) := by
  intro j h3 h4
  have e1 : blS (choL g k b q) j = blS g j := blS_c (fun i a1 a2 => cho_n (by omega))
  have e2 : ssI f (choL g k b q) G j.toNat = ssI f g G j.toNat := ssI_c _ (fun i a1 a2 => ⟨cho_n (by omega), cho_n (by omega)⟩)
  rw [e1, e2]
  by_cases e : j = k
  · subst e
    rw [cho_b rfl, cho_q rfl]
    exact ⟨⟨hb, hq⟩, h1, h2⟩
  · rw [cho_n (by omega), cho_n (by omega)]
    exact h j h3 (by omega)
/-- the choice is the only one -/
theorem Opt_u {f g g' : Int → Int} {G : Int} : ∀ n : Nat, Opt f g G n → Opt f g' G n → ∀ i : Int, 0 ≤ i → i < n → g (i * 4 + 3) = g' (i * 4 + 3) ∧ g (i * 4 + 4) = g' (i * 4 + 4) := by
  intro n
  induction n with
  | zero => intro _ _ i a b; omega
  | succ n ih =>
    intro h h' i a b
    have hi := ih (fun j a1 a2 => h j a1 (by omega)) (fun j a1 a2 => h' j a1 (by omega))
    by_cases e : i = n
    · subst e
      obtain ⟨p1, p2, p3⟩ := h n (by omega) (by omega)
      obtain ⟨r1, r2, r3⟩ := h' n (by omega) (by omega)
      have e1 : blS g (n : Int) = blS g' (n : Int) := blS_c (fun i a1 a2 => (hi i a1 a2).1)
      have e2 : ssI f g G ((n : Int)).toNat = ssI f g' G ((n : Int)).toNat := ssI_c _ (fun i a1 a2 => hi i a1 (by omega))
      rw [e1, e2] at p2 p3
      have key : ¬ (g' ((n : Int) * 4 + 3) < g ((n : Int) * 4 + 3) ∨ (g' ((n : Int) * 4 + 3) = g ((n : Int) * 4 + 3) ∧ g' ((n : Int) * 4 + 4) < g ((n : Int) * 4 + 4))) := fun z => p3 _ _ r1.1.1 r1.2.1 r1.2.2 z r2
      have key2 : ¬ (g ((n : Int) * 4 + 3) < g' ((n : Int) * 4 + 3) ∨ (g ((n : Int) * 4 + 3) = g' ((n : Int) * 4 + 3) ∧ g ((n : Int) * 4 + 4) < g' ((n : Int) * 4 + 4))) := fun z => r3 _ _ p1.1.1 p1.2.1 p1.2.2 z p2
      omega
    · exact hi i a (by omega)
theorem Le_w {c le : Int → Int} {G : Int} {k : Int} (h : LeOK c G le 0) (hk : 0 ≤ k) : LeOK c G le k := fun k' h1 h2 st h3 h4 => h k' (by omega) h2 st h3 h4
/-- what is chosen first, over the current choices, is the path's -/
theorem first_ex {f g : Int → Int} (hC : CatOK f) (hAg : Agr g f) {G : Int} (hG : G = 4 ∨ G = 8 ∨ G = 16) {ah le : Int → Int} {k st : Int} (hk : 0 ≤ k ∧ k < f 0) (hs : 0 ≤ st ∧ st < (k + 1) * 4) (hA : AhOK f ah) (hL : LeOK f G le 0) : ∃ b q : Int, (0 ≤ b ∧ b ≤ 1) ∧ (0 ≤ q ∧ q ≤ mostC g k) ∧ ctR g G ah le k st b q = le (k * 52 + st) := by
  have hM := most_rg hC hk
  have hB := lnS_b hC (k := k) (by omega)
  have e := hL k hk.1 (by omega) st hs.1 hs.2
  have hlt := bs_lt hC (p := lnS f k + st / 4) (s := st % 4) hG (k := k) (by omega) (by omega)
  rw [bsI_s hk.2] at e hlt
  rcases mnB_at (F := ctB f G k (lnS f k + st / 4) (st % 4)) (w := (mostC f k + 1).toNat) 2 with h | ⟨b, q, h1, h2, h3⟩
  · omega
  · refine ⟨b, q, by omega, by rw [(Agr_len hAg hk).2]; omega, ?_⟩
    rw [Agr_ctR hAg hk, ctR_B hC hk hs (by omega) hA (Le_w hL (by omega)), h3, e]
theorem Cat_sz {d : Int → Int} (h : CatOK d) {sz : Int} (hg : sz = 4 ∨ sz = 8 ∨ sz = 16) : CatOK (upI d (49 + 0) sz) := by
  have hN := h.1
  have hX := h.2.2
  refine ⟨by rw [upI_n (by omega)]; exact h.1, fun k h1 h2 => ?_, ?_⟩
  · rw [upI_n (by omega)] at h2
    rw [upI_n (by omega), upI_n (by omega), upI_n (by omega), upI_n (by omega)]
    exact h.2.1 k h1 h2
  · rw [upI_s rfl, upI_n (by omega), upI_n (by omega), upI_n (by omega), upI_n (by omega)]
    unfold SetOK at hX ⊢
    exact ⟨hg, hX.2⟩
theorem fl_X3_chooseFirst_14 : Cond.fieldLink RX3 14 "FacingPlates$Planner" "chosen" "LFacingPlates$Catalogue;" ∈ wsX3_chooseFirst := by decide +kernel
set_option maxHeartbeats 4000000 in
set_option maxRecDepth 100000 in
theorem c_X3_chooseFirst (l : Launch) (D : va_G) (cyI : ClassId) (h : Nat) (hc : Nat) (ra : Nat) (rl : Nat) (size : Int) (aa : Nat) (ah : Int → Int) (al : Nat) (le : Int → Int) (cr : Nat) (ca : Nat) (f : Int → Int) (k : Int) (st : Int) (hC : CatOK f) (hk : 0 ≤ k ∧ k < f 0) (hst : 0 ≤ st ∧ st < (k + 1) * 4) (hg : size = 4 ∨ size = 8 ∨ size = 16) (hah : ∀ j : Int, 0 ≤ j → j ≤ f 0 → 0 ≤ ah j ∧ ah j ≤ 48) (hle : ∀ j : Int, (k + 1) * 52 ≤ j → j < (k + 1) * 52 + (k + 2) * 4 → 0 ≤ le j ∧ le j ≤ 1000000) (hlk : 0 ≤ le (k * 52 + st) ∧ le (k * 52 + st) ≤ 1000000) (hE : ∃ b q : Int, (0 ≤ b ∧ b ≤ 1) ∧ (0 ≤ q ∧ q ≤ mostC f k) ∧ ctR f size ah le k st b q = le (k * 52 + st)) : fp_MW l yX3_chooseFirst wsX3_chooseFirst ({ frames := 4, cells := 0, slots := 0, locals := 101 } : Room) D cyI [(h, .inr (3, [.ref hc, .ref ra, .ref rl, .int (iI (size))])), (ra, .inr (5, [.ref aa])), (aa, fA cyI 13 ah), (rl, .inr (5, [.ref al])), (al, fA cyI 676 le), (hc, .inr (0, [.ref cr])), (cr, .inr (5, [.ref ca])), (ca, fA cyI 54 f)] [.ref h, .int (iI (k)), .int (iI (st))] (fun (u9 : (Int) × (Int)) => (0 ≤ u9.1 ∧ u9.1 ≤ 1) ∧ (0 ≤ u9.2 ∧ u9.2 ≤ mostC f k) ∧ (ctR f size ah le k st u9.1 u9.2 = le (k * 52 + st)) ∧ (∀ b q : Int, 0 ≤ b → 0 ≤ q → q ≤ mostC f k → (b < u9.1 ∨ (b = u9.1 ∧ q < u9.2)) → ¬ ctR f size ah le k st b q = le (k * 52 + st))) (fun (u9 : (Int) × (Int)) => none) (fun (u9 : (Int) × (Int)) => [(h, .inr (3, [.ref hc, .ref ra, .ref rl, .int (iI (size))])), (ra, .inr (5, [.ref aa])), (aa, fA cyI 13 ah), (rl, .inr (5, [.ref al])), (al, fA cyI 676 le), (hc, .inr (0, [.ref cr])), (cr, .inr (5, [.ref ca])), (ca, fA cyI 54 (choL f k u9.1 u9.2))]) := by
  refine fp_start (cc := cX3_chooseFirst) (maxL := 6) (ret := none) (by decide) rfl (Nat.le_of_ble_eq_true rfl) ?_
  intro pg en sx mi ar bl mt cd ls hx hb hr hts hown hlocks hml hnm hP hK hD hl
  have hown : sx.vm.findClass RX3 = some mi.cls := hown
  have hl : lv_has ls 6 [(0, .ref h), (1, .int (iI (k))), (2, .int (iI (st)))] := hl
  have hD := fp_self hD
  have hS : va_S (fp_A [(h, .inr (3, [.ref hc, .ref ra, .ref rl, .int (iI (size))])), (ra, .inr (5, [.ref aa])), (aa, fA cyI 13 ah), (rl, .inr (5, [.ref al])), (al, fA cyI 676 le), (hc, .inr (0, [.ref cr])), (cr, .inr (5, [.ref ca])), (ca, fA cyI 54 f)]) sx.heap sx.heap [] := va_S.rf
  have hN := hC.1
  have hM := most_rg hC hk
  have hF : ∀ b9 i9 : Int, 0 ≤ b9 → b9 ≤ 1 → 0 ≤ ctR f size ah le k st b9 i9 ∧ ctR f size ah le k st b9 i9 ≤ 1000000 := fun b9 i9 a1 a2 => ctR_rg hC (by omega) (by omega) hle
  refine lv_aload_n hx hb dX3_chooseFirst_0 rfl (lv_at hl 0 rfl) ?_
  refine lv_iload_n hx hb dX3_chooseFirst_1 rfl (lv_at hl 1 rfl) ?_
  refine lv_iload_n hx hb dX3_chooseFirst_2 rfl (lv_at hl 2 rfl) ?_
  refine fp_pV (As := [.int (iI (k)), .int (iI (st))]) (rest := []) (wsC := [(h, .inr (3, [.ref hc, .ref ra, .ref rl, .int (iI (size))])), (ra, .inr (5, [.ref aa])), (aa, fA cyI 13 ah), (rl, .inr (5, [.ref al])), (al, fA cyI 676 le), (hc, .inr (0, [.ref cr])), (cr, .inr (5, [.ref ca])), (ca, fA cyI 54 f)]) ⟨hx, hb, hml, hown, hts⟩ (c_X3_leastFrom l D cyI h hc ra rl size al le k st (by omega) (by omega)) (cwV 2 hts gX3_chooseFirst_X3_leastFrom rfl rfl rfl (by decide +kernel) ⟨Nat.le_of_ble_eq_true rfl, Nat.le_of_ble_eq_true rfl⟩) hK hP hD [0, 3, 4] (by decide) rfl rfl rfl rfl hl.1 rfl (Nat.le_of_ble_eq_true rfl) dX3_chooseFirst_3 ⟨Nat.zero_le _, Nat.zero_le _⟩ ?_
  refine lv_istore_n (lv' := [(3, .int (iI (le (k * 52 + st)))), (0, .ref h), (1, .int (iI (k))), (2, .int (iI (st)))]) hx hb dX3_chooseFirst_6 rfl hl (by decide) rfl (fun ls hl => ?_)
  refine fp_iconst hx hb dX3_chooseFirst_7 ?_
  refine lv_istore (lv' := [(4, .int (iI (0))), (3, .int (iI (le (k * 52 + st)))), (0, .ref h), (1, .int (iI (k))), (2, .int (iI (st)))]) hx hb dX3_chooseFirst_8 hl (by decide) rfl (fun ls hl => ?_)
  have hl := lv_sub hl (l' := [(0, .ref h), (1, .int (iI (k))), (2, .int (iI (st))), (3, .int (iI (le (k * 52 + st)))), (4, .int (iI (0)))]) [2, 3, 4, 1, 0] rfl
  have lp0 : ∀ (nf : Nat) (b : Int), (0 ≤ b ∧ b ≤ 2) → (∀ b9 q9 : Int, 0 ≤ b9 → b9 < b → 0 ≤ q9 → q9 ≤ mostC f k → ¬ ctR f size ah le k st b9 q9 = le (k * 52 + st)) → (2 + 1 ≤ b + (nf : Int)) → ∀ (H : Heap) (locs : List Loc), va_P D vwCl [(h, .inr (3, [.ref hc, .ref ra, .ref rl, .int (iI (size))])), (ra, .inr (5, [.ref aa])), (aa, fA cyI 13 ah), (rl, .inr (5, [.ref al])), (al, fA cyI 676 le), (hc, .inr (0, [.ref cr])), (cr, .inr (5, [.ref ca])), (ca, fA cyI 54 f)] H → va_D (fp_A [(h, .inr (3, [.ref hc, .ref ra, .ref rl, .int (iI (size))])), (ra, .inr (5, [.ref aa])), (aa, fA cyI 13 ah), (rl, .inr (5, [.ref al])), (al, fA cyI 676 le), (hc, .inr (0, [.ref cr])), (cr, .inr (5, [.ref ca])), (ca, fA cyI 54 f)]) [(h, .inr (3, [.ref hc, .ref ra, .ref rl, .int (iI (size))])), (ra, .inr (5, [.ref aa])), (aa, fA cyI 13 ah), (rl, .inr (5, [.ref al])), (al, fA cyI 676 le), (hc, .inr (0, [.ref cr])), (cr, .inr (5, [.ref ca])), (ca, fA cyI 54 f)] → va_S (fp_A [(h, .inr (3, [.ref hc, .ref ra, .ref rl, .int (iI (size))])), (ra, .inr (5, [.ref aa])), (aa, fA cyI 13 ah), (rl, .inr (5, [.ref al])), (al, fA cyI 676 le), (hc, .inr (0, [.ref cr])), (cr, .inr (5, [.ref ca])), (ca, fA cyI 54 f)]) sx.heap H locs → ∀ (ls : Array Slot), lv_has ls 6 [(0, .ref h), (1, .int (iI (k))), (2, .int (iI (st))), (3, .int (iI (le (k * 52 + st)))), (4, .int (iI (b)))] → W pg l en ({ frames := 4, cells := 0, slots := 0, locals := 101 } : Room) sx mi ar bl mt cd H locs 0 0 (MQ bl (fp_Qw D [(h, .inr (3, [.ref hc, .ref ra, .ref rl, .int (iI (size))])), (ra, .inr (5, [.ref aa])), (aa, fA cyI 13 ah), (rl, .inr (5, [.ref al])), (al, fA cyI 676 le), (hc, .inr (0, [.ref cr])), (cr, .inr (5, [.ref ca])), (ca, fA cyI 54 f)] (fun (u9 : (Int) × (Int)) => (0 ≤ u9.1 ∧ u9.1 ≤ 1) ∧ (0 ≤ u9.2 ∧ u9.2 ≤ mostC f k) ∧ (ctR f size ah le k st u9.1 u9.2 = le (k * 52 + st)) ∧ (∀ b q : Int, 0 ≤ b → 0 ≤ q → q ≤ mostC f k → (b < u9.1 ∨ (b = u9.1 ∧ q < u9.2)) → ¬ ctR f size ah le k st b q = le (k * 52 + st))) (fun (u9 : (Int) × (Int)) => none) (fun (u9 : (Int) × (Int)) => [(h, .inr (3, [.ref hc, .ref ra, .ref rl, .int (iI (size))])), (ra, .inr (5, [.ref aa])), (aa, fA cyI 13 ah), (rl, .inr (5, [.ref al])), (al, fA cyI 676 le), (hc, .inr (0, [.ref cr])), (cr, .inr (5, [.ref ca])), (ca, fA cyI 54 (choL f k u9.1 u9.2))])) ar sx 0 0 (fp_A [(h, .inr (3, [.ref hc, .ref ra, .ref rl, .int (iI (size))])), (ra, .inr (5, [.ref aa])), (aa, fA cyI 13 ah), (rl, .inr (5, [.ref al])), (al, fA cyI 676 le), (hc, .inr (0, [.ref cr])), (cr, .inr (5, [.ref ca])), (ca, fA cyI 54 f)])) (F0 mi 10 ls []) := by
    intro nf
    induction nf with
    | zero =>
      intro b ib jb hfuel
      exact absurd hfuel (by omega)
    | succ nf ih0 =>
      intro b ib jb hfuel H locs hP hD hS ls hl
      refine lv_iload hx hb dX3_chooseFirst_10 (lv_at hl 4 rfl) ?_
      refine fp_iconst hx hb dX3_chooseFirst_12 ?_
      refine fp_icmp_gt (tgt := 71) hx hb (by omega) dX3_chooseFirst_13 (by decide) (fun q13 => ?_) (fun q13 => ?_)
      · skip
        obtain ⟨b9, q9, h1, h2, h3⟩ := hE; exact absurd h3 (jb b9 q9 h1.1 (by omega) h2.1 h2.2)
      · skip
        refine fp_iconst hx hb dX3_chooseFirst_16 ?_
        refine lv_istore (lv' := [(5, .int (iI (0))), (0, .ref h), (1, .int (iI (k))), (2, .int (iI (st))), (3, .int (iI (le (k * 52 + st)))), (4, .int (iI (b)))]) hx hb dX3_chooseFirst_17 hl (by decide) rfl (fun ls hl => ?_)
        have hl := lv_sub hl (l' := [(0, .ref h), (1, .int (iI (k))), (2, .int (iI (st))), (3, .int (iI (le (k * 52 + st)))), (4, .int (iI (b))), (5, .int (iI (0)))]) [1, 2, 3, 4, 5, 0] rfl
        have lp2 : ∀ (nf : Nat) (q : Int), (0 ≤ q ∧ q ≤ mostC f k + 1) → (∀ q9 : Int, 0 ≤ q9 → q9 < q → ¬ ctR f size ah le k st b q9 = le (k * 52 + st)) → (mostC f k + 1 + 1 ≤ q + (nf : Int)) → ∀ (H : Heap) (locs : List Loc), va_P D vwCl [(h, .inr (3, [.ref hc, .ref ra, .ref rl, .int (iI (size))])), (ra, .inr (5, [.ref aa])), (aa, fA cyI 13 ah), (rl, .inr (5, [.ref al])), (al, fA cyI 676 le), (hc, .inr (0, [.ref cr])), (cr, .inr (5, [.ref ca])), (ca, fA cyI 54 f)] H → va_D (fp_A [(h, .inr (3, [.ref hc, .ref ra, .ref rl, .int (iI (size))])), (ra, .inr (5, [.ref aa])), (aa, fA cyI 13 ah), (rl, .inr (5, [.ref al])), (al, fA cyI 676 le), (hc, .inr (0, [.ref cr])), (cr, .inr (5, [.ref ca])), (ca, fA cyI 54 f)]) [(h, .inr (3, [.ref hc, .ref ra, .ref rl, .int (iI (size))])), (ra, .inr (5, [.ref aa])), (aa, fA cyI 13 ah), (rl, .inr (5, [.ref al])), (al, fA cyI 676 le), (hc, .inr (0, [.ref cr])), (cr, .inr (5, [.ref ca])), (ca, fA cyI 54 f)] → va_S (fp_A [(h, .inr (3, [.ref hc, .ref ra, .ref rl, .int (iI (size))])), (ra, .inr (5, [.ref aa])), (aa, fA cyI 13 ah), (rl, .inr (5, [.ref al])), (al, fA cyI 676 le), (hc, .inr (0, [.ref cr])), (cr, .inr (5, [.ref ca])), (ca, fA cyI 54 f)]) sx.heap H locs → ∀ (ls : Array Slot), lv_has ls 6 [(0, .ref h), (1, .int (iI (k))), (2, .int (iI (st))), (3, .int (iI (le (k * 52 + st)))), (4, .int (iI (b))), (5, .int (iI (q)))] → W pg l en ({ frames := 4, cells := 0, slots := 0, locals := 101 } : Room) sx mi ar bl mt cd H locs 0 0 (MQ bl (fp_Qw D [(h, .inr (3, [.ref hc, .ref ra, .ref rl, .int (iI (size))])), (ra, .inr (5, [.ref aa])), (aa, fA cyI 13 ah), (rl, .inr (5, [.ref al])), (al, fA cyI 676 le), (hc, .inr (0, [.ref cr])), (cr, .inr (5, [.ref ca])), (ca, fA cyI 54 f)] (fun (u9 : (Int) × (Int)) => (0 ≤ u9.1 ∧ u9.1 ≤ 1) ∧ (0 ≤ u9.2 ∧ u9.2 ≤ mostC f k) ∧ (ctR f size ah le k st u9.1 u9.2 = le (k * 52 + st)) ∧ (∀ b q : Int, 0 ≤ b → 0 ≤ q → q ≤ mostC f k → (b < u9.1 ∨ (b = u9.1 ∧ q < u9.2)) → ¬ ctR f size ah le k st b q = le (k * 52 + st))) (fun (u9 : (Int) × (Int)) => none) (fun (u9 : (Int) × (Int)) => [(h, .inr (3, [.ref hc, .ref ra, .ref rl, .int (iI (size))])), (ra, .inr (5, [.ref aa])), (aa, fA cyI 13 ah), (rl, .inr (5, [.ref al])), (al, fA cyI 676 le), (hc, .inr (0, [.ref cr])), (cr, .inr (5, [.ref ca])), (ca, fA cyI 54 (choL f k u9.1 u9.2))])) ar sx 0 0 (fp_A [(h, .inr (3, [.ref hc, .ref ra, .ref rl, .int (iI (size))])), (ra, .inr (5, [.ref aa])), (aa, fA cyI 13 ah), (rl, .inr (5, [.ref al])), (al, fA cyI 676 le), (hc, .inr (0, [.ref cr])), (cr, .inr (5, [.ref ca])), (ca, fA cyI 54 f)])) (F0 mi 19 ls []) := by
          intro nf
          induction nf with
          | zero =>
            intro q iq jq hfuel
            exact absurd hfuel (by omega)
          | succ nf ih2 =>
            intro q iq jq hfuel H locs hP hD hS ls hl
            refine lv_iload hx hb dX3_chooseFirst_19 (lv_at hl 5 rfl) ?_
            refine lv_aload_n hx hb dX3_chooseFirst_21 rfl (lv_at hl 0 rfl) ?_
            refine va_get (D := D) (ci := 3) (ws := [(h, .inr (3, [.ref hc, .ref ra, .ref rl, .int (iI (size))])), (ra, .inr (5, [.ref aa])), (aa, fA cyI 13 ah), (rl, .inr (5, [.ref al])), (al, fA cyI 676 le), (hc, .inr (0, [.ref cr])), (cr, .inr (5, [.ref ca])), (ca, fA cyI 54 f)]) (v := .ref hc) (C := RX3) (T := TX3) (N := 4) hx hb hts (fun _ h => List.mem_cons_of_mem _ (List.mem_append_left _ (List.mem_append_left _ (List.mem_append_right _ h)))) hown hK.1 hP 0 rfl rfl 0 (by decide) (hts _ fl_X3_chooseFirst_14) (fun _ h9 => h9) rfl dX3_chooseFirst_22 ?_
            refine lv_iload_n hx hb dX3_chooseFirst_25 rfl (lv_at hl 1 rfl) ?_
            refine fp_pV (As := [.int (iI (k))]) (rest := [.int (iI (q))]) (wsC := [(h, .inr (3, [.ref hc, .ref ra, .ref rl, .int (iI (size))])), (ra, .inr (5, [.ref aa])), (aa, fA cyI 13 ah), (rl, .inr (5, [.ref al])), (al, fA cyI 676 le), (hc, .inr (0, [.ref cr])), (cr, .inr (5, [.ref ca])), (ca, fA cyI 54 f)]) ⟨hx, hb, hml, hown, hts⟩ (c_X0_mostPlace l D cyI hc cr ca f k hC (by omega)) (cwV 1 hts gX3_chooseFirst_X0_mostPlace rfl rfl rfl (by decide +kernel) ⟨Nat.le_of_ble_eq_true rfl, Nat.le_of_ble_eq_true rfl⟩) hK hP hD [5, 6, 7] (by decide) rfl rfl rfl rfl hl.1 rfl (Nat.le_of_ble_eq_true rfl) dX3_chooseFirst_26 ⟨Nat.zero_le _, Nat.zero_le _⟩ ?_
            refine fp_icmp_gt (tgt := 65) hx hb (by omega) dX3_chooseFirst_29 (by decide) (fun q29 => ?_) (fun q29 => ?_)
            · skip
              refine fp_iinc (k := 4) (lv' := [(4, .int (iI (b + 1))), (0, .ref h), (1, .int (iI (k))), (2, .int (iI (st))), (3, .int (iI (le (k * 52 + st)))), (5, .int (iI (q)))]) hx hb dX3_chooseFirst_65 hl rfl (by decide) rfl (fun ls hl => ?_)
              refine lv_goto (tgt := 10) hx hb dX3_chooseFirst_68 (by decide) ?_
              exact ih0 (b + 1) (by omega) (fun b9 q9 a1 a2 a3 a4 => by
            by_cases e : b9 = b
            · rw [e]; exact jq q9 a3 (by omega)
            · exact jb b9 q9 a1 (by omega) a3 a4) (by omega) H locs hP hD hS ls (lv_sub hl [1, 2, 3, 4, 0] rfl)
            · skip
              refine lv_aload_n hx hb dX3_chooseFirst_32 rfl (lv_at hl 0 rfl) ?_
              refine lv_iload_n hx hb dX3_chooseFirst_33 rfl (lv_at hl 1 rfl) ?_
              refine lv_iload_n hx hb dX3_chooseFirst_34 rfl (lv_at hl 2 rfl) ?_
              refine lv_iload hx hb dX3_chooseFirst_35 (lv_at hl 4 rfl) ?_
              refine lv_iload hx hb dX3_chooseFirst_37 (lv_at hl 5 rfl) ?_
              refine fp_pV (As := [.int (iI (k)), .int (iI (st)), .int (iI (b)), .int (iI (q))]) (rest := []) (wsC := [(h, .inr (3, [.ref hc, .ref ra, .ref rl, .int (iI (size))])), (ra, .inr (5, [.ref aa])), (aa, fA cyI 13 ah), (rl, .inr (5, [.ref al])), (al, fA cyI 676 le), (hc, .inr (0, [.ref cr])), (cr, .inr (5, [.ref ca])), (ca, fA cyI 54 f)]) ⟨hx, hb, hml, hown, hts⟩ (c_X3_costThrough l D cyI h hc ra rl size aa ah al le cr ca f k st b q hC (by omega) (by omega) (by omega) (by omega) hg ⟨hah k hk.1 (by omega), hah (k + 1) (by omega) (by omega)⟩ hle) (cwV 4 hts gX3_chooseFirst_X3_costThrough rfl rfl rfl (by decide +kernel) ⟨Nat.le_of_ble_eq_true rfl, Nat.le_of_ble_eq_true rfl⟩) hK hP hD [0, 1, 2, 3, 4, 5, 6, 7] (by decide) rfl rfl rfl rfl hl.1 rfl (Nat.le_of_ble_eq_true rfl) dX3_chooseFirst_39 ⟨Nat.zero_le _, Nat.zero_le _⟩ ?_
              have hcr := hF b q (by omega) (by omega)
              refine lv_iload_n hx hb dX3_chooseFirst_42 rfl (lv_at hl 3 rfl) ?_
              refine fp_icmp_ne (tgt := 59) hx hb (by omega) dX3_chooseFirst_43 (by decide) (fun q43 => ?_) (fun q43 => ?_)
              · skip
                refine fp_iinc (k := 5) (lv' := [(5, .int (iI (q + 1))), (0, .ref h), (1, .int (iI (k))), (2, .int (iI (st))), (3, .int (iI (le (k * 52 + st)))), (4, .int (iI (b)))]) hx hb dX3_chooseFirst_59 hl rfl (by decide) rfl (fun ls hl => ?_)
                refine lv_goto (tgt := 19) hx hb dX3_chooseFirst_62 (by decide) ?_
                exact ih2 (q + 1) (by omega) (fun q9 a1 a2 => by
                by_cases e : q9 = q
                · rw [e]; exact q43
                · exact jq q9 a1 (by omega)) (by omega) H locs hP hD hS ls (lv_sub hl [1, 2, 3, 4, 5, 0] rfl)
              · skip
                refine lv_aload_n hx hb dX3_chooseFirst_46 rfl (lv_at hl 0 rfl) ?_
                refine va_get (D := D) (ci := 3) (ws := [(h, .inr (3, [.ref hc, .ref ra, .ref rl, .int (iI (size))])), (ra, .inr (5, [.ref aa])), (aa, fA cyI 13 ah), (rl, .inr (5, [.ref al])), (al, fA cyI 676 le), (hc, .inr (0, [.ref cr])), (cr, .inr (5, [.ref ca])), (ca, fA cyI 54 f)]) (v := .ref hc) (C := RX3) (T := TX3) (N := 4) hx hb hts (fun _ h => List.mem_cons_of_mem _ (List.mem_append_left _ (List.mem_append_left _ (List.mem_append_right _ h)))) hown hK.1 hP 0 rfl rfl 0 (by decide) (hts _ fl_X3_chooseFirst_14) (fun _ h9 => h9) rfl dX3_chooseFirst_47 ?_
                refine lv_iload_n hx hb dX3_chooseFirst_50 rfl (lv_at hl 1 rfl) ?_
                refine lv_iload hx hb dX3_chooseFirst_51 (lv_at hl 4 rfl) ?_
                refine lv_iload hx hb dX3_chooseFirst_53 (lv_at hl 5 rfl) ?_
                refine fp_wV (As := [.int (iI (k)), .int (iI (b)), .int (iI (q))]) (rest := []) (wsC := [(h, .inr (3, [.ref hc, .ref ra, .ref rl, .int (iI (size))])), (ra, .inr (5, [.ref aa])), (aa, fA cyI 13 ah), (rl, .inr (5, [.ref al])), (al, fA cyI 676 le), (hc, .inr (0, [.ref cr])), (cr, .inr (5, [.ref ca])), (ca, fA cyI 54 f)]) ⟨hx, hb, hml, hown, hts⟩ (c_X0_putChoice l D cyI hc cr ca f k b q (by omega)) (cwV 3 hts gX3_chooseFirst_X0_putChoice rfl rfl rfl (by decide +kernel) ⟨Nat.le_of_ble_eq_true rfl, Nat.le_of_ble_eq_true rfl⟩) (fun _ => rfl) hK hP hD hS [5, 6, 7] (by decide) rfl rfl rfl rfl hl.1 rfl (Nat.le_of_ble_eq_true rfl) dX3_chooseFirst_55 ⟨Nat.zero_le _, Nat.zero_le _⟩ (fun u9v H locs hu hP hD hS => ?_)
                refine W.eq (g2 := F0 mi 58 ls []) rfl ?_
                have hP : va_P D vwCl [(h, .inr (3, [.ref hc, .ref ra, .ref rl, .int (iI (size))])), (ra, .inr (5, [.ref aa])), (aa, fA cyI 13 ah), (rl, .inr (5, [.ref al])), (al, fA cyI 676 le), (hc, .inr (0, [.ref cr])), (cr, .inr (5, [.ref ca])), (ca, fA cyI 54 (choL f k b q))] H := hP
                have hD : va_D (fp_A [(h, .inr (3, [.ref hc, .ref ra, .ref rl, .int (iI (size))])), (ra, .inr (5, [.ref aa])), (aa, fA cyI 13 ah), (rl, .inr (5, [.ref al])), (al, fA cyI 676 le), (hc, .inr (0, [.ref cr])), (cr, .inr (5, [.ref ca])), (ca, fA cyI 54 f)]) [(h, .inr (3, [.ref hc, .ref ra, .ref rl, .int (iI (size))])), (ra, .inr (5, [.ref aa])), (aa, fA cyI 13 ah), (rl, .inr (5, [.ref al])), (al, fA cyI 676 le), (hc, .inr (0, [.ref cr])), (cr, .inr (5, [.ref ca])), (ca, fA cyI 54 (choL f k b q))] := hD
                exact fp_wvret (b, q) hx hb hr hlocks hS hP ⟨(by omega), (by omega), q43, fun b9 q9 a1 a2 a3 a4 => by
                rcases a4 with a4 | a4
                · exact jb b9 q9 a1 a4 a2 a3
                · rw [a4.1]; exact jq q9 a2 a4.2⟩ rfl dX3_chooseFirst_58
        exact lp2 (((mostC f k + 1 : Int) + 1 - (0)).toNat) 0 (by omega) (fun q9 a1 a2 => by omega) (by omega) H locs hP hD hS ls hl
  exact lp0 (((2 : Int) + 1 - (0)).toNat) 0 (by omega) (fun b9 q9 a1 a2 => by omega) (by omega) sx.heap [] hP hD hS ls hl
theorem fl_X3_solve_30 : Cond.fieldLink RX3 30 "FacingPlates$Planner" "size" "I" ∈ wsX3_solve := by decide +kernel
theorem fl_X3_solve_14 : Cond.fieldLink RX3 14 "FacingPlates$Planner" "chosen" "LFacingPlates$Catalogue;" ∈ wsX3_solve := by decide +kernel
theorem ck_X3_solve_59 : Cond.constant RX3 59 (1000000) ∈ wsX3_solve := by decide +kernel
set_option maxHeartbeats 4000000 in
set_option maxRecDepth 100000 in
theorem c_X3_solve (l : Launch) (D : va_G) (cyI : ClassId) (h : Nat) (hc : Nat) (ra : Nat) (rl : Nat) (size0 : Int) (aa : Nat) (ah : Int → Int) (al : Nat) (le : Int → Int) (cr : Nat) (ca : Nat) (f : Int → Int) (h2 : Nat) (r2 : Nat) (a2 : Nat) (d : Int → Int) (sz : Int) (hC : CatOK d) (hg : sz = 4 ∨ sz = 8 ∨ sz = 16) : fp_MW l yX3_solve wsX3_solve ({ frames := 5, cells := 0, slots := 0, locals := 126 } : Room) D cyI [(h, .inr (3, [.ref hc, .ref ra, .ref rl, .int (iI (size0))])), (ra, .inr (5, [.ref aa])), (aa, fA cyI 13 ah), (rl, .inr (5, [.ref al])), (al, fA cyI 676 le), (hc, .inr (0, [.ref cr])), (cr, .inr (5, [.ref ca])), (ca, fA cyI 54 f), (h2, .inr (0, [.ref r2])), (r2, .inr (5, [.ref a2])), (a2, fA cyI 54 d)] [.ref h, .ref h2, .int (iI (sz))] (fun (u9 : (Int → Int) × (Int → Int) × (Int → Int)) => (Agr u9.2.2 (upI d (49 + 0) sz)) ∧ (CatOK u9.2.2) ∧ (Opt (upI d (49 + 0) sz) u9.2.2 sz (d 0))) (fun (u9 : (Int → Int) × (Int → Int) × (Int → Int)) => some (.int (iI (1)))) (fun (u9 : (Int → Int) × (Int → Int) × (Int → Int)) => [(h, .inr (3, [.ref hc, .ref ra, .ref rl, .int (iI (sz))])), (ra, .inr (5, [.ref aa])), (aa, fA cyI 13 u9.1), (rl, .inr (5, [.ref al])), (al, fA cyI 676 u9.2.1), (hc, .inr (0, [.ref cr])), (cr, .inr (5, [.ref ca])), (ca, fA cyI 54 u9.2.2), (h2, .inr (0, [.ref r2])), (r2, .inr (5, [.ref a2])), (a2, fA cyI 54 d)]) := by
  refine fp_start (cc := cX3_solve) (maxL := 5) (ret := (some .boolean)) (by decide) rfl (Nat.le_of_ble_eq_true rfl) ?_
  intro pg en sx mi ar bl mt cd ls hx hb hr hts hown hlocks hml hnm hP hK hD hl
  have hown : sx.vm.findClass RX3 = some mi.cls := hown
  have hl : lv_has ls 5 [(0, .ref h), (1, .ref h2), (2, .int (iI (sz)))] := hl
  have hD := fp_self hD
  have hS : va_S (fp_A [(h, .inr (3, [.ref hc, .ref ra, .ref rl, .int (iI (size0))])), (ra, .inr (5, [.ref aa])), (aa, fA cyI 13 ah), (rl, .inr (5, [.ref al])), (al, fA cyI 676 le), (hc, .inr (0, [.ref cr])), (cr, .inr (5, [.ref ca])), (ca, fA cyI 54 f), (h2, .inr (0, [.ref r2])), (r2, .inr (5, [.ref a2])), (a2, fA cyI 54 d)]) sx.heap sx.heap [] := va_S.rf
  have hF : CatOK (upI d (49 + 0) sz) := Cat_sz hC hg
  have hN := hC.1
  have hF0 : upI d (49 + 0) sz 0 = d 0 := upI_n (by omega)
  have hNF := hF.1
  refine lv_aload_n hx hb dX3_solve_0 rfl (lv_at hl 0 rfl) ?_
  refine lv_iload_n hx hb dX3_solve_1 rfl (lv_at hl 2 rfl) ?_
  refine va_put (D := D) (ci := 3) (ws := [(h, .inr (3, [.ref hc, .ref ra, .ref rl, .int (iI (size0))])), (ra, .inr (5, [.ref aa])), (aa, fA cyI 13 ah), (rl, .inr (5, [.ref al])), (al, fA cyI 676 le), (hc, .inr (0, [.ref cr])), (cr, .inr (5, [.ref ca])), (ca, fA cyI 54 f), (h2, .inr (0, [.ref r2])), (r2, .inr (5, [.ref a2])), (a2, fA cyI 54 d)]) (v := .int (iI (sz))) (ty := .int) (C := RX3) (T := TX3) (N := 4) hx hb hts (fun _ h => List.mem_cons_of_mem _ (List.mem_append_left _ (List.mem_append_left _ (List.mem_append_right _ h)))) tyX3 tyX3_ok nmX3 hown hK.1 hP hD hS 0 rfl rfl 3 (by decide) (hts _ fl_X3_solve_30) (fun _ h9 => h9) rfl (by decide +kernel) rfl rfl (Nat.le_of_ble_eq_true rfl) dX3_solve_2 (fun H locs hP hD hS => ?_)
  have hP : va_P D vwCl [(h, .inr (3, [.ref hc, .ref ra, .ref rl, .int (iI (sz))])), (ra, .inr (5, [.ref aa])), (aa, fA cyI 13 ah), (rl, .inr (5, [.ref al])), (al, fA cyI 676 le), (hc, .inr (0, [.ref cr])), (cr, .inr (5, [.ref ca])), (ca, fA cyI 54 f), (h2, .inr (0, [.ref r2])), (r2, .inr (5, [.ref a2])), (a2, fA cyI 54 d)] H := hP
  have hD : va_D (fp_A [(h, .inr (3, [.ref hc, .ref ra, .ref rl, .int (iI (size0))])), (ra, .inr (5, [.ref aa])), (aa, fA cyI 13 ah), (rl, .inr (5, [.ref al])), (al, fA cyI 676 le), (hc, .inr (0, [.ref cr])), (cr, .inr (5, [.ref ca])), (ca, fA cyI 54 f), (h2, .inr (0, [.ref r2])), (r2, .inr (5, [.ref a2])), (a2, fA cyI 54 d)]) [(h, .inr (3, [.ref hc, .ref ra, .ref rl, .int (iI (sz))])), (ra, .inr (5, [.ref aa])), (aa, fA cyI 13 ah), (rl, .inr (5, [.ref al])), (al, fA cyI 676 le), (hc, .inr (0, [.ref cr])), (cr, .inr (5, [.ref ca])), (ca, fA cyI 54 f), (h2, .inr (0, [.ref r2])), (r2, .inr (5, [.ref a2])), (a2, fA cyI 54 d)] := hD
  refine lv_aload_n hx hb dX3_solve_5 rfl (lv_at hl 0 rfl) ?_
  refine va_get (D := D) (ci := 3) (ws := [(h, .inr (3, [.ref hc, .ref ra, .ref rl, .int (iI (sz))])), (ra, .inr (5, [.ref aa])), (aa, fA cyI 13 ah), (rl, .inr (5, [.ref al])), (al, fA cyI 676 le), (hc, .inr (0, [.ref cr])), (cr, .inr (5, [.ref ca])), (ca, fA cyI 54 f), (h2, .inr (0, [.ref r2])), (r2, .inr (5, [.ref a2])), (a2, fA cyI 54 d)]) (v := .ref hc) (C := RX3) (T := TX3) (N := 4) hx hb hts (fun _ h => List.mem_cons_of_mem _ (List.mem_append_left _ (List.mem_append_left _ (List.mem_append_right _ h)))) hown hK.1 hP 0 rfl rfl 0 (by decide) (hts _ fl_X3_solve_14) (fun _ h9 => h9) rfl dX3_solve_6 ?_
  refine lv_aload_n hx hb dX3_solve_9 rfl (lv_at hl 1 rfl) ?_
  refine fp_wV (As := [.ref h2]) (rest := []) (wsC := [(h, .inr (3, [.ref hc, .ref ra, .ref rl, .int (iI (sz))])), (ra, .inr (5, [.ref aa])), (aa, fA cyI 13 ah), (rl, .inr (5, [.ref al])), (al, fA cyI 676 le), (hc, .inr (0, [.ref cr])), (cr, .inr (5, [.ref ca])), (ca, fA cyI 54 f), (h2, .inr (0, [.ref r2])), (r2, .inr (5, [.ref a2])), (a2, fA cyI 54 d)]) ⟨hx, hb, hml, hown, hts⟩ (c_X0_copy l D cyI hc cr ca f h2 r2 a2 d) (cwV 1 hts gX3_solve_X0_copy rfl rfl rfl (by decide +kernel) ⟨Nat.le_of_ble_eq_true rfl, Nat.le_of_ble_eq_true rfl⟩) (fun _ => rfl) hK hP hD hS [5, 6, 7, 8, 9, 10] (by decide) rfl rfl rfl rfl hl.1 rfl (Nat.le_of_ble_eq_true rfl) dX3_solve_10 ⟨Nat.zero_le _, Nat.zero_le _⟩ (fun u9v H locs hu hP hD hS => ?_)
  refine W.eq (g2 := F0 mi 13 ls []) rfl ?_
  have hP : va_P D vwCl [(h, .inr (3, [.ref hc, .ref ra, .ref rl, .int (iI (sz))])), (ra, .inr (5, [.ref aa])), (aa, fA cyI 13 ah), (rl, .inr (5, [.ref al])), (al, fA cyI 676 le), (hc, .inr (0, [.ref cr])), (cr, .inr (5, [.ref ca])), (ca, fA cyI 54 d), (h2, .inr (0, [.ref r2])), (r2, .inr (5, [.ref a2])), (a2, fA cyI 54 d)] H := hP
  have hD : va_D (fp_A [(h, .inr (3, [.ref hc, .ref ra, .ref rl, .int (iI (size0))])), (ra, .inr (5, [.ref aa])), (aa, fA cyI 13 ah), (rl, .inr (5, [.ref al])), (al, fA cyI 676 le), (hc, .inr (0, [.ref cr])), (cr, .inr (5, [.ref ca])), (ca, fA cyI 54 f), (h2, .inr (0, [.ref r2])), (r2, .inr (5, [.ref a2])), (a2, fA cyI 54 d)]) [(h, .inr (3, [.ref hc, .ref ra, .ref rl, .int (iI (sz))])), (ra, .inr (5, [.ref aa])), (aa, fA cyI 13 ah), (rl, .inr (5, [.ref al])), (al, fA cyI 676 le), (hc, .inr (0, [.ref cr])), (cr, .inr (5, [.ref ca])), (ca, fA cyI 54 d), (h2, .inr (0, [.ref r2])), (r2, .inr (5, [.ref a2])), (a2, fA cyI 54 d)] := hD
  refine lv_aload_n hx hb dX3_solve_13 rfl (lv_at hl 0 rfl) ?_
  refine va_get (D := D) (ci := 3) (ws := [(h, .inr (3, [.ref hc, .ref ra, .ref rl, .int (iI (sz))])), (ra, .inr (5, [.ref aa])), (aa, fA cyI 13 ah), (rl, .inr (5, [.ref al])), (al, fA cyI 676 le), (hc, .inr (0, [.ref cr])), (cr, .inr (5, [.ref ca])), (ca, fA cyI 54 d), (h2, .inr (0, [.ref r2])), (r2, .inr (5, [.ref a2])), (a2, fA cyI 54 d)]) (v := .ref hc) (C := RX3) (T := TX3) (N := 4) hx hb hts (fun _ h => List.mem_cons_of_mem _ (List.mem_append_left _ (List.mem_append_left _ (List.mem_append_right _ h)))) hown hK.1 hP 0 rfl rfl 0 (by decide) (hts _ fl_X3_solve_14) (fun _ h9 => h9) rfl dX3_solve_14 ?_
  refine fp_iconst hx hb dX3_solve_17 ?_
  refine lv_aload_n hx hb dX3_solve_18 rfl (lv_at hl 0 rfl) ?_
  refine va_get (D := D) (ci := 3) (ws := [(h, .inr (3, [.ref hc, .ref ra, .ref rl, .int (iI (sz))])), (ra, .inr (5, [.ref aa])), (aa, fA cyI 13 ah), (rl, .inr (5, [.ref al])), (al, fA cyI 676 le), (hc, .inr (0, [.ref cr])), (cr, .inr (5, [.ref ca])), (ca, fA cyI 54 d), (h2, .inr (0, [.ref r2])), (r2, .inr (5, [.ref a2])), (a2, fA cyI 54 d)]) (v := .int (iI (sz))) (C := RX3) (T := TX3) (N := 4) hx hb hts (fun _ h => List.mem_cons_of_mem _ (List.mem_append_left _ (List.mem_append_left _ (List.mem_append_right _ h)))) hown hK.1 hP 0 rfl rfl 3 (by decide) (hts _ fl_X3_solve_30) (fun _ h9 => h9) rfl dX3_solve_19 ?_
  refine fp_wV (As := [.int (iI (0)), .int (iI (sz))]) (rest := []) (wsC := [(h, .inr (3, [.ref hc, .ref ra, .ref rl, .int (iI (sz))])), (ra, .inr (5, [.ref aa])), (aa, fA cyI 13 ah), (rl, .inr (5, [.ref al])), (al, fA cyI 676 le), (hc, .inr (0, [.ref cr])), (cr, .inr (5, [.ref ca])), (ca, fA cyI 54 d), (h2, .inr (0, [.ref r2])), (r2, .inr (5, [.ref a2])), (a2, fA cyI 54 d)]) ⟨hx, hb, hml, hown, hts⟩ (c_X0_putSetting l D cyI hc cr ca d 0 sz (by omega)) (cwV 2 hts gX3_solve_X0_putSetting rfl rfl rfl (by decide +kernel) ⟨Nat.le_of_ble_eq_true rfl, Nat.le_of_ble_eq_true rfl⟩) (fun _ => rfl) hK hP hD hS [5, 6, 7] (by decide) rfl rfl rfl rfl hl.1 rfl (Nat.le_of_ble_eq_true rfl) dX3_solve_22 ⟨Nat.zero_le _, Nat.zero_le _⟩ (fun u9v H locs hu hP hD hS => ?_)
  refine W.eq (g2 := F0 mi 25 ls []) rfl ?_
  have hP : va_P D vwCl [(h, .inr (3, [.ref hc, .ref ra, .ref rl, .int (iI (sz))])), (ra, .inr (5, [.ref aa])), (aa, fA cyI 13 ah), (rl, .inr (5, [.ref al])), (al, fA cyI 676 le), (hc, .inr (0, [.ref cr])), (cr, .inr (5, [.ref ca])), (ca, fA cyI 54 (upI d (49 + 0) sz)), (h2, .inr (0, [.ref r2])), (r2, .inr (5, [.ref a2])), (a2, fA cyI 54 d)] H := hP
  have hD : va_D (fp_A [(h, .inr (3, [.ref hc, .ref ra, .ref rl, .int (iI (size0))])), (ra, .inr (5, [.ref aa])), (aa, fA cyI 13 ah), (rl, .inr (5, [.ref al])), (al, fA cyI 676 le), (hc, .inr (0, [.ref cr])), (cr, .inr (5, [.ref ca])), (ca, fA cyI 54 f), (h2, .inr (0, [.ref r2])), (r2, .inr (5, [.ref a2])), (a2, fA cyI 54 d)]) [(h, .inr (3, [.ref hc, .ref ra, .ref rl, .int (iI (sz))])), (ra, .inr (5, [.ref aa])), (aa, fA cyI 13 ah), (rl, .inr (5, [.ref al])), (al, fA cyI 676 le), (hc, .inr (0, [.ref cr])), (cr, .inr (5, [.ref ca])), (ca, fA cyI 54 (upI d (49 + 0) sz)), (h2, .inr (0, [.ref r2])), (r2, .inr (5, [.ref a2])), (a2, fA cyI 54 d)] := hD
  refine lv_aload_n hx hb dX3_solve_25 rfl (lv_at hl 0 rfl) ?_
  refine fp_wV (As := []) (rest := []) (wsC := [(h, .inr (3, [.ref hc, .ref ra, .ref rl, .int (iI (sz))])), (ra, .inr (5, [.ref aa])), (aa, fA cyI 13 ah), (rl, .inr (5, [.ref al])), (al, fA cyI 676 le), (hc, .inr (0, [.ref cr])), (cr, .inr (5, [.ref ca])), (ca, fA cyI 54 (upI d (49 + 0) sz)), (h2, .inr (0, [.ref r2])), (r2, .inr (5, [.ref a2])), (a2, fA cyI 54 d)]) ⟨hx, hb, hml, hown, hts⟩ (c_X3_countPagesAhead l D cyI h hc ra rl sz aa ah cr ca (upI d (49 + 0) sz) hF) (cwV 0 hts gX3_solve_X3_countPagesAhead rfl rfl rfl (by decide +kernel) ⟨Nat.le_of_ble_eq_true rfl, Nat.le_of_ble_eq_true rfl⟩) (fun _ => rfl) hK hP hD hS [0, 1, 2, 5, 6, 7] (by decide) rfl rfl rfl rfl hl.1 rfl (Nat.le_of_ble_eq_true rfl) dX3_solve_26 ⟨Nat.zero_le _, Nat.zero_le _⟩ (fun u9v H locs hu hP hD hS => ?_)
  obtain ⟨a7, rfl⟩ : ∃ z, z = u9v := ⟨u9v, rfl⟩
  have pAh_26 := hu
  refine W.eq (g2 := F0 mi 29 ls []) rfl ?_
  have hP : va_P D vwCl [(h, .inr (3, [.ref hc, .ref ra, .ref rl, .int (iI (sz))])), (ra, .inr (5, [.ref aa])), (aa, fA cyI 13 a7), (rl, .inr (5, [.ref al])), (al, fA cyI 676 le), (hc, .inr (0, [.ref cr])), (cr, .inr (5, [.ref ca])), (ca, fA cyI 54 ((upI d (49 + 0) sz))), (h2, .inr (0, [.ref r2])), (r2, .inr (5, [.ref a2])), (a2, fA cyI 54 d)] H := hP
  have hD : va_D (fp_A [(h, .inr (3, [.ref hc, .ref ra, .ref rl, .int (iI (size0))])), (ra, .inr (5, [.ref aa])), (aa, fA cyI 13 ah), (rl, .inr (5, [.ref al])), (al, fA cyI 676 le), (hc, .inr (0, [.ref cr])), (cr, .inr (5, [.ref ca])), (ca, fA cyI 54 f), (h2, .inr (0, [.ref r2])), (r2, .inr (5, [.ref a2])), (a2, fA cyI 54 d)]) [(h, .inr (3, [.ref hc, .ref ra, .ref rl, .int (iI (sz))])), (ra, .inr (5, [.ref aa])), (aa, fA cyI 13 a7), (rl, .inr (5, [.ref al])), (al, fA cyI 676 le), (hc, .inr (0, [.ref cr])), (cr, .inr (5, [.ref ca])), (ca, fA cyI 54 ((upI d (49 + 0) sz))), (h2, .inr (0, [.ref r2])), (r2, .inr (5, [.ref a2])), (a2, fA cyI 54 d)] := hD
  refine lv_aload_n hx hb dX3_solve_29 rfl (lv_at hl 0 rfl) ?_
  refine fp_wV (As := []) (rest := []) (wsC := [(h, .inr (3, [.ref hc, .ref ra, .ref rl, .int (iI (sz))])), (ra, .inr (5, [.ref aa])), (aa, fA cyI 13 a7), (rl, .inr (5, [.ref al])), (al, fA cyI 676 le), (hc, .inr (0, [.ref cr])), (cr, .inr (5, [.ref ca])), (ca, fA cyI 54 ((upI d (49 + 0) sz))), (h2, .inr (0, [.ref r2])), (r2, .inr (5, [.ref a2])), (a2, fA cyI 54 d)]) ⟨hx, hb, hml, hown, hts⟩ (c_X3_weighEnds l D cyI h hc ra rl sz aa a7 al le cr ca ((upI d (49 + 0) sz)) hF hg pAh_26) (cwV 0 hts gX3_solve_X3_weighEnds rfl rfl rfl (by decide +kernel) ⟨Nat.le_of_ble_eq_true rfl, Nat.le_of_ble_eq_true rfl⟩) (fun _ => rfl) hK hP hD hS [0, 1, 2, 3, 4, 5, 6, 7] (by decide) rfl rfl rfl rfl hl.1 rfl (Nat.le_of_ble_eq_true rfl) dX3_solve_30 ⟨Nat.zero_le _, Nat.zero_le _⟩ (fun u9v H locs hu hP hD hS => ?_)
  obtain ⟨le2_2, rfl⟩ : ∃ z, z = u9v := ⟨u9v, rfl⟩
  have pLe_30 := hu
  refine W.eq (g2 := F0 mi 33 ls []) rfl ?_
  have hP : va_P D vwCl [(h, .inr (3, [.ref hc, .ref ra, .ref rl, .int (iI (sz))])), (ra, .inr (5, [.ref aa])), (aa, fA cyI 13 a7), (rl, .inr (5, [.ref al])), (al, fA cyI 676 le2_2), (hc, .inr (0, [.ref cr])), (cr, .inr (5, [.ref ca])), (ca, fA cyI 54 (((upI d (49 + 0) sz)))), (h2, .inr (0, [.ref r2])), (r2, .inr (5, [.ref a2])), (a2, fA cyI 54 d)] H := hP
  have hD : va_D (fp_A [(h, .inr (3, [.ref hc, .ref ra, .ref rl, .int (iI (size0))])), (ra, .inr (5, [.ref aa])), (aa, fA cyI 13 ah), (rl, .inr (5, [.ref al])), (al, fA cyI 676 le), (hc, .inr (0, [.ref cr])), (cr, .inr (5, [.ref ca])), (ca, fA cyI 54 f), (h2, .inr (0, [.ref r2])), (r2, .inr (5, [.ref a2])), (a2, fA cyI 54 d)]) [(h, .inr (3, [.ref hc, .ref ra, .ref rl, .int (iI (sz))])), (ra, .inr (5, [.ref aa])), (aa, fA cyI 13 a7), (rl, .inr (5, [.ref al])), (al, fA cyI 676 le2_2), (hc, .inr (0, [.ref cr])), (cr, .inr (5, [.ref ca])), (ca, fA cyI 54 (((upI d (49 + 0) sz)))), (h2, .inr (0, [.ref r2])), (r2, .inr (5, [.ref a2])), (a2, fA cyI 54 d)] := hD
  refine lv_aload_n hx hb dX3_solve_33 rfl (lv_at hl 0 rfl) ?_
  refine va_get (D := D) (ci := 3) (ws := [(h, .inr (3, [.ref hc, .ref ra, .ref rl, .int (iI (sz))])), (ra, .inr (5, [.ref aa])), (aa, fA cyI 13 a7), (rl, .inr (5, [.ref al])), (al, fA cyI 676 le2_2), (hc, .inr (0, [.ref cr])), (cr, .inr (5, [.ref ca])), (ca, fA cyI 54 (((upI d (49 + 0) sz)))), (h2, .inr (0, [.ref r2])), (r2, .inr (5, [.ref a2])), (a2, fA cyI 54 d)]) (v := .ref hc) (C := RX3) (T := TX3) (N := 4) hx hb hts (fun _ h => List.mem_cons_of_mem _ (List.mem_append_left _ (List.mem_append_left _ (List.mem_append_right _ h)))) hown hK.1 hP 0 rfl rfl 0 (by decide) (hts _ fl_X3_solve_14) (fun _ h9 => h9) rfl dX3_solve_34 ?_
  refine fp_pV (As := []) (rest := []) (wsC := [(h, .inr (3, [.ref hc, .ref ra, .ref rl, .int (iI (sz))])), (ra, .inr (5, [.ref aa])), (aa, fA cyI 13 a7), (rl, .inr (5, [.ref al])), (al, fA cyI 676 le2_2), (hc, .inr (0, [.ref cr])), (cr, .inr (5, [.ref ca])), (ca, fA cyI 54 (((upI d (49 + 0) sz)))), (h2, .inr (0, [.ref r2])), (r2, .inr (5, [.ref a2])), (a2, fA cyI 54 d)]) ⟨hx, hb, hml, hown, hts⟩ (c_X0_lots l D cyI hc cr ca (((upI d (49 + 0) sz)))) (cwV 0 hts gX3_solve_X0_lots rfl rfl rfl (by decide +kernel) ⟨Nat.le_of_ble_eq_true rfl, Nat.le_of_ble_eq_true rfl⟩) hK hP hD [5, 6, 7] (by decide) rfl rfl rfl rfl hl.1 rfl (Nat.le_of_ble_eq_true rfl) dX3_solve_37 ⟨Nat.zero_le _, Nat.zero_le _⟩ ?_
  refine fp_iconst hx hb dX3_solve_40 ?_
  refine fp_isub hx hb dX3_solve_41 ?_
  refine lv_istore_n (lv' := [(3, .int (iI (((((upI d (49 + 0) sz))) 0) - 1))), (0, .ref h), (1, .ref h2), (2, .int (iI (sz)))]) hx hb dX3_solve_42 rfl hl (by decide) rfl (fun ls hl => ?_)
  have hl := lv_sub hl (l' := [(0, .ref h), (1, .ref h2), (2, .int (iI (sz))), (3, .int (iI (((((upI d (49 + 0) sz))) 0) - 1)))]) [1, 2, 3, 0] rfl
  have lp2 : ∀ (nf : Nat) (w : Int) (l2 : Int → Int), (-1 ≤ w ∧ w < d 0) → (LeOK (upI d (49 + 0) sz) sz l2 (w + 1)) → (w + 2 ≤ (nf : Int)) → ∀ (H : Heap) (locs : List Loc), va_P D vwCl [(h, .inr (3, [.ref hc, .ref ra, .ref rl, .int (iI (sz))])), (ra, .inr (5, [.ref aa])), (aa, fA cyI 13 a7), (rl, .inr (5, [.ref al])), (al, fA cyI 676 l2), (hc, .inr (0, [.ref cr])), (cr, .inr (5, [.ref ca])), (ca, fA cyI 54 (((upI d (49 + 0) sz)))), (h2, .inr (0, [.ref r2])), (r2, .inr (5, [.ref a2])), (a2, fA cyI 54 d)] H → va_D (fp_A [(h, .inr (3, [.ref hc, .ref ra, .ref rl, .int (iI (size0))])), (ra, .inr (5, [.ref aa])), (aa, fA cyI 13 ah), (rl, .inr (5, [.ref al])), (al, fA cyI 676 le), (hc, .inr (0, [.ref cr])), (cr, .inr (5, [.ref ca])), (ca, fA cyI 54 f), (h2, .inr (0, [.ref r2])), (r2, .inr (5, [.ref a2])), (a2, fA cyI 54 d)]) [(h, .inr (3, [.ref hc, .ref ra, .ref rl, .int (iI (sz))])), (ra, .inr (5, [.ref aa])), (aa, fA cyI 13 a7), (rl, .inr (5, [.ref al])), (al, fA cyI 676 l2), (hc, .inr (0, [.ref cr])), (cr, .inr (5, [.ref ca])), (ca, fA cyI 54 (((upI d (49 + 0) sz)))), (h2, .inr (0, [.ref r2])), (r2, .inr (5, [.ref a2])), (a2, fA cyI 54 d)] → va_S (fp_A [(h, .inr (3, [.ref hc, .ref ra, .ref rl, .int (iI (size0))])), (ra, .inr (5, [.ref aa])), (aa, fA cyI 13 ah), (rl, .inr (5, [.ref al])), (al, fA cyI 676 le), (hc, .inr (0, [.ref cr])), (cr, .inr (5, [.ref ca])), (ca, fA cyI 54 f), (h2, .inr (0, [.ref r2])), (r2, .inr (5, [.ref a2])), (a2, fA cyI 54 d)]) sx.heap H locs → ∀ (ls : Array Slot), lv_has ls 5 [(0, .ref h), (1, .ref h2), (2, .int (iI (sz))), (3, .int (iI (w)))] → W pg l en ({ frames := 5, cells := 0, slots := 0, locals := 126 } : Room) sx mi ar bl mt cd H locs 0 0 (MQ bl (fp_Qw D [(h, .inr (3, [.ref hc, .ref ra, .ref rl, .int (iI (size0))])), (ra, .inr (5, [.ref aa])), (aa, fA cyI 13 ah), (rl, .inr (5, [.ref al])), (al, fA cyI 676 le), (hc, .inr (0, [.ref cr])), (cr, .inr (5, [.ref ca])), (ca, fA cyI 54 f), (h2, .inr (0, [.ref r2])), (r2, .inr (5, [.ref a2])), (a2, fA cyI 54 d)] (fun (u9 : (Int → Int) × (Int → Int) × (Int → Int)) => (Agr u9.2.2 (upI d (49 + 0) sz)) ∧ (CatOK u9.2.2) ∧ (Opt (upI d (49 + 0) sz) u9.2.2 sz (d 0))) (fun (u9 : (Int → Int) × (Int → Int) × (Int → Int)) => some (.int (iI (1)))) (fun (u9 : (Int → Int) × (Int → Int) × (Int → Int)) => [(h, .inr (3, [.ref hc, .ref ra, .ref rl, .int (iI (sz))])), (ra, .inr (5, [.ref aa])), (aa, fA cyI 13 u9.1), (rl, .inr (5, [.ref al])), (al, fA cyI 676 u9.2.1), (hc, .inr (0, [.ref cr])), (cr, .inr (5, [.ref ca])), (ca, fA cyI 54 u9.2.2), (h2, .inr (0, [.ref r2])), (r2, .inr (5, [.ref a2])), (a2, fA cyI 54 d)])) ar sx 0 0 (fp_A [(h, .inr (3, [.ref hc, .ref ra, .ref rl, .int (iI (size0))])), (ra, .inr (5, [.ref aa])), (aa, fA cyI 13 ah), (rl, .inr (5, [.ref al])), (al, fA cyI 676 le), (hc, .inr (0, [.ref cr])), (cr, .inr (5, [.ref ca])), (ca, fA cyI 54 f), (h2, .inr (0, [.ref r2])), (r2, .inr (5, [.ref a2])), (a2, fA cyI 54 d)])) (F0 mi 43 ls []) := by
    intro nf
    induction nf with
    | zero =>
      intro w l2 ik jL hfuel
      exact absurd hfuel (by omega)
    | succ nf ih2 =>
      intro w l2 ik jL hfuel H locs hP hD hS ls hl
      refine lv_iload_n hx hb dX3_solve_43 rfl (lv_at hl 3 rfl) ?_
      refine fp_if_lt (tgt := 58) hx hb (by omega) dX3_solve_44 (by decide) (fun q44 => ?_) (fun q44 => ?_)
      · skip
        have ek : w = -1 := by omega
        have hLz : LeOK (upI d (49 + 0) sz) sz l2 0 := by rw [ek] at jL; exact jL
        have hv := Le_rg hF hg (k := 0) (by omega) hLz (j := 0 * 52 + 0) (by omega) (by omega)
        refine lv_aload_n hx hb dX3_solve_58 rfl (lv_at hl 0 rfl) ?_
        refine fp_iconst hx hb dX3_solve_59 ?_
        refine fp_iconst hx hb dX3_solve_60 ?_
        refine fp_pV (As := [.int (iI (0)), .int (iI (0))]) (rest := []) (wsC := [(h, .inr (3, [.ref hc, .ref ra, .ref rl, .int (iI (sz))])), (ra, .inr (5, [.ref aa])), (aa, fA cyI 13 a7), (rl, .inr (5, [.ref al])), (al, fA cyI 676 l2), (hc, .inr (0, [.ref cr])), (cr, .inr (5, [.ref ca])), (ca, fA cyI 54 (((upI d (49 + 0) sz)))), (h2, .inr (0, [.ref r2])), (r2, .inr (5, [.ref a2])), (a2, fA cyI 54 d)]) ⟨hx, hb, hml, hown, hts⟩ (c_X3_leastFrom l D cyI h hc ra rl sz al l2 0 0 (by omega) (by omega)) (cwV 2 hts gX3_solve_X3_leastFrom rfl rfl rfl (by decide +kernel) ⟨Nat.le_of_ble_eq_true rfl, Nat.le_of_ble_eq_true rfl⟩) hK hP hD [0, 3, 4] (by decide) rfl rfl rfl rfl hl.1 rfl (Nat.le_of_ble_eq_true rfl) dX3_solve_61 ⟨Nat.zero_le _, Nat.zero_le _⟩ ?_
        refine fp_ldc hx hb (1000000) rfl hown (hts _ ck_X3_solve_59) dX3_solve_64 ?_
        refine fp_icmp_lt (tgt := 71) hx hb (by omega) dX3_solve_66 (by decide) (fun q66 => ?_) (fun q66 => ?_)
        · skip
          have hah : ∀ j : Int, 0 ≤ j → j ≤ (upI d (49 + 0) sz) 0 → 0 ≤ a7 j ∧ a7 j ≤ 48 := fun j a1 a2 => by rw [pAh_26 j a1 a2]; have := lnS_b hF (k := j) ⟨a1, a2⟩; omega
          refine fp_iconst hx hb dX3_solve_71 ?_
          refine lv_istore_n (lv' := [(3, .int (iI (0))), (0, .ref h), (1, .ref h2), (2, .int (iI (sz)))]) hx hb dX3_solve_72 rfl hl (by decide) rfl (fun ls hl => ?_)
          refine fp_iconst hx hb dX3_solve_73 ?_
          refine lv_istore (lv' := [(4, .int (iI (0))), (3, .int (iI (0))), (0, .ref h), (1, .ref h2), (2, .int (iI (sz)))]) hx hb dX3_solve_74 hl (by decide) rfl (fun ls hl => ?_)
          have hl := lv_sub hl (l' := [(0, .ref h), (1, .ref h2), (2, .int (iI (sz))), (3, .int (iI (0))), (4, .int (iI (0)))]) [2, 3, 4, 1, 0] rfl
          have lp5 : ∀ (nf : Nat) (st : Int) (k : Int) (g : Int → Int), (0 ≤ k ∧ k ≤ d 0) → (Agr g (upI d (49 + 0) sz)) → (CatOK g) → (Opt (upI d (49 + 0) sz) g sz k) → (st = blS g k * 4 + ssI (upI d (49 + 0) sz) g sz k.toNat) → (d 0 + 1 ≤ k + (nf : Int)) → ∀ (H : Heap) (locs : List Loc), va_P D vwCl [(h, .inr (3, [.ref hc, .ref ra, .ref rl, .int (iI (sz))])), (ra, .inr (5, [.ref aa])), (aa, fA cyI 13 a7), (rl, .inr (5, [.ref al])), (al, fA cyI 676 l2), (hc, .inr (0, [.ref cr])), (cr, .inr (5, [.ref ca])), (ca, fA cyI 54 g), (h2, .inr (0, [.ref r2])), (r2, .inr (5, [.ref a2])), (a2, fA cyI 54 d)] H → va_D (fp_A [(h, .inr (3, [.ref hc, .ref ra, .ref rl, .int (iI (size0))])), (ra, .inr (5, [.ref aa])), (aa, fA cyI 13 ah), (rl, .inr (5, [.ref al])), (al, fA cyI 676 le), (hc, .inr (0, [.ref cr])), (cr, .inr (5, [.ref ca])), (ca, fA cyI 54 f), (h2, .inr (0, [.ref r2])), (r2, .inr (5, [.ref a2])), (a2, fA cyI 54 d)]) [(h, .inr (3, [.ref hc, .ref ra, .ref rl, .int (iI (sz))])), (ra, .inr (5, [.ref aa])), (aa, fA cyI 13 a7), (rl, .inr (5, [.ref al])), (al, fA cyI 676 l2), (hc, .inr (0, [.ref cr])), (cr, .inr (5, [.ref ca])), (ca, fA cyI 54 g), (h2, .inr (0, [.ref r2])), (r2, .inr (5, [.ref a2])), (a2, fA cyI 54 d)] → va_S (fp_A [(h, .inr (3, [.ref hc, .ref ra, .ref rl, .int (iI (size0))])), (ra, .inr (5, [.ref aa])), (aa, fA cyI 13 ah), (rl, .inr (5, [.ref al])), (al, fA cyI 676 le), (hc, .inr (0, [.ref cr])), (cr, .inr (5, [.ref ca])), (ca, fA cyI 54 f), (h2, .inr (0, [.ref r2])), (r2, .inr (5, [.ref a2])), (a2, fA cyI 54 d)]) sx.heap H locs → ∀ (ls : Array Slot), lv_has ls 5 [(0, .ref h), (1, .ref h2), (2, .int (iI (sz))), (3, .int (iI (st))), (4, .int (iI (k)))] → W pg l en ({ frames := 5, cells := 0, slots := 0, locals := 126 } : Room) sx mi ar bl mt cd H locs 0 0 (MQ bl (fp_Qw D [(h, .inr (3, [.ref hc, .ref ra, .ref rl, .int (iI (size0))])), (ra, .inr (5, [.ref aa])), (aa, fA cyI 13 ah), (rl, .inr (5, [.ref al])), (al, fA cyI 676 le), (hc, .inr (0, [.ref cr])), (cr, .inr (5, [.ref ca])), (ca, fA cyI 54 f), (h2, .inr (0, [.ref r2])), (r2, .inr (5, [.ref a2])), (a2, fA cyI 54 d)] (fun (u9 : (Int → Int) × (Int → Int) × (Int → Int)) => (Agr u9.2.2 (upI d (49 + 0) sz)) ∧ (CatOK u9.2.2) ∧ (Opt (upI d (49 + 0) sz) u9.2.2 sz (d 0))) (fun (u9 : (Int → Int) × (Int → Int) × (Int → Int)) => some (.int (iI (1)))) (fun (u9 : (Int → Int) × (Int → Int) × (Int → Int)) => [(h, .inr (3, [.ref hc, .ref ra, .ref rl, .int (iI (sz))])), (ra, .inr (5, [.ref aa])), (aa, fA cyI 13 u9.1), (rl, .inr (5, [.ref al])), (al, fA cyI 676 u9.2.1), (hc, .inr (0, [.ref cr])), (cr, .inr (5, [.ref ca])), (ca, fA cyI 54 u9.2.2), (h2, .inr (0, [.ref r2])), (r2, .inr (5, [.ref a2])), (a2, fA cyI 54 d)])) ar sx 0 0 (fp_A [(h, .inr (3, [.ref hc, .ref ra, .ref rl, .int (iI (size0))])), (ra, .inr (5, [.ref aa])), (aa, fA cyI 13 ah), (rl, .inr (5, [.ref al])), (al, fA cyI 676 le), (hc, .inr (0, [.ref cr])), (cr, .inr (5, [.ref ca])), (ca, fA cyI 54 f), (h2, .inr (0, [.ref r2])), (r2, .inr (5, [.ref a2])), (a2, fA cyI 54 d)])) (F0 mi 76 ls []) := by
            intro nf
            induction nf with
            | zero =>
              intro st k g ik2 jA jC jO js hfuel
              exact absurd hfuel (by omega)
            | succ nf ih5 =>
              intro st k g ik2 jA jC jO js hfuel H locs hP hD hS ls hl
              have hbl := blS_b (c := g) ik2.1 (fun i a1 a2 => (jO i a1 a2).1.1)
              have hss := ssI_rg (upI d (49 + 0) sz) g sz k.toNat
              have hg0 := jA.1
              refine lv_iload hx hb dX3_solve_76 (lv_at hl 4 rfl) ?_
              refine lv_aload_n hx hb dX3_solve_78 rfl (lv_at hl 0 rfl) ?_
              refine va_get (D := D) (ci := 3) (ws := [(h, .inr (3, [.ref hc, .ref ra, .ref rl, .int (iI (sz))])), (ra, .inr (5, [.ref aa])), (aa, fA cyI 13 a7), (rl, .inr (5, [.ref al])), (al, fA cyI 676 l2), (hc, .inr (0, [.ref cr])), (cr, .inr (5, [.ref ca])), (ca, fA cyI 54 g), (h2, .inr (0, [.ref r2])), (r2, .inr (5, [.ref a2])), (a2, fA cyI 54 d)]) (v := .ref hc) (C := RX3) (T := TX3) (N := 4) hx hb hts (fun _ h => List.mem_cons_of_mem _ (List.mem_append_left _ (List.mem_append_left _ (List.mem_append_right _ h)))) hown hK.1 hP 0 rfl rfl 0 (by decide) (hts _ fl_X3_solve_14) (fun _ h9 => h9) rfl dX3_solve_79 ?_
              refine fp_pV (As := []) (rest := [.int (iI (k))]) (wsC := [(h, .inr (3, [.ref hc, .ref ra, .ref rl, .int (iI (sz))])), (ra, .inr (5, [.ref aa])), (aa, fA cyI 13 a7), (rl, .inr (5, [.ref al])), (al, fA cyI 676 l2), (hc, .inr (0, [.ref cr])), (cr, .inr (5, [.ref ca])), (ca, fA cyI 54 g), (h2, .inr (0, [.ref r2])), (r2, .inr (5, [.ref a2])), (a2, fA cyI 54 d)]) ⟨hx, hb, hml, hown, hts⟩ (c_X0_lots l D cyI hc cr ca g) (cwV 0 hts gX3_solve_X0_lots rfl rfl rfl (by decide +kernel) ⟨Nat.le_of_ble_eq_true rfl, Nat.le_of_ble_eq_true rfl⟩) hK hP hD [5, 6, 7] (by decide) rfl rfl rfl rfl hl.1 rfl (Nat.le_of_ble_eq_true rfl) dX3_solve_82 ⟨Nat.zero_le _, Nat.zero_le _⟩ ?_
              refine fp_icmp_ge (tgt := 127) hx hb (by omega) dX3_solve_85 (by decide) (fun q85 => ?_) (fun q85 => ?_)
              · skip
                refine fp_iconst hx hb dX3_solve_127 ?_
                have hret : (1 : Int) = 1 := rfl
                exact fp_wzret (a7, l2, g) hx hb hr hlocks (by first | exact Or.inl rfl | exact Or.inr rfl | exact bI_01 _ | omega) hS (by dsimp only; exact hP) ⟨jA, jC, by rw [show d 0 = k by omega]; exact jO⟩ (congrArg (fun z : Int => some (Value.int (iI z))) hret) dX3_solve_128
              · skip
                refine lv_aload_n hx hb dX3_solve_88 rfl (lv_at hl 0 rfl) ?_
                refine lv_iload hx hb dX3_solve_89 (lv_at hl 4 rfl) ?_
                refine lv_iload_n hx hb dX3_solve_91 rfl (lv_at hl 3 rfl) ?_
                refine fp_wV (As := [.int (iI (k)), .int (iI (st))]) (rest := []) (wsC := [(h, .inr (3, [.ref hc, .ref ra, .ref rl, .int (iI (sz))])), (ra, .inr (5, [.ref aa])), (aa, fA cyI 13 a7), (rl, .inr (5, [.ref al])), (al, fA cyI 676 l2), (hc, .inr (0, [.ref cr])), (cr, .inr (5, [.ref ca])), (ca, fA cyI 54 g), (h2, .inr (0, [.ref r2])), (r2, .inr (5, [.ref a2])), (a2, fA cyI 54 d)]) ⟨hx, hb, hml, hown, hts⟩ (c_X3_chooseFirst l D cyI h hc ra rl sz aa a7 al l2 cr ca g k st jC (by omega) (by omega) hg (fun j a1 a2 => hah j a1 (by omega)) (fun j a1 a2 => by have := Le_rg hF hg (k := k + 1) (by omega) (Le_w hLz (by omega)) (j := j) (by omega) (by omega); omega) (by have := Le_rg hF hg (k := k) (by omega) (Le_w hLz (by omega)) (j := k * 52 + st) (by omega) (by omega); omega) (first_ex hF jA hg (by omega) (by omega) pAh_26 hLz)) (cwV 2 hts gX3_solve_X3_chooseFirst rfl rfl rfl (by decide +kernel) ⟨Nat.le_of_ble_eq_true rfl, Nat.le_of_ble_eq_true rfl⟩) (fun _ => rfl) hK hP hD hS [0, 1, 2, 3, 4, 5, 6, 7] (by decide) rfl rfl rfl rfl hl.1 rfl (Nat.le_of_ble_eq_true rfl) dX3_solve_92 ⟨Nat.zero_le _, Nat.zero_le _⟩ (fun u9v H locs hu hP hD hS => ?_)
                obtain ⟨b7, q7⟩ := u9v
                dsimp only at hu
                obtain ⟨pB_92, pQ_92, pE_92, pF_92⟩ := hu
                refine W.eq (g2 := F0 mi 95 ls []) rfl ?_
                have hP : va_P D vwCl [(h, .inr (3, [.ref hc, .ref ra, .ref rl, .int (iI (sz))])), (ra, .inr (5, [.ref aa])), (aa, fA cyI 13 a7), (rl, .inr (5, [.ref al])), (al, fA cyI 676 l2), (hc, .inr (0, [.ref cr])), (cr, .inr (5, [.ref ca])), (ca, fA cyI 54 (choL g k b7 q7)), (h2, .inr (0, [.ref r2])), (r2, .inr (5, [.ref a2])), (a2, fA cyI 54 d)] H := hP
                have hD : va_D (fp_A [(h, .inr (3, [.ref hc, .ref ra, .ref rl, .int (iI (size0))])), (ra, .inr (5, [.ref aa])), (aa, fA cyI 13 ah), (rl, .inr (5, [.ref al])), (al, fA cyI 676 le), (hc, .inr (0, [.ref cr])), (cr, .inr (5, [.ref ca])), (ca, fA cyI 54 f), (h2, .inr (0, [.ref r2])), (r2, .inr (5, [.ref a2])), (a2, fA cyI 54 d)]) [(h, .inr (3, [.ref hc, .ref ra, .ref rl, .int (iI (sz))])), (ra, .inr (5, [.ref aa])), (aa, fA cyI 13 a7), (rl, .inr (5, [.ref al])), (al, fA cyI 676 l2), (hc, .inr (0, [.ref cr])), (cr, .inr (5, [.ref ca])), (ca, fA cyI 54 (choL g k b7 q7)), (h2, .inr (0, [.ref r2])), (r2, .inr (5, [.ref a2])), (a2, fA cyI 54 d)] := hD
                have hk : 0 ≤ k ∧ k < (upI d (49 + 0) sz) 0 := by omega
                have hst : 0 ≤ st ∧ st < (k + 1) * 4 := by omega
                have e4 : st / 4 = blS g k := by omega
                have e5 : st % 4 = ssI (upI d (49 + 0) sz) g sz k.toNat := by omega
                refine lv_aload_n hx hb dX3_solve_95 rfl (lv_at hl 0 rfl) ?_
                refine lv_iload hx hb dX3_solve_96 (lv_at hl 4 rfl) ?_
                refine lv_iload_n hx hb dX3_solve_98 rfl (lv_at hl 3 rfl) ?_
                refine lv_aload_n hx hb dX3_solve_99 rfl (lv_at hl 0 rfl) ?_
                refine va_get (D := D) (ci := 3) (ws := [(h, .inr (3, [.ref hc, .ref ra, .ref rl, .int (iI (sz))])), (ra, .inr (5, [.ref aa])), (aa, fA cyI 13 a7), (rl, .inr (5, [.ref al])), (al, fA cyI 676 l2), (hc, .inr (0, [.ref cr])), (cr, .inr (5, [.ref ca])), (ca, fA cyI 54 (choL g k b7 q7)), (h2, .inr (0, [.ref r2])), (r2, .inr (5, [.ref a2])), (a2, fA cyI 54 d)]) (v := .ref hc) (C := RX3) (T := TX3) (N := 4) hx hb hts (fun _ h => List.mem_cons_of_mem _ (List.mem_append_left _ (List.mem_append_left _ (List.mem_append_right _ h)))) hown hK.1 hP 0 rfl rfl 0 (by decide) (hts _ fl_X3_solve_14) (fun _ h9 => h9) rfl dX3_solve_100 ?_
                refine lv_iload hx hb dX3_solve_103 (lv_at hl 4 rfl) ?_
                refine fp_pV (As := [.int (iI (k))]) (rest := [.int (iI (st)), .int (iI (k)), .ref h]) (wsC := [(h, .inr (3, [.ref hc, .ref ra, .ref rl, .int (iI (sz))])), (ra, .inr (5, [.ref aa])), (aa, fA cyI 13 a7), (rl, .inr (5, [.ref al])), (al, fA cyI 676 l2), (hc, .inr (0, [.ref cr])), (cr, .inr (5, [.ref ca])), (ca, fA cyI 54 (choL g k b7 q7)), (h2, .inr (0, [.ref r2])), (r2, .inr (5, [.ref a2])), (a2, fA cyI 54 d)]) ⟨hx, hb, hml, hown, hts⟩ (c_X0_blank l D cyI hc cr ca (choL g k b7 q7) k (by omega)) (cwV 1 hts gX3_solve_X0_blank rfl rfl rfl (by decide +kernel) ⟨Nat.le_of_ble_eq_true rfl, Nat.le_of_ble_eq_true rfl⟩) hK hP hD [5, 6, 7] (by decide) rfl rfl rfl rfl hl.1 rfl (Nat.le_of_ble_eq_true rfl) dX3_solve_105 ⟨Nat.zero_le _, Nat.zero_le _⟩ ?_
                refine lv_aload_n hx hb dX3_solve_108 rfl (lv_at hl 0 rfl) ?_
                refine va_get (D := D) (ci := 3) (ws := [(h, .inr (3, [.ref hc, .ref ra, .ref rl, .int (iI (sz))])), (ra, .inr (5, [.ref aa])), (aa, fA cyI 13 a7), (rl, .inr (5, [.ref al])), (al, fA cyI 676 l2), (hc, .inr (0, [.ref cr])), (cr, .inr (5, [.ref ca])), (ca, fA cyI 54 (choL g k b7 q7)), (h2, .inr (0, [.ref r2])), (r2, .inr (5, [.ref a2])), (a2, fA cyI 54 d)]) (v := .ref hc) (C := RX3) (T := TX3) (N := 4) hx hb hts (fun _ h => List.mem_cons_of_mem _ (List.mem_append_left _ (List.mem_append_left _ (List.mem_append_right _ h)))) hown hK.1 hP 0 rfl rfl 0 (by decide) (hts _ fl_X3_solve_14) (fun _ h9 => h9) rfl dX3_solve_109 ?_
                refine lv_iload hx hb dX3_solve_112 (lv_at hl 4 rfl) ?_
                refine fp_pV (As := [.int (iI (k))]) (rest := [.int (iI ((choL g k b7 q7) (k * 4 + 3))), .int (iI (st)), .int (iI (k)), .ref h]) (wsC := [(h, .inr (3, [.ref hc, .ref ra, .ref rl, .int (iI (sz))])), (ra, .inr (5, [.ref aa])), (aa, fA cyI 13 a7), (rl, .inr (5, [.ref al])), (al, fA cyI 676 l2), (hc, .inr (0, [.ref cr])), (cr, .inr (5, [.ref ca])), (ca, fA cyI 54 (choL g k b7 q7)), (h2, .inr (0, [.ref r2])), (r2, .inr (5, [.ref a2])), (a2, fA cyI 54 d)]) ⟨hx, hb, hml, hown, hts⟩ (c_X0_place l D cyI hc cr ca (choL g k b7 q7) k (by omega)) (cwV 1 hts gX3_solve_X0_place rfl rfl rfl (by decide +kernel) ⟨Nat.le_of_ble_eq_true rfl, Nat.le_of_ble_eq_true rfl⟩) hK hP hD [5, 6, 7] (by decide) rfl rfl rfl rfl hl.1 rfl (Nat.le_of_ble_eq_true rfl) dX3_solve_114 ⟨Nat.zero_le _, Nat.zero_le _⟩ ?_
                have hA2 : Agr (choL g k b7 q7) (upI d (49 + 0) sz) := Agr_cho jA hk hNF.2
                have hC2 : CatOK (choL g k b7 q7) := Cat_cho jC (by omega) pB_92 pQ_92
                have hm := (Agr_len jA hk).2
                have hcv : ∀ b9 q9 : Int, 0 ≤ b9 → b9 ≤ 1 → ctR g sz a7 l2 k st b9 q9 = ctB (upI d (49 + 0) sz) sz k (lnS (upI d (49 + 0) sz) k + blS g k) (ssI (upI d (49 + 0) sz) g sz k.toNat) b9 q9 := fun b9 q9 a1 a2 => by rw [Agr_ctR jA hk, ctR_B hF hk hst ⟨a1, a2⟩ pAh_26 (Le_w hLz (by omega)), e4, e5]
                have hlv : l2 (k * 52 + st) = bsI (upI d (49 + 0) sz) sz ((upI d (49 + 0) sz) 0 - k).toNat k (lnS (upI d (49 + 0) sz) k + blS g k) (ssI (upI d (49 + 0) sz) g sz k.toNat) := by rw [hLz k hk.1 (by omega) st hst.1 hst.2, e4, e5]
                have hO2 : Opt (upI d (49 + 0) sz) (choL g k b7 q7) sz (k + 1) := Opt_s jO hk.1 pB_92 (by omega) (by rw [← hcv _ _ pB_92.1 pB_92.2, ← hlv]; exact pE_92) (fun b9 q9 a1 a2 a3 a4 => by rw [← hcv _ _ a1 (by omega), ← hlv]; exact pF_92 b9 q9 a1 a2 (by omega) a4)
                have eb : choL g k b7 q7 (k * 4 + 3) = b7 := cho_b rfl
                have eq7 : choL g k b7 q7 (k * 4 + 4) = q7 := cho_q rfl
                have hs2 : stB (choL g k b7 q7) sz a7 k st (choL g k b7 q7 (k * 4 + 3)) (choL g k b7 q7 (k * 4 + 4)) = blS (choL g k b7 q7) (k + 1) * 4 + ssI (upI d (49 + 0) sz) (choL g k b7 q7) sz (k + 1).toNat := by
                  have e6 : blS (choL g k b7 q7) k = blS g k := blS_c (fun i a1 a2 => cho_n (by omega))
                  have e7 : ssI (upI d (49 + 0) sz) (choL g k b7 q7) sz k.toNat = ssI (upI d (49 + 0) sz) g sz k.toNat := ssI_c _ (fun i a1 a2 => ⟨cho_n (by omega), cho_n (by omega)⟩)
                  rw [ssI_s _ _ _ hk.1, blS_s hk.1, e6, e7, eb, eq7]
                  unfold stB
                  rw [Agr_sb hA2 hk, e4, e5, pAh_26 k hk.1 (by omega), pAh_26 (k + 1) (by omega) (by omega)]
                  rw [show lnS (upI d (49 + 0) sz) (k + 1) + (blS g k + b7) = lnS (upI d (49 + 0) sz) (k + 1) + blS g k + b7 by omega]
                refine fp_pV (As := [.int (iI (k)), .int (iI (st)), .int (iI ((choL g k b7 q7) (k * 4 + 3))), .int (iI ((choL g k b7 q7) (k * 4 + 4)))]) (rest := []) (wsC := [(h, .inr (3, [.ref hc, .ref ra, .ref rl, .int (iI (sz))])), (ra, .inr (5, [.ref aa])), (aa, fA cyI 13 a7), (rl, .inr (5, [.ref al])), (al, fA cyI 676 l2), (hc, .inr (0, [.ref cr])), (cr, .inr (5, [.ref ca])), (ca, fA cyI 54 (choL g k b7 q7)), (h2, .inr (0, [.ref r2])), (r2, .inr (5, [.ref a2])), (a2, fA cyI 54 d)]) ⟨hx, hb, hml, hown, hts⟩ (c_X3_standingBehind l D cyI h hc ra rl sz aa a7 cr ca (choL g k b7 q7) k st ((choL g k b7 q7) (k * 4 + 3)) ((choL g k b7 q7) (k * 4 + 4)) hC2 (by rw [hA2.1]; exact hk) hst (by rw [eb]; exact pB_92) (by rw [eq7, (Agr_len hA2 hk).2, ← hm]; exact pQ_92) hg ⟨hah k hk.1 (by omega), hah (k + 1) (by omega) (by omega)⟩) (cwV 4 hts gX3_solve_X3_standingBehind rfl rfl rfl (by decide +kernel) ⟨Nat.le_of_ble_eq_true rfl, Nat.le_of_ble_eq_true rfl⟩) hK hP hD [0, 1, 2, 5, 6, 7] (by decide) rfl rfl rfl rfl hl.1 rfl (Nat.le_of_ble_eq_true rfl) dX3_solve_117 ⟨Nat.zero_le _, Nat.zero_le _⟩ ?_
                refine lv_istore_n (lv' := [(3, .int (iI (stB (choL g k b7 q7) sz a7 k st ((choL g k b7 q7) (k * 4 + 3)) ((choL g k b7 q7) (k * 4 + 4))))), (0, .ref h), (1, .ref h2), (2, .int (iI (sz))), (4, .int (iI (k)))]) hx hb dX3_solve_120 rfl hl (by decide) rfl (fun ls hl => ?_)
                refine fp_iinc (k := 4) (lv' := [(4, .int (iI (k + 1))), (3, .int (iI (stB (choL g k b7 q7) sz a7 k st ((choL g k b7 q7) (k * 4 + 3)) ((choL g k b7 q7) (k * 4 + 4))))), (0, .ref h), (1, .ref h2), (2, .int (iI (sz)))]) hx hb dX3_solve_121 hl rfl (by decide) rfl (fun ls hl => ?_)
                refine lv_goto (tgt := 76) hx hb dX3_solve_124 (by decide) ?_
                exact ih5 (stB (choL g k b7 q7) sz a7 k st ((choL g k b7 q7) (k * 4 + 3)) ((choL g k b7 q7) (k * 4 + 4))) (k + 1) (choL g k b7 q7) (by omega) hA2 hC2 hO2 hs2 (by omega) H locs hP hD hS ls (lv_sub hl [2, 3, 4, 1, 0] rfl)
          exact lp5 (((d 0 : Int) + 1 - (0)).toNat) 0 0 (((upI d (49 + 0) sz))) (by omega) (Agr_rf (upI d (49 + 0) sz)) hF (fun j a1 a2 => by omega) rfl (by omega) H locs hP hD hS ls hl
        · skip
          exact absurd q66 (by omega)
      · skip
        refine lv_aload_n hx hb dX3_solve_47 rfl (lv_at hl 0 rfl) ?_
        refine lv_iload_n hx hb dX3_solve_48 rfl (lv_at hl 3 rfl) ?_
        refine fp_wV (As := [.int (iI (w))]) (rest := []) (wsC := [(h, .inr (3, [.ref hc, .ref ra, .ref rl, .int (iI (sz))])), (ra, .inr (5, [.ref aa])), (aa, fA cyI 13 a7), (rl, .inr (5, [.ref al])), (al, fA cyI 676 l2), (hc, .inr (0, [.ref cr])), (cr, .inr (5, [.ref ca])), (ca, fA cyI 54 (((upI d (49 + 0) sz)))), (h2, .inr (0, [.ref r2])), (r2, .inr (5, [.ref a2])), (a2, fA cyI 54 d)]) ⟨hx, hb, hml, hown, hts⟩ (c_X3_weigh l D cyI h hc ra rl sz aa a7 al l2 cr ca (((upI d (49 + 0) sz))) w hF (by rw [hF0]; omega) hg (fun j a1 a2 => by rw [pAh_26 j a1 a2]; have := lnS_b hF (k := j) ⟨a1, a2⟩; omega) (fun j a1 a2 => by have := Le_rg hF hg (k := w + 1) (by omega) jL (j := j) a1 (by omega); omega)) (cwV 1 hts gX3_solve_X3_weigh rfl rfl rfl (by decide +kernel) ⟨Nat.le_of_ble_eq_true rfl, Nat.le_of_ble_eq_true rfl⟩) (fun _ => rfl) hK hP hD hS [0, 1, 2, 3, 4, 5, 6, 7] (by decide) rfl rfl rfl rfl hl.1 rfl (Nat.le_of_ble_eq_true rfl) dX3_solve_49 ⟨Nat.zero_le _, Nat.zero_le _⟩ (fun u9v H locs hu hP hD hS => ?_)
        obtain ⟨l7, rfl⟩ : ∃ z, z = u9v := ⟨u9v, rfl⟩
        have pL_49 := hu
        refine W.eq (g2 := F0 mi 52 ls []) rfl ?_
        have hP : va_P D vwCl [(h, .inr (3, [.ref hc, .ref ra, .ref rl, .int (iI (sz))])), (ra, .inr (5, [.ref aa])), (aa, fA cyI 13 a7), (rl, .inr (5, [.ref al])), (al, fA cyI 676 l7), (hc, .inr (0, [.ref cr])), (cr, .inr (5, [.ref ca])), (ca, fA cyI 54 ((((upI d (49 + 0) sz))))), (h2, .inr (0, [.ref r2])), (r2, .inr (5, [.ref a2])), (a2, fA cyI 54 d)] H := hP
        have hD : va_D (fp_A [(h, .inr (3, [.ref hc, .ref ra, .ref rl, .int (iI (size0))])), (ra, .inr (5, [.ref aa])), (aa, fA cyI 13 ah), (rl, .inr (5, [.ref al])), (al, fA cyI 676 le), (hc, .inr (0, [.ref cr])), (cr, .inr (5, [.ref ca])), (ca, fA cyI 54 f), (h2, .inr (0, [.ref r2])), (r2, .inr (5, [.ref a2])), (a2, fA cyI 54 d)]) [(h, .inr (3, [.ref hc, .ref ra, .ref rl, .int (iI (sz))])), (ra, .inr (5, [.ref aa])), (aa, fA cyI 13 a7), (rl, .inr (5, [.ref al])), (al, fA cyI 676 l7), (hc, .inr (0, [.ref cr])), (cr, .inr (5, [.ref ca])), (ca, fA cyI 54 ((((upI d (49 + 0) sz))))), (h2, .inr (0, [.ref r2])), (r2, .inr (5, [.ref a2])), (a2, fA cyI 54 d)] := hD
        refine fp_iinc (k := 3) (lv' := [(3, .int (iI (w + (-1)))), (0, .ref h), (1, .ref h2), (2, .int (iI (sz)))]) hx hb dX3_solve_52 hl rfl (by decide) rfl (fun ls hl => ?_)
        refine lv_goto (tgt := 43) hx hb dX3_solve_55 (by decide) ?_
        have hL3 : LeOK (upI d (49 + 0) sz) sz l7 (w + (-1) + 1) := by rw [show w + (-1) + 1 = w by omega]; exact LeOK_s hF (by omega) pAh_26 jL pL_49
        exact ih2 (w + (-1)) l7 (by omega) hL3 (by omega) H locs hP hD hS ls (lv_sub hl [1, 2, 3, 0] rfl)
  have hL0 := pLe_30
  rw [hF0] at hL0
  rw [show d 0 = d 0 - 1 + 1 by omega] at hL0
  exact lp2 ((d 0 + 2).toNat) (((((upI d (49 + 0) sz))) 0) - 1) le2_2 (by omega) hL0 (by omega) H locs hP hD hS ls hl
