/-! what is told depends on the lots and the settings alone -/
theorem Same_len {c c' : Int → Int} (h : Same c c') {k : Int} (hk : 0 ≤ k ∧ k < c 0) : lenC c k = lenC c' k ∧ itsC c k = itsC c' k ∧ mostC c k = mostC c' k := by
  have h1 := h.2.1 k hk.1 hk.2
  unfold itsC lenC mostC
  rw [h1.1, h1.2.1, h1.2.2.1]
  exact ⟨rfl, rfl, rfl⟩
theorem Same_pg {c c' : Int → Int} (h : Same c c') {k : Int} (hk : k ≤ c 0) : pgC c k = pgC c' k := sumI_c _ (fun i a b => (Same_len h ⟨a, by omega⟩).2.1)
theorem Same_fp {c c' : Int → Int} (h : Same c c') {k : Int} (hk : 0 ≤ k ∧ k < c 0) : fpC c k = fpC c' k ∧ ppC c k = ppC c' k := by
  have h1 := h.2.1 k hk.1 hk.2
  have h2 := Same_pg h (k := k) (by omega)
  unfold ppC fpC
  rw [h1.2.2.1, h1.2.2.2, h2]
  exact ⟨rfl, rfl⟩
theorem loR_c {f g : Int → Int} : ∀ (m : Nat) (k l : Int), (∀ i : Int, k ≤ i → i < k + m → f i = g i) → loR f m k l = loR g m k l := by
  intro m
  induction m with
  | zero => intro k l _; rfl
  | succ m ih =>
    intro k l h
    show (if l ≤ f k then k else loR f m (k + 1) (l - f k)) = if l ≤ g k then k else loR g m (k + 1) (l - g k)
    rw [h k (by omega) (by omega), ih (k + 1) _ (fun i a b => h i (by omega) (by omega))]
theorem Same_kind {c c' : Int → Int} (h : Same c c') (hC : CatOK c) (p : Int) : lotC c p = lotC c' p ∧ (1 ≤ p → kindC c p = kindC c' p ∧ ownC c p = ownC c' p) := by
  have e : lotC c p = lotC c' p := by
    have hN := hC.1
    unfold lotC
    rw [← h.1]
    exact loR_c _ _ _ (fun i a b => (Same_len h ⟨a, by omega⟩).2.1)
  refine ⟨e, fun hp => ?_⟩
  have e2 : kindC c p = kindC c' p := by
    have hl := lo_rg hC hp
    unfold kindC
    rw [← e]
    rcases hl with hl | hl
    · rw [if_pos hl, if_pos hl]
    · have h1 := h.2.1 _ hl.1 hl.2
      have h2 := Same_fp h hl
      rw [h1.2.1, h2.1, h2.2]
  refine ⟨e2, ?_⟩
  unfold ownC
  rw [e2, e]
theorem Same_set {c c' : Int → Int} (h : Same c c') : c (49 + 0) = c' (49 + 0) ∧ c (49 + 1) = c' (49 + 1) ∧ c (49 + 2) = c' (49 + 2) ∧ c (49 + 3) = c' (49 + 3) ∧ c (49 + 4) = c' (49 + 4) :=
  ⟨h.2.2 0 (by omega) (by omega), h.2.2 1 (by omega) (by omega), h.2.2 2 (by omega) (by omega), h.2.2 3 (by omega) (by omega), h.2.2 4 (by omega) (by omega)⟩
theorem Same_la {c c' : Int → Int} (h : Same c c') : gaC c = gaC c' ∧ laC c = laC c' ∧ gcC c = gcC c' ∧ pgC c (c 0) = pgC c' (c' 0) := by
  have hs := Same_set h
  have h1 := Same_pg h (k := c 0) (by omega)
  unfold gaC laC gcC
  rw [h1, h.1, hs.1, hs.2.1, hs.2.2.2.2]
  exact ⟨rfl, rfl, rfl, rfl⟩
theorem Same_col {c c' : Int → Int} (h : Same c c') (hC : CatOK c) {g s : Int} (hg : 0 ≤ g) : colI (kindC c) (c (49 + 0)) g s = colI (kindC c') (c' (49 + 0)) g s := by
  have hX := hC.2.2
  unfold SetOK at hX
  have hb : 0 ≤ g * c (49 + 0) := Int.mul_nonneg hg (by omega)
  unfold colI
  rw [← (Same_set h).1]
  refine anyI_c _ _ (fun j a b => ?_)
  unfold hitI
  rw [((Same_kind h hC _).2 (by omega)).1]
theorem Same_co {c c' : Int → Int} (h : Same c c') (hC : CatOK c) : coC c = coC c' := by
  unfold coC
  rw [← (Same_la h).1]
  exact sumI_c _ (fun j a b => by rw [Same_col h hC a, Same_col h hC a])
theorem Same_bl {c c' : Int → Int} (h : Same c c') : blC c = blC c' := by
  unfold blC
  rw [← h.1]
  exact sumI_c _ (fun i a b => (h.2.1 i a (by omega)).2.2.1)
theorem Same_cs {c c' : Int → Int} (h : Same c c') (hC : CatOK c) : csC c = csC c' := by
  have hs := Same_set h
  have hl := Same_la h
  unfold csC
  rw [hl.1, hl.2.2.1, Same_co h hC, Same_bl h, hs.2.2.1, hs.2.2.2.1]
theorem Same_wh {c c' : Int → Int} (h : Same c c') (hC : CatOK c) {k : Int} (hk : 0 ≤ k ∧ k < c 0) : whC c k = whC c' k := by
  have h1 := h.2.1 k hk.1 hk.2
  have h2 := Same_fp h hk
  have h3 := oth_rg (ppC c k) (laC c)
  unfold whC
  rw [← h1.2.1, ← h2.2, ← (Same_la h).2.1]
  by_cases q : c (k * 4 + 2) = 0
  · rw [if_pos q, if_pos q]
  · rw [if_neg q, if_neg q]
    by_cases r : othI (ppC c k) (laC c) = -5
    · rw [if_pos r, if_pos r]
    · have h4 := (Same_kind h hC (othI (ppC c k) (laC c))).2 (by omega)
      rw [h4.1, h4.2]
theorem Same_fc {c c' : Int → Int} (h : Same c c') (hC : CatOK c) : fcC c = fcC c' := by
  unfold fcC
  rw [← h.1]
  exact sumI_c _ (fun i a b => by rw [Same_wh h hC ⟨a, by omega⟩, (h.2.1 i a (by omega)).2.1])
theorem Same_pl {c c' : Int → Int} (h : Same c c') (p : Int) : plC c p = plC c' p := by
  unfold plC
  rw [← h.1]
  exact sumI_c _ (fun i a b => by rw [(h.2.1 i a (by omega)).2.1])
theorem Same_lt {c c' : Int → Int} (h : Same c c') (hC : CatOK c) (k w : Int) : ltR c k w = ltR c' k w := by
  unfold ltR
  rw [← h.1]
  by_cases q : 0 ≤ k ∧ k < c 0
  · have h1 := h.2.1 k q.1 q.2
    have h2 := Same_fp h q
    rw [h1.1, h1.2.1, h1.2.2.1, h1.2.2.2, h2.1, h2.2, Same_wh h hC q]
  · rw [if_pos q, if_pos q]
theorem Same_pgR {c c' : Int → Int} (h : Same c c') (hC : CatOK c) (q w : Int) : pgR c q w = pgR c' q w := by
  unfold pgR
  rw [← (Same_la h).2.1, ← (Same_set h).1]
  by_cases r : 1 ≤ q ∧ q ≤ laC c
  · have h1 := (Same_kind h hC q).2 r.1
    rw [h1.1, h1.2]
  · rw [if_pos r, if_pos r]
theorem Same_gaR {c c' : Int → Int} (h : Same c c') (hC : CatOK c) (j w : Int) : gaR c j w = gaR c' j w := by
  have hX := hC.2.2
  unfold SetOK at hX
  unfold gaR
  rw [← (Same_la h).1]
  by_cases r : 0 ≤ j ∧ j < gaC c
  · have hb : 0 ≤ j * c (49 + 0) := Int.mul_nonneg r.1 (by omega)
    rw [Same_col h hC r.1, Same_col h hC r.1, ← (Same_set h).1]
    rw [(lcI_c (o := ownC c) (o' := ownC c') (base := j * c (49 + 0)) (c (49 + 0)).toNat (fun i a b => ((Same_kind h hC _).2 (by omega)).2)).2]
    rw [sumI_c (f := fun i => plkI (kindC c (j * c (49 + 0) + (i + 1)))) (g := fun i => plkI (kindC c' (j * c (49 + 0) + (i + 1)))) (c (49 + 0)).toNat (fun i a b => by rw [((Same_kind h hC (j * c (49 + 0) + (i + 1))).2 (by omega)).1])]
    rw [sumI_c (f := fun i => blkI (kindC c (j * c (49 + 0) + (i + 1)))) (g := fun i => blkI (kindC c' (j * c (49 + 0) + (i + 1)))) (c (49 + 0)).toNat (fun i a b => by rw [((Same_kind h hC (j * c (49 + 0) + (i + 1))).2 (by omega)).1])]
  · rw [if_pos r, if_pos r]
theorem Same_cn {c c' : Int → Int} (h : Same c c') (hC : CatOK c) (ny nx w : Int) : cnR c ny nx w = cnR c' ny nx w := by
  have hs := Same_set h
  have hl := Same_la h
  unfold cnR
  rw [Same_pl h, Same_pl h, Same_fc h hC, hl.2.2.2, hl.1, hl.2.1, Same_co h hC, Same_bl h, Same_cs h hC, hs.1, hs.2.1, hs.2.2.1, hs.2.2.2.1, hs.2.2.2.2, h.1]
/-! the acts keep what is the same -/
theorem Same_up {c c' : Int → Int} (h : Same c c') {w v : Int} (hw : 0 ≤ w ∧ w ≤ 4) (hn : c 0 ≤ 12) : Same (upI c (49 + w) v) (upI c' (49 + w) v) := by
  refine ⟨by rw [upI_n (by omega), upI_n (by omega)]; exact h.1, fun k a b => ?_, fun j a b => ?_⟩
  · rw [upI_n (by omega)] at b
    rw [upI_n (by omega), upI_n (by omega), upI_n (by omega), upI_n (by omega), upI_n (by omega), upI_n (by omega), upI_n (by omega), upI_n (by omega)]
    exact h.2.1 k a b
  · by_cases e : j = w
    · rw [upI_s (by omega), upI_s (by omega)]
    · rw [upI_n (by omega), upI_n (by omega)]; exact h.2.2 j a b
theorem Same_put {c c' : Int → Int} (h : Same c c') (hn : c 0 ≤ 12) {k t p b q : Int} (hk : 0 ≤ k ∧ k < 12) : Same (putL c k t p b q) (putL c' k t p b q) := by
  refine ⟨by rw [put_n (by omega), put_n (by omega)]; exact h.1, fun i a b => ?_, fun j a b => ?_⟩
  · rw [put_n (by omega)] at b
    by_cases e : i = k
    · subst e
      rw [put_at.1, put_at.2.1, put_at.2.2.1, put_at.2.2.2, put_at.1, put_at.2.1, put_at.2.2.1, put_at.2.2.2]
      exact ⟨rfl, rfl, rfl, rfl⟩
    · rw [put_n (by omega), put_n (by omega), put_n (by omega), put_n (by omega), put_n (by omega), put_n (by omega), put_n (by omega), put_n (by omega)]
      exact h.2.1 i a b
  · rw [put_n (by omega), put_n (by omega)]; exact h.2.2 j a b
theorem Same_cho {c c' : Int → Int} (h : Same c c') (hn : c 0 ≤ 12) {k b q : Int} (hk : 0 ≤ k ∧ k < 12) : Same (choL c k b q) (choL c' k b q) := by
  refine ⟨by rw [cho_n (by omega), cho_n (by omega)]; exact h.1, fun i a b => ?_, fun j a b => ?_⟩
  · rw [cho_n (by omega)] at b
    have h1 := h.2.1 i a b
    rw [cho_n (j := i * 4 + 1) (by omega), cho_n (j := i * 4 + 2) (by omega), cho_n (j := i * 4 + 1) (by omega), cho_n (j := i * 4 + 2) (by omega)]
    refine ⟨h1.1, h1.2.1, ?_⟩
    by_cases e : i = k
    · subst e
      rw [cho_b rfl, cho_q rfl, cho_b rfl, cho_q rfl]
      exact ⟨rfl, rfl⟩
    · rw [cho_n (by omega), cho_n (by omega), cho_n (by omega), cho_n (by omega)]
      exact h1.2.2
  · rw [cho_n (by omega), cho_n (by omega)]; exact h.2.2 j a b
theorem Same_app {c c' : Int → Int} (h : Same c c') (hn : 0 ≤ c 0) {t p b q : Int} : Same (appL c t p b q) (appL c' t p b q) := by
  unfold appL
  rw [← h.1]
  split
  · refine ⟨by rw [upI_s rfl, upI_s rfl], fun i a b => ?_, fun j a b => ?_⟩
    · rw [upI_s rfl] at b
      rw [upI_n (by omega), upI_n (by omega), upI_n (by omega), upI_n (by omega), upI_n (by omega), upI_n (by omega), upI_n (by omega), upI_n (by omega)]
      by_cases e : i = c 0
      · subst e
        rw [put_at.1, put_at.2.1, put_at.2.2.1, put_at.2.2.2, put_at.1, put_at.2.1, put_at.2.2.1, put_at.2.2.2]
        exact ⟨rfl, rfl, rfl, rfl⟩
      · rw [put_n (by omega), put_n (by omega), put_n (by omega), put_n (by omega), put_n (by omega), put_n (by omega), put_n (by omega), put_n (by omega)]
        exact h.2.1 i a (by omega)
    · rw [upI_n (by omega), upI_n (by omega), put_n (by omega), put_n (by omega)]; exact h.2.2 j a b
  · exact h
theorem Same_sh {c c' : Int → Int} (h : Same c c') (hn : c 0 ≤ 12) {a b : Int} (ha : 0 ≤ a ∧ a < c 0) (hb : 0 ≤ b ∧ b < c 0) : Same (shL c a b) (shL c' a b) := by
  refine ⟨by rw [sh_n (by omega), sh_n (by omega)]; exact h.1, fun k h1 h2 => ?_, fun j h1 h2 => ?_⟩
  · rw [sh_n (j := 0) (by omega)] at h2
    rw [sh_at (by omega) (by omega), sh_at (by omega) (by omega), sh_at (by omega) (by omega), sh_at (by omega) (by omega), sh_at (by omega) (by omega), sh_at (by omega) (by omega), sh_at (by omega) (by omega), sh_at (by omega) (by omega)]
    have hm := mov_rg ha hb (k := k) ⟨h1, h2⟩
    exact h.2.1 _ hm.1 hm.2
  · rw [sh_n (by omega), sh_n (by omega)]; exact h.2.2 j h1 h2
theorem Same_rm {c c' : Int → Int} (h : Same c c') (hn : c 0 ≤ 12) {k : Int} (hk : 0 ≤ k ∧ k < c 0) : Same (rmC c k) (rmC c' k) := by
  have hS := Same_sh h hn hk (b := c 0 - 1) (by omega)
  unfold rmC
  rw [← h.1]
  refine ⟨by rw [upI_s rfl, upI_s rfl], fun i a b => ?_, fun j a b => ?_⟩
  · rw [upI_s rfl] at b
    rw [upI_n (by omega), upI_n (by omega), upI_n (by omega), upI_n (by omega), upI_n (by omega), upI_n (by omega), upI_n (by omega), upI_n (by omega)]
    exact hS.2.1 i a (by rw [sh_n (by omega)]; omega)
  · rw [upI_n (by omega), upI_n (by omega)]; exact hS.2.2 j a b
theorem Same_ch {c c' : Int → Int} (h : Same c c') (hn : c 0 ≤ 12) {k t p : Int} (hk : 0 ≤ k ∧ k < c 0) : Same (chC c k t p) (chC c' k t p) := by
  have h1 := h.2.1 k hk.1 hk.2
  unfold chC
  rw [← h1.2.2.1, ← h1.2.2.2]
  exact Same_put h hn (by omega)
theorem Same_cp {c c' g g' : Int → Int} (h : Same c c') (hg : Same g g') (hn : g 0 ≤ 12) : Same (cpI c g 0 0 49) (cpI c' g' 0 0 49) := by
  refine ⟨by rw [cp_lo (by omega), cp_lo (by omega)]; exact hg.1, fun k a b => ?_, fun j a b => ?_⟩
  · rw [cp_lo (by omega)] at b
    rw [cp_lo (by omega), cp_lo (by omega), cp_lo (by omega), cp_lo (by omega), cp_lo (by omega), cp_lo (by omega), cp_lo (by omega), cp_lo (by omega)]
    exact hg.2.1 k a b
  · rw [cp_hi (by omega), cp_hi (by omega)]; exact h.2.2 j a b
/-! the acts' answers -/
theorem Same_ad {c c' : Int → Int} (h : Same c c') (t p : Int) : adR c t p = adR c' t p := by
  unfold adR
  rw [h.1]
theorem Same_rmR {c c' : Int → Int} (h : Same c c') (k : Int) : rmR c k = rmR c' k := by
  unfold rmR
  rw [h.1]
theorem Same_chR {c c' : Int → Int} (h : Same c c') (hn : c 0 ≤ 12) (k t p : Int) : chR c k t p = chR c' k t p := by
  unfold chR
  rw [← h.1]
  by_cases q : 0 ≤ k ∧ k < c 0
  · have h1 := h.2.1 k q.1 q.2
    rw [← h1.1, ← h1.2.1, ← (Same_la (Same_ch h hn (t := t) (p := p) q)).2.2.2]
  · rw [if_pos q, if_pos q]
theorem Same_mv {c c' : Int → Int} (h : Same c c') (hC : CatOK c) (a b : Int) : mvR c a b = mvR c' a b := by
  have hN := hC.1
  unfold mvR
  rw [← h.1]
  by_cases q : (0 ≤ a ∧ a < c 0) ∧ (0 ≤ b ∧ b < c 0)
  · rw [← Same_cs (Same_sh h hN.2 q.1 q.2) (Cat_sh hC q.1 q.2)]
  · rw [if_pos q, if_pos q]
theorem Same_coR {c c' : Int → Int} (h : Same c c') (hC : CatOK c) {b : Int} (hb : 0 ≤ b ∧ b ≤ 1) (k q : Int) : coR c k b q = coR c' k b q := by
  have hN := hC.1
  unfold coR
  rw [← h.1]
  by_cases r : 0 ≤ k ∧ k < c 0
  · have h1 := h.2.1 k r.1 r.2
    have h2 := Same_len h r
    rw [← h1.2.2.1, ← h1.2.2.2, ← h2.2.2]
    by_cases s : 0 ≤ q ∧ q ≤ mostC c k
    · rw [← Same_cs (Same_cho h hN.2 (k := k) (b := b) (q := q) (by omega)) (Cat_cho hC r hb s)]
    · rw [if_neg (c := ¬ (0 ≤ k ∧ k < c 0)) (fun z => z r), if_neg (c := ¬ (0 ≤ k ∧ k < c 0)) (fun z => z r), if_pos s, if_pos s]
  · rw [if_pos r, if_pos r]
theorem Same_st {c c' : Int → Int} (h : Same c c') (w v : Int) : stR c w v = stR c' w v := by
  unfold stR
  by_cases r : 0 ≤ w ∧ w ≤ 4
  · rw [h.2.2 w r.1 (by omega)]
  · rw [if_pos r, if_pos r]
