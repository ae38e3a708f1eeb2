/-! what depends on the lots and the size of the gatherings alone; costs three times as high -/
def SmL (c c' : Int → Int) : Prop := c 0 = c' 0 ∧ (∀ k : Int, 0 ≤ k → k < c 0 → c (k * 4 + 1) = c' (k * 4 + 1) ∧ c (k * 4 + 2) = c' (k * 4 + 2) ∧ c (k * 4 + 3) = c' (k * 4 + 3) ∧ c (k * 4 + 4) = c' (k * 4 + 4)) ∧ c (49 + 0) = c' (49 + 0)
theorem SmL_len {c c' : Int → Int} (h : SmL c c') {k : Int} (hk : 0 ≤ k ∧ k < c 0) : lenC c k = lenC c' k ∧ itsC c k = itsC c' k ∧ mostC c k = mostC c' k := by
  have h1 := h.2.1 k hk.1 hk.2
  unfold itsC lenC mostC
  rw [h1.1, h1.2.1, h1.2.2.1]
  exact ⟨rfl, rfl, rfl⟩
theorem SmL_pg {c c' : Int → Int} (h : SmL c c') {k : Int} (hk : k ≤ c 0) : pgC c k = pgC c' k := sumI_c _ (fun i a b => (SmL_len h ⟨a, by omega⟩).2.1)
theorem SmL_fp {c c' : Int → Int} (h : SmL c c') {k : Int} (hk : 0 ≤ k ∧ k < c 0) : fpC c k = fpC c' k ∧ ppC c k = ppC c' k := by
  have h1 := h.2.1 k hk.1 hk.2
  have h2 := SmL_pg h (k := k) (by omega)
  unfold ppC fpC
  rw [h1.2.2.1, h1.2.2.2, h2]
  exact ⟨rfl, rfl⟩
theorem SmL_kind {c c' : Int → Int} (h : SmL c c') (hC : CatOK c) (p : Int) : lotC c p = lotC c' p ∧ (1 ≤ p → kindC c p = kindC c' p ∧ ownC c p = ownC c' p) := by
  have e : lotC c p = lotC c' p := by
    have hN := hC.1
    unfold lotC
    rw [← h.1]
    exact loR_c _ _ _ (fun i a b => (SmL_len h ⟨a, by omega⟩).2.1)
  refine ⟨e, fun hp => ?_⟩
  have e2 : kindC c p = kindC c' p := by
    have hl := lo_rg hC hp
    unfold kindC
    rw [← e]
    rcases hl with hl | hl
    · rw [if_pos hl, if_pos hl]
    · have h1 := h.2.1 _ hl.1 hl.2
      have h2 := SmL_fp h hl
      rw [h1.2.1, h2.1, h2.2]
  refine ⟨e2, ?_⟩
  unfold ownC
  rw [e2, e]
theorem SmL_la {c c' : Int → Int} (h : SmL c c') : gaC c = gaC c' ∧ laC c = laC c' ∧ pgC c (c 0) = pgC c' (c' 0) := by
  have h1 := SmL_pg h (k := c 0) (by omega)
  unfold gaC laC
  rw [h1, h.1, h.2.2]
  exact ⟨rfl, rfl, rfl⟩
theorem SmL_col {c c' : Int → Int} (h : SmL c c') (hC : CatOK c) {g s : Int} (hg : 0 ≤ g) : colI (kindC c) (c (49 + 0)) g s = colI (kindC c') (c' (49 + 0)) g s := by
  have hX := hC.2.2
  unfold SetOK at hX
  have hb : 0 ≤ g * c (49 + 0) := Int.mul_nonneg hg (by omega)
  unfold colI
  rw [← h.2.2]
  refine anyI_c _ _ (fun j a b => ?_)
  unfold hitI
  rw [((SmL_kind h hC _).2 (by omega)).1]
theorem SmL_co {c c' : Int → Int} (h : SmL c c') (hC : CatOK c) : coC c = coC c' := by
  unfold coC
  rw [← (SmL_la h).1]
  exact sumI_c _ (fun j a b => by rw [SmL_col h hC a, SmL_col h hC a])
theorem SmL_bl {c c' : Int → Int} (h : SmL c c') : blC c = blC c' := by
  unfold blC
  rw [← h.1]
  exact sumI_c _ (fun i a b => (h.2.1 i a (by omega)).2.2.1)
theorem SmL_wh {c c' : Int → Int} (h : SmL c c') (hC : CatOK c) {k : Int} (hk : 0 ≤ k ∧ k < c 0) : whC c k = whC c' k := by
  have h1 := h.2.1 k hk.1 hk.2
  have h2 := SmL_fp h hk
  have h3 := oth_rg (ppC c k) (laC c)
  unfold whC
  rw [← h1.2.1, ← h2.2, ← (SmL_la h).2.1]
  by_cases q : c (k * 4 + 2) = 0
  · rw [if_pos q, if_pos q]
  · rw [if_neg q, if_neg q]
    by_cases r : othI (ppC c k) (laC c) = -5
    · rw [if_pos r, if_pos r]
    · have h4 := (SmL_kind h hC (othI (ppC c k) (laC c))).2 (by omega)
      rw [h4.1, h4.2]
theorem SmL_fc {c c' : Int → Int} (h : SmL c c') (hC : CatOK c) : fcC c = fcC c' := by
  unfold fcC
  rw [← h.1]
  exact sumI_c _ (fun i a b => by rw [SmL_wh h hC ⟨a, by omega⟩, (h.2.1 i a (by omega)).2.1])
theorem SmL_pl {c c' : Int → Int} (h : SmL c c') (p : Int) : plC c p = plC c' p := by
  unfold plC
  rw [← h.1]
  exact sumI_c _ (fun i a b => by rw [(h.2.1 i a (by omega)).2.1])
theorem SmL_lt {c c' : Int → Int} (h : SmL c c') (hC : CatOK c) (k w : Int) : ltR c k w = ltR c' k w := by
  unfold ltR
  rw [← h.1]
  by_cases q : 0 ≤ k ∧ k < c 0
  · have h1 := h.2.1 k q.1 q.2
    have h2 := SmL_fp h q
    rw [h1.1, h1.2.1, h1.2.2.1, h1.2.2.2, h2.1, h2.2, SmL_wh h hC q]
  · rw [if_pos q, if_pos q]
theorem SmL_cn {c c' : Int → Int} (h : SmL c c') (hC : CatOK c) (ny nx ny' nx' : Int) {w : Int} (hw : 0 ≤ w ∧ w < 9) : cnR c ny nx w = cnR c' ny' nx' w := by
  have hl := SmL_la h
  have e : w = 0 ∨ w = 1 ∨ w = 2 ∨ w = 3 ∨ w = 4 ∨ w = 5 ∨ w = 6 ∨ w = 7 ∨ w = 8 := by omega
  rcases e with rfl | rfl | rfl | rfl | rfl | rfl | rfl | rfl | rfl
  · exact h.1
  · show plC c 1 + plC c 2 = plC c' 1 + plC c' 2
    rw [SmL_pl h, SmL_pl h]
  · exact SmL_pl h 2
  · exact SmL_fc h hC
  · exact hl.2.2
  · exact hl.1
  · exact hl.2.1
  · exact SmL_co h hC
  · exact SmL_bl h
/-- settings: those of the second are three times as high; copies are 0 -/
def TrS (c e : Int → Int) : Prop := (e (49 + 0) = c (49 + 0) ∧ e (49 + 1) = 3 * c (49 + 1)) ∧ (e (49 + 2) = 3 * c (49 + 2) ∧ e (49 + 3) = 3 * c (49 + 3)) ∧ c (49 + 4) = 0 ∧ e (49 + 4) = 0
theorem gc_3 {c e : Int → Int} (h : TrS c e) : gcC e = 3 * gcC c := by
  unfold gcC
  rw [h.1.2, h.2.2.1, h.2.2.2]
  omega
theorem cs_3 {c e : Int → Int} (h : TrS c e) (hS : SmL c e) (hC : CatOK c) : csC e = 3 * csC c := by
  unfold csC
  rw [← (SmL_la hS).1, gc_3 h, ← SmL_co hS hC, ← SmL_bl hS, h.2.1.1, h.2.1.2]
  rw [Int.mul_left_comm (gaC c) 3, Int.mul_left_comm (coC c) 3, Int.mul_left_comm (blC c) 3]
  omega
/-- texts and plates agree; the table's values are three times as high -/
def AgL (c e : Int → Int) : Prop := c 0 = e 0 ∧ ∀ k : Int, 0 ≤ k → k < c 0 → c (k * 4 + 1) = e (k * 4 + 1) ∧ c (k * 4 + 2) = e (k * 4 + 2)
theorem AgL_len {c e : Int → Int} (h : AgL c e) {k : Int} (hk : 0 ≤ k ∧ k < c 0) : lenC c k = lenC e k ∧ mostC c k = mostC e k := by
  have h1 := h.2 k hk.1 hk.2
  unfold lenC mostC
  rw [h1.1, h1.2]
  exact ⟨rfl, rfl⟩
theorem AgL_sb {c e : Int → Int} (h : AgL c e) {G k p nx s b q : Int} (hk : 0 ≤ k ∧ k < c 0) : sbI c G k p nx s b q = sbI e G k p nx s b q := by
  unfold sbI
  rw [(h.2 k hk.1 hk.2).2]
theorem sa_3 {c e : Int → Int} (h : TrS c e) (hA : AgL c e) {G k p s b q : Int} (hk : 0 ≤ k ∧ k < c 0) : saV e G k p s b q = 3 * saV c G k p s b q := by
  unfold saV
  rw [← (hA.2 k hk.1 hk.2).2, h.2.1.1]
  split <;> omega
def v3 (a b : Int) : Prop := (a = 1000000 ∧ b = 1000000) ∨ (b < 1000000 ∧ b = 3 * a) ∨ (a < 1000000 ∧ b = 1000000 ∧ 1000000 ≤ 3 * a)
theorem ct_3 {c e : Int → Int} (h : TrS c e) (hA : AgL c e) {G k p s b q v v' : Int} (hk : 0 ≤ k ∧ k < c 0) (hv : v' = 3 * v) (hv0 : 0 ≤ v) (hb : 0 ≤ b) (hs : 0 ≤ saV c G k p s b q) (hc : 0 ≤ c (49 + 3)) : v3 (ctV c G k p s b q v) (ctV e G k p s b q v') := by
  have h3 := sa_3 (p := p) (s := s) (b := b) (q := q) (G := G) h hA hk
  have hb2 := Int.mul_nonneg hb hc
  unfold ctV v3
  rw [← (hA.2 k hk.1 hk.2).1, ← (hA.2 k hk.1 hk.2).2, h3, hv, h.2.1.2, Int.mul_left_comm b 3]
  split
  · exact Or.inl ⟨rfl, rfl⟩
  · generalize b * c (49 + 3) = w at *
    omega
theorem mn_3 {F F' : Int → Int → Int} {w : Nat} (h : ∀ b q : Int, 0 ≤ b → b < 2 → 0 ≤ q → q < w → v3 (F b q) (F' b q)) (hlt : mnB F' w 2 < 1000000) : mnB F' w 2 = 3 * mnB F w 2 := by
  rcases mnB_at (F := F') (w := w) 2 with h1 | ⟨b, q, hb, hq, h1⟩
  · omega
  · have h2 := h b q hb.1 (by omega) hq.1 hq.2
    have h3 := (mnB_le (F := F) (w := w) 2).2 b q hb.1 hb.2 hq.1 hq.2
    have h4 : F' b q < 1000000 := by omega
    unfold v3 at h2
    rcases mnB_at (F := F) (w := w) 2 with h5 | ⟨b2, q2, hb2, hq2, h5⟩
    · omega
    · have h6 := h b2 q2 hb2.1 (by omega) hq2.1 hq2.2
      have h7 := (mnB_le (F := F') (w := w) 2).2 b2 q2 hb2.1 hb2.2 hq2.1 hq2.2
      unfold v3 at h6
      omega
theorem bs_3 {c e : Int → Int} (h : TrS c e) (hA : AgL c e) (hC : CatOK c) (hE : CatOK e) {G : Int} (hG : G = 4 ∨ G = 8 ∨ G = 16) : ∀ (m : Nat) (k p s : Int), 0 ≤ k → k + m = c 0 → (0 ≤ p ∧ p ≤ 5 * k) → bsI e G m k p s = 3 * bsI c G m k p s := by
  intro m
  induction m with
  | zero =>
    intro k p s _ _ _
    show gfI p G * gcC e = 3 * (gfI p G * gcC c)
    rw [gc_3 h, Int.mul_left_comm]
  | succ m ih =>
    intro k p s h0 h1 hp
    have hk : 0 ≤ k ∧ k < c 0 := by omega
    have hl := AgL_len hA hk
    have hlr := len_rg hC hk
    have hX := hC.2.2
    unfold SetOK at hX
    have hrg := bs_rg hE hG (m + 1) k p s h0 (by rw [← hA.1]; exact h1) hp
    have hm : m ≤ 12 := by have := hC.1; omega
    have e1 : bsI e G (m + 1) k p s = mnB (fun b q => ctV e G k p s b q (bsI e G m (k + 1) (p + lenC e k + b) (sbI e G k p (p + lenC e k + b) s b q))) (mostC c k + 1).toNat 2 := by rw [hl.2]; rfl
    have e2 : bsI c G (m + 1) k p s = mnB (fun b q => ctV c G k p s b q (bsI c G m (k + 1) (p + lenC c k + b) (sbI c G k p (p + lenC c k + b) s b q))) (mostC c k + 1).toNat 2 := rfl
    rw [e1] at hrg
    rw [e1, e2]
    refine mn_3 (fun b q a1 a2 a3 a4 => ?_) (by omega)
    have hr := bs_rg hC hG m (k + 1) (p + lenC c k + b) (sbI c G k p (p + lenC c k + b) s b q) (by omega) (by omega) (by omega)
    refine ct_3 h hA hk ?_ hr.1 a1 (sa_rg hC).1 (by omega)
    rw [← hl.1, ← AgL_sb hA hk]
    exact ih (k + 1) _ _ (by omega) (by omega) (by omega)
/-- the cheapest choices are the same -/
theorem Opt_3 {c e g : Int → Int} (h : TrS c e) (hA : AgL c e) (hC : CatOK c) (hE : CatOK e) {G : Int} (hG : G = 4 ∨ G = 8 ∨ G = 16) (hO : Opt c g G (c 0)) : Opt e g G (e 0) := by
  have hN := hC.1
  have hX := hC.2.2
  unfold SetOK at hX
  have hln : ∀ i : Int, i ≤ c 0 → lnS c i = lnS e i := fun i a => sumI_c _ (fun j x y => (AgL_len hA ⟨x, by omega⟩).1)
  have hss : ∀ n : Nat, (n : Int) ≤ c 0 → ssI c g G n = ssI e g G n := by
    intro n
    induction n with
    | zero => intro _; rfl
    | succ n ih =>
      intro hn
      show sbI c G n _ _ _ _ _ = sbI e G n _ _ _ _ _
      rw [AgL_sb hA (by omega), ih (by omega), hln n (by omega), hln ((n : Int) + 1) (by omega)]
  intro j h3 h4
  have hj : 0 ≤ j ∧ j < c 0 := by rw [hA.1]; exact ⟨h3, h4⟩
  obtain ⟨h5, h6, h7⟩ := hO j hj.1 hj.2
  have hlr := len_rg hC hj
  have hlb := lnS_b hC (k := j) (by omega)
  have hbl := blS_b (c := g) hj.1 (fun i a b => (hO i a (by omega)).1.1)
  have hb3 := bs_3 h hA hC hE hG (c 0 - j).toNat j (lnS c j + blS g j) (ssI c g G j.toNat) hj.1 (by omega) (by omega)
  have hlt := bs_lt hE (p := lnS c j + blS g j) (s := ssI c g G j.toNat) hG (k := j) (by omega) (by omega)
  rw [← hA.1, hb3] at hlt
  have hct : ∀ b q : Int, 0 ≤ b → b ≤ 1 → v3 (ctB c G j (lnS c j + blS g j) (ssI c g G j.toNat) b q) (ctB e G j (lnS c j + blS g j) (ssI c g G j.toNat) b q) := by
    intro b q hb hb2
    have hr := bs_rg hC hG (c 0 - (j + 1)).toNat (j + 1) (lnS c j + blS g j + lenC c j + b) (sbI c G j (lnS c j + blS g j) (lnS c j + blS g j + lenC c j + b) (ssI c g G j.toNat) b q) (by omega) (by omega) (by omega)
    unfold ctB
    refine ct_3 h hA hj ?_ hr.1 hb (sa_rg hC).1 (by omega)
    rw [← (AgL_len hA hj).1, ← AgL_sb hA hj, ← hA.1]
    exact bs_3 h hA hC hE hG _ _ _ _ (by omega) (by omega) (by omega)
  have e2 := hss j.toNat (by omega)
  rw [← hln j (by omega), ← e2, ← hA.1, hb3, ← (AgL_len hA hj).2]
  refine ⟨h5, ?_, fun b q a1 a2 a3 a4 z => ?_⟩
  · have h8 := hct _ (g (j * 4 + 4)) h5.1.1 h5.1.2
    rw [h6] at h8
    unfold v3 at h8
    omega
  · have h8 := hct b q a1 (by omega)
    rw [z] at h8
    refine h7 b q a1 a2 a3 a4 ?_
    unfold v3 at h8
    omega
theorem ch_3 {c e g g' : Int → Int} (h : TrS c e) (hS : SmL c e) (hC : CatOK c) (hE : CatOK e) (hO : Opt c g (c (49 + 0)) (c 0)) (hO' : Opt e g' (e (49 + 0)) (e 0)) {k : Int} (hk : 0 ≤ k ∧ k < c 0) : g (k * 4 + 3) = g' (k * 4 + 3) ∧ g (k * 4 + 4) = g' (k * 4 + 4) := by
  have hA : AgL c e := ⟨hS.1, fun i a b => ⟨(hS.2.1 i a b).1, (hS.2.1 i a b).2.1⟩⟩
  have hN := hE.1
  have hX := hC.2.2
  unfold SetOK at hX
  have h1 := Opt_3 h hA hC hE hX.1 hO
  rw [h.1.1] at hO'
  have hn : (((e 0).toNat : Nat) : Int) = e 0 := by omega
  exact Opt_u (e 0).toNat (by rw [hn]; exact h1) (by rw [hn]; exact hO') k hk.1 (by rw [hn, ← hS.1]; exact hk.2)
theorem lc_3 {c e : Int → Int} (h : TrS c e) (hS : SmL c e) (hC : CatOK c) (hE : CatOK e) {sz : Int} (hz : sz = 4 ∨ sz = 8 ∨ sz = 16) : bsI (upI e (49 + 0) sz) sz (e 0).toNat 0 0 0 = 3 * bsI (upI c (49 + 0) sz) sz (c 0).toNat 0 0 0 := by
  have hN := hC.1
  have u : ∀ (f : Int → Int) (j : Int), ¬ j = 49 + 0 → upI f (49 + 0) sz j = f j := fun f j z => upI_n z
  have hT : TrS (upI c (49 + 0) sz) (upI e (49 + 0) sz) := by
    unfold TrS
    rw [upI_s (c := e) (j := 49 + 0) rfl, upI_s (c := c) (j := 49 + 0) rfl, u e (49 + 1) (by omega), u c (49 + 1) (by omega), u e (49 + 2) (by omega), u c (49 + 2) (by omega), u e (49 + 3) (by omega), u c (49 + 3) (by omega), u e (49 + 4) (by omega), u c (49 + 4) (by omega)]
    exact ⟨⟨rfl, h.1.2⟩, h.2⟩
  have hA : AgL (upI c (49 + 0) sz) (upI e (49 + 0) sz) := by
    refine ⟨by rw [u _ _ (by omega), u _ _ (by omega)]; exact hS.1, fun k a b => ?_⟩
    rw [u _ _ (by omega)] at b
    rw [u _ _ (by omega), u _ _ (by omega), u _ _ (by omega), u _ _ (by omega)]
    exact ⟨(hS.2.1 k a b).1, (hS.2.1 k a b).2.1⟩
  rw [← hS.1]
  exact bs_3 hT hA (Cat_sz hC hz) (Cat_sz hE hz) hz (c 0).toNat 0 0 0 (by omega) (by rw [u _ _ (by omega)]; omega) (by omega)
theorem lc_nn {c : Int → Int} (hC : CatOK c) {sz : Int} (hz : sz = 4 ∨ sz = 8 ∨ sz = 16) : 0 ≤ bsI (upI c (49 + 0) sz) sz (c 0).toNat 0 0 0 ∧ bsI (upI c (49 + 0) sz) sz (c 0).toNat 0 0 0 ≤ 10000 := by
  have hN := hC.1
  have h := bs_rg (Cat_sz hC hz) hz (c 0).toNat 0 0 0 (by omega) (by rw [upI_n (by omega)]; omega) (by omega)
  omega
