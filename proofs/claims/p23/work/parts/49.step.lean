/-! what a step's calls answer, and what they leave -/
theorem cn_s {e : Int → Int} {my un w : Int} (hw : 0 ≤ w ∧ w ≤ 4) : cnR e my un (10 + w) = e (49 + w) := by
  have h : w = 0 ∨ w = 1 ∨ w = 2 ∨ w = 3 ∨ w = 4 := by omega
  rcases h with rfl | rfl | rfl | rfl | rfl <;> rfl
theorem set_rg {c : Int → Int} (hC : CatOK c) {w : Int} (hw : 0 ≤ w ∧ w ≤ 4) : 0 ≤ c (49 + w) ∧ c (49 + w) ≤ 999 := by
  have hX := hC.2.2
  unfold SetOK at hX
  have h : w = 0 ∨ w = 1 ∨ w = 2 ∨ w = 3 ∨ w = 4 := by omega
  rcases h with rfl | rfl | rfl | rfl | rfl <;> omega
/-- a setting is set, as it may be -/
theorem st_ok {c c2 : Int → Int} (hC : CatOK c) {w v : Int} (hw : 0 ≤ w ∧ w ≤ 4) (hv : (w = 0 ∧ (v = 4 ∨ v = 8 ∨ v = 16)) ∨ (¬ w = 0 ∧ 0 ≤ v ∧ v ≤ 99)) (hc : c2 = if 0 ≤ stR c w v then upI c (49 + w) v else c) : c2 (49 + w) = v ∧ (∀ j : Int, ¬ j = 49 + w → c2 j = c j) ∧ stR c w v = (if c (49 + w) = v then -5 else c (49 + w)) ∧ pgC c2 (c2 0) = pgC c (c 0) := by
  have hr := set_rg hC hw
  have e : stR c w v = if c (49 + w) = v then -5 else c (49 + w) := by
    unfold stR
    rw [if_neg (fun z => z hw), if_neg (fun z => z (by omega))]
  by_cases q : c (49 + w) = v
  · rw [if_pos q] at e
    rw [e, if_neg (by omega)] at hc
    rw [hc, e, if_pos q]
    exact ⟨q, fun _ _ => rfl, rfl, rfl⟩
  · rw [if_neg q] at e
    rw [e, if_pos hr.1] at hc
    rw [hc, e, if_neg q]
    exact ⟨upI_s rfl, fun j hj => upI_n hj, rfl, (pg_up hC hw.1).2⟩
theorem TrS_c {c c2 e : Int → Int} (h : TrS c e) (hc : ∀ j : Int, 49 ≤ j → c2 j = c j) : TrS c2 e := by
  unfold TrS
  rw [hc _ (by omega), hc _ (by omega), hc _ (by omega), hc _ (by omega), hc _ (by omega)]
  exact h
theorem ad_ok {c c2 : Int → Int} (hC : CatOK c) (h8 : c 0 ≤ 8) {t p : Int} (ht : (1 ≤ t ∧ t ≤ 3) ∧ (0 ≤ p ∧ p ≤ 2)) (hc : c2 = if 0 ≤ adR c t p then appL c t p 0 0 else c) : adR c t p = c 0 ∧ pgC c2 (c2 0) = pgC c (c 0) + t + bI (¬ p = 0) ∧ blC c2 = blC c ∧ ∀ j : Int, 49 ≤ j → c2 j = c j := by
  have hN := hC.1
  have e : adR c t p = c 0 := by
    unfold adR
    rw [if_neg (fun z => z ht), if_neg (by omega)]
  rw [e, if_pos hN.1] at hc
  have h := pg_ap hC (t := t) (p := p) (by omega)
  rw [hc]
  refine ⟨e, h.2.1, h.2.2, fun j hj => ?_⟩
  unfold appL
  rw [if_pos (by omega), upI_n (by omega), put_n (by omega)]
theorem rm_no {c c2 : Int → Int} {k : Int} (hk : ¬ (0 ≤ k ∧ k < c 0)) (hc : c2 = if 0 ≤ rmR c k then rmC c k else c) : rmR c k = -1 ∧ c2 = c := by
  have e : rmR c k = -1 := by unfold rmR; rw [if_pos hk]
  rw [e, if_neg (by omega)] at hc
  exact ⟨e, hc⟩
theorem rm_ok {c c2 : Int → Int} (hC : CatOK c) {k : Int} (hk : 0 ≤ k ∧ k < c 0) (hc : c2 = if 0 ≤ rmR c k then rmC c k else c) : rmR c k = c 0 - 1 ∧ pgC c2 (c2 0) = pgC c (c 0) - itsC c k ∧ c2 0 = c 0 - 1 ∧ ∀ j : Int, 49 ≤ j → c2 j = c j := by
  have hN := hC.1
  have e : rmR c k = c 0 - 1 := by unfold rmR; rw [if_neg (fun z => z hk)]
  rw [e, if_pos (by omega)] at hc
  rw [hc]
  exact ⟨e, pg_rm hC hk, upI_s rfl, fun j hj => by unfold rmC; rw [upI_n (by omega), sh_n (by omega)]⟩
theorem ch_no {c c2 : Int → Int} {k t p : Int} (hk : ¬ (0 ≤ k ∧ k < c 0)) (hc : c2 = if 0 ≤ chR c k t p then chC c k t p else c) : chR c k t p = -1 ∧ c2 = c := by
  have e : chR c k t p = -1 := by unfold chR; rw [if_pos hk]
  rw [e, if_neg (by omega)] at hc
  exact ⟨e, hc⟩
theorem ch_ok {c c2 : Int → Int} (hC : CatOK c) {k t p : Int} (hk : 0 ≤ k ∧ k < c 0) (ht : (1 ≤ t ∧ t ≤ 3) ∧ (0 ≤ p ∧ p ≤ 2)) (hc : c2 = if 0 ≤ chR c k t p then chC c k t p else c) : (c2 0 = c 0 ∧ c2 (k * 4 + 1) = t ∧ c2 (k * 4 + 2) = p ∧ blC c2 = blC c ∧ c2 (k * 4 + 4) ≤ t) ∧ ((chR c k t p = -5 ∧ pgC c2 (c2 0) = pgC c (c 0)) ∨ (0 ≤ chR c k t p ∧ chR c k t p ≤ 60 ∧ chR c k t p = pgC c2 (c2 0))) ∧ ∀ j : Int, 49 ≤ j → c2 j = c j := by
  have hL := lot_f hC hk
  have hN := hC.1
  unfold LotOK at hL
  by_cases q : c (k * 4 + 1) = t ∧ c (k * 4 + 2) = p
  · have e : chR c k t p = -5 := by unfold chR; rw [if_neg (fun z => z hk), if_neg (fun z => z ht), if_pos q]
    rw [e, if_neg (by omega)] at hc
    rw [hc]
    exact ⟨⟨rfl, q.1, q.2, rfl, by omega⟩, Or.inl ⟨e, rfl⟩, fun _ _ => rfl⟩
  · have e : chR c k t p = pgC (chC c k t p) (chC c k t p 0) := by unfold chR; rw [if_neg (fun z => z hk), if_neg (fun z => z ht), if_neg q]
    have hn := pg_nn (Cat_ch hC hk ht)
    have h := ch_at hC (t := t) (p := p) hk
    rw [e, if_pos hn.1] at hc
    rw [hc]
    refine ⟨⟨h.1, h.2.1, h.2.2.1, h.2.2.2.1, ?_⟩, Or.inr ⟨by omega, by omega, e⟩, fun j hj => put_n (by omega)⟩
    rw [h.2.2.2.2]
    split <;> omega
theorem mv_no {c c2 : Int → Int} {a b : Int} (hk : ¬ ((0 ≤ a ∧ a < c 0) ∧ (0 ≤ b ∧ b < c 0))) (hc : c2 = if 0 ≤ mvR c a b then shL c a b else c) : mvR c a b = -1 ∧ c2 = c := by
  have e : mvR c a b = -1 := by unfold mvR; rw [if_pos hk]
  rw [e, if_neg (by omega)] at hc
  exact ⟨e, hc⟩
theorem mv_ok {c c2 : Int → Int} (hC : CatOK c) {a b : Int} (ha : 0 ≤ a ∧ a < c 0) (hb : 0 ≤ b ∧ b < c 0) (hc : c2 = if 0 ≤ mvR c a b then shL c a b else c) : (a = b → mvR c a b = -5) ∧ (¬ a = b → 0 ≤ mvR c a b ∧ mvR c a b = csC c2) ∧ (c2 0 = c 0 ∧ pgC c2 (c2 0) = pgC c (c 0) ∧ blC c2 = blC c) ∧ ∀ j : Int, 49 ≤ j → c2 j = c j := by
  have hN := hC.1
  by_cases q : a = b
  · have e : mvR c a b = -5 := by unfold mvR; rw [if_neg (fun z => z ⟨ha, hb⟩), if_pos q]
    rw [e, if_neg (by omega)] at hc
    rw [hc]
    exact ⟨fun _ => e, fun z => absurd q z, ⟨rfl, rfl, rfl⟩, fun _ _ => rfl⟩
  · have e : mvR c a b = csC (shL c a b) := by unfold mvR; rw [if_neg (fun z => z ⟨ha, hb⟩), if_neg q]
    have hn := cs_nn (Cat_sh hC ha hb)
    have h := pg_sh hC ha hb
    rw [e, if_pos hn.1] at hc
    rw [hc]
    exact ⟨fun z => absurd z q, fun _ => ⟨by omega, e⟩, ⟨sh_n (by omega), h.1, h.2⟩, fun j hj => sh_n (by omega)⟩
theorem co_no {c c2 : Int → Int} {k b q : Int} (hk : ¬ (0 ≤ k ∧ k < c 0)) (hc : c2 = if 0 ≤ coR c k b q then choL c k b q else c) : coR c k b q = -1 ∧ c2 = c := by
  have e : coR c k b q = -1 := by unfold coR; rw [if_pos hk]
  rw [e, if_neg (by omega)] at hc
  exact ⟨e, hc⟩
theorem co_ok {c c2 : Int → Int} (hC : CatOK c) {k b q : Int} (hk : 0 ≤ k ∧ k < c 0) (hb : b = 0 ∨ b = 1) (hq : 0 ≤ q ∧ q ≤ mostC c k) (hc : c2 = if 0 ≤ coR c k b q then choL c k b q else c) : (coR c k b q = -5 ∨ (0 ≤ coR c k b q ∧ coR c k b q = csC (choL c k b q))) ∧ c2 = choL c k b q ∧ (c2 0 = c 0 ∧ c2 (k * 4 + 3) = b) ∧ ∀ j : Int, 49 ≤ j → c2 j = c j := by
  have hN := hC.1
  by_cases r : c (k * 4 + 3) = b ∧ c (k * 4 + 4) = q
  · have e : coR c k b q = -5 := by unfold coR; rw [if_neg (fun z => z hk), if_neg (fun z => z hq), if_pos r]
    rw [e, if_neg (by omega)] at hc
    rw [hc]
    exact ⟨Or.inl e, (cho_id r.1 r.2).symm, ⟨rfl, r.1⟩, fun _ _ => rfl⟩
  · have e : coR c k b q = csC (choL c k b q) := by unfold coR; rw [if_neg (fun z => z hk), if_neg (fun z => z hq), if_neg r]
    have hn := cs_nn (Cat_cho hC hk (b := b) (q := q) (by omega) hq)
    rw [e, if_pos hn.1] at hc
    rw [hc]
    exact ⟨Or.inr ⟨by omega, e⟩, rfl, ⟨cho_n (by omega), cho_b rfl⟩, fun j hj => cho_n (by omega)⟩
theorem plan_TrS {c g c2 e : Int → Int} (hA : Agr g c) (hS : Same g c2) (h : TrS c e) : TrS c2 e := by
  have k : ∀ j : Int, 0 ≤ j → j < 5 → c2 (49 + j) = c (49 + j) := fun j a b => (hS.2.2 j a b).symm.trans (hA.2.2 j a b)
  unfold TrS
  rw [k 0 (by omega) (by omega), k 1 (by omega) (by omega), k 2 (by omega) (by omega), k 3 (by omega) (by omega), k 4 (by omega) (by omega)]
  exact h
