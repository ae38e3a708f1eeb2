/-! a catalogue's text: how it is typed, how it is read -/
def eL (c : Int → Int) (j : Int) : Int := 1 + (if c (j * 4 + 2) = 0 then 0 else 3) + c (j * 4 + 3)
def offC (c : Int → Int) (j : Int) : Int := sumI j.toNat (fun i => eL c i + 1)
theorem eL_rg {c : Int → Int} (hC : CatOK c) {j : Int} (hj : 0 ≤ j ∧ j < c 0) : 1 ≤ eL c j ∧ eL c j ≤ 5 ∧ eL c j = 1 + (if c (j * 4 + 2) = 0 then 0 else 3) + c (j * 4 + 3) := by
  have hL := lot_f hC hj
  unfold LotOK at hL
  refine ⟨?_, ?_, rfl⟩ <;> (unfold eL; split <;> omega)
theorem off_s {c : Int → Int} {j : Int} (hj : 0 ≤ j) : offC c (j + 1) = offC c j + eL c j + 1 := by
  have h := sumI_s (fun i => eL c i + 1) hj
  unfold offC
  rw [h]
  omega
theorem off_b {c : Int → Int} (hC : CatOK c) {j : Int} (hj : 0 ≤ j ∧ j ≤ c 0) : 2 * j ≤ offC c j ∧ offC c j ≤ 6 * j := by
  have h := sumI_b (f := fun i => eL c i + 1) (lo := 2) (hi := 6) j.toNat (fun i a b => by have := eL_rg hC (j := i) (by omega); omega)
  unfold offC
  omega
theorem off_le {c : Int → Int} (hC : CatOK c) {j k : Int} (hj : 0 ≤ j) (hk : j ≤ k) (hn : k ≤ c 0) : offC c j ≤ offC c k := sumI_le hj hk (fun i a b => by have := eL_rg hC (j := i) (by omega); omega)
/-- the place of a lot in the text is as it was typed -/
def TxL (c x : Int → Int) (j : Int) : Prop := (0 < j → x (offC c j - 1) = 44) ∧ x (offC c j) = 48 + c (j * 4 + 1) ∧ (¬ c (j * 4 + 2) = 0 → x (offC c j + 1) = 97 + c (j * 4 + 2) ∧ x (offC c j + 2) = 64 ∧ x (offC c j + 3) = 48 + c (j * 4 + 4)) ∧ (¬ c (j * 4 + 3) = 0 → x (offC c j + eL c j - 1) = 43)
def TXs (c x : Int → Int) (k : Int) : Prop := ∀ j : Int, 0 ≤ j → j < k → TxL c x j
theorem TXs_up {c x : Int → Int} (hC : CatOK c) {k n v : Int} (h : TXs c x k) (hk : k ≤ c 0) (hn : 0 < k → offC c k - 1 ≤ n) : TXs c (upI x n v) k := by
  intro j h1 h2
  have hr := eL_rg hC (j := j) (by omega)
  have hs := off_s (c := c) h1
  have hl := off_le hC (j := j + 1) (k := k) (by omega) (by omega) hk
  have hn' := hn (by omega)
  obtain ⟨a1, a2, a3, a4⟩ := h j h1 h2
  refine ⟨fun z => by rw [upI_n (by omega)]; exact a1 z, by rw [upI_n (by omega)]; exact a2, fun z => ?_, fun z => by rw [upI_n (by omega)]; exact a4 z⟩
  have hL := lot_f hC (k := j) (by omega)
  unfold LotOK at hL
  rw [if_neg z] at hr
  rw [upI_n (by omega), upI_n (by omega), upI_n (by omega)]
  exact a3 z
/-- ahead of a lot's number; behind it; behind its plate -/
def P0 (c x : Int → Int) (k n : Int) : Prop := TXs c x k ∧ n = offC c k ∧ (0 < k → x (offC c k - 1) = 44)
def P1 (c x : Int → Int) (k n : Int) : Prop := TXs c x k ∧ n = offC c k + 1 ∧ (0 < k → x (offC c k - 1) = 44) ∧ x (offC c k) = 48 + c (k * 4 + 1)
def P2 (c x : Int → Int) (k n : Int) : Prop := TXs c x k ∧ n = offC c k + eL c k - c (k * 4 + 3) ∧ (0 < k → x (offC c k - 1) = 44) ∧ x (offC c k) = 48 + c (k * 4 + 1) ∧ (¬ c (k * 4 + 2) = 0 → x (offC c k + 1) = 97 + c (k * 4 + 2) ∧ x (offC c k + 2) = 64 ∧ x (offC c k + 3) = 48 + c (k * 4 + 4))
def P3 (c x : Int → Int) (k n : Int) : Prop := TXs c x k ∧ n = (if k = 0 then 0 else offC c k - 1)
theorem P3_0 (c x : Int → Int) : P3 c x 0 0 := ⟨fun j a b => by omega, rfl⟩
theorem P3_n {c x : Int → Int} (hC : CatOK c) {k n : Int} (h : P3 c x k n) (hk : 0 ≤ k ∧ k ≤ c 0) (h9 : c 0 ≤ 9) : 0 ≤ n ∧ n ≤ 53 := by
  have hb := off_b hC hk
  have h2 := h.2
  split at h2 <;> omega
theorem P0_a {c x : Int → Int} {k n : Int} (h : P3 c x k n) (hk : k = 0) : P0 c x k n := by
  subst hk
  exact ⟨h.1, by rw [h.2, if_pos rfl]; rfl, fun z => by omega⟩
theorem P0_b {c x : Int → Int} (hC : CatOK c) {k n : Int} (h : P3 c x k n) (hk : 0 < k ∧ k ≤ c 0) : P0 c (upI x n 44) k (n + 1) := by
  have h2 := h.2
  rw [if_neg (by omega)] at h2
  exact ⟨TXs_up hC h.1 hk.2 (fun _ => by omega), by omega, fun _ => upI_s (by omega)⟩
theorem P1_of {c x : Int → Int} (hC : CatOK c) {k n v : Int} (h : P0 c x k n) (hk : 0 ≤ k ∧ k < c 0) (hv : v = 48 + c (k * 4 + 1)) : P1 c (upI x n v) k (n + 1) := by
  have h2 := h.2.1
  exact ⟨TXs_up hC h.1 (by omega) (fun _ => by omega), by omega, fun z => by rw [upI_n (by omega)]; exact h.2.2 z, by rw [upI_s (by omega)]; exact hv⟩
theorem P2_a {c x : Int → Int} {k n : Int} (h : P1 c x k n) (hp : c (k * 4 + 2) = 0) : P2 c x k n := by
  refine ⟨h.1, ?_, h.2.2.1, h.2.2.2, fun z => absurd hp z⟩
  have h2 := h.2.1
  unfold eL
  rw [if_pos hp]
  omega
theorem P2_b {c x : Int → Int} (hC : CatOK c) {k n v w : Int} (h : P1 c x k n) (hk : 0 ≤ k ∧ k < c 0) (hp : ¬ c (k * 4 + 2) = 0) (hv : v = 97 + c (k * 4 + 2)) (hw : w = 48 + c (k * 4 + 4)) : P2 c (upI (upI (upI x n v) (n + 1) 64) (n + 1 + 1) w) k (n + 1 + 1 + 1) := by
  obtain ⟨h1, h2, h3, h4⟩ := h
  refine ⟨TXs_up hC (TXs_up hC (TXs_up hC h1 (by omega) (fun _ => by omega)) (by omega) (fun _ => by omega)) (by omega) (fun _ => by omega), ?_, fun z => ?_, ?_, fun z => ⟨?_, ?_, ?_⟩⟩
  · unfold eL
    rw [if_neg hp]
    omega
  · rw [upI_n (by omega), upI_n (by omega), upI_n (by omega)]; exact h3 z
  · rw [upI_n (by omega), upI_n (by omega), upI_n (by omega)]; exact h4
  · rw [upI_n (by omega), upI_n (by omega), upI_s (by omega)]; exact hv
  · rw [upI_n (by omega), upI_s (by omega)]
  · rw [upI_s (by omega)]; exact hw
theorem P3_of {c x : Int → Int} {k n : Int} (hk : 0 ≤ k) (h : P2 c x k n) (hn : n = offC c k + eL c k) (hb : ¬ c (k * 4 + 3) = 0 → x (offC c k + eL c k - 1) = 43) : P3 c x (k + 1) n := by
  refine ⟨fun j a b => ?_, ?_⟩
  · by_cases e : j = k
    · rw [e]
      exact ⟨h.2.2.1, h.2.2.2.1, h.2.2.2.2, hb⟩
    · exact h.1 j a (by omega)
  · rw [if_neg (by omega), off_s hk]
    omega
theorem P3_a {c x : Int → Int} {k n : Int} (hk : 0 ≤ k) (h : P2 c x k n) (hb : c (k * 4 + 3) = 0) : P3 c x (k + 1) n := P3_of hk h (by have := h.2.1; omega) (fun z => absurd hb z)
theorem P3_b {c x : Int → Int} (hC : CatOK c) {k n : Int} (hk : 0 ≤ k ∧ k < c 0) (h : P2 c x k n) (hb : ¬ c (k * 4 + 3) = 0) : P3 c (upI x n 43) (k + 1) (n + 1) := by
  have hL := lot_f hC hk
  have hr := eL_rg hC hk
  unfold LotOK at hL
  obtain ⟨h1, h2, h3, h4, h5⟩ := h
  have hP : P2 c (upI x n 43) k n := by
    refine ⟨TXs_up hC h1 (by omega) (fun _ => by omega), h2, fun z => by rw [upI_n (by omega)]; exact h3 z, by rw [upI_n (by omega)]; exact h4, fun z => ?_⟩
    have h6 := h5 z
    rw [if_neg z] at hr
    rw [upI_n (by omega), upI_n (by omega), upI_n (by omega)]
    exact h6
  refine ⟨fun j a b => ?_, ?_⟩
  · by_cases e : j = k
    · rw [e]
      exact ⟨hP.2.2.1, hP.2.2.2.1, hP.2.2.2.2, fun _ => upI_s (by omega)⟩
    · exact hP.1 j a (by omega)
  · rw [if_neg (by omega), off_s hk.1]
    omega
theorem chI_in {x : Int → Int} {n i : Int} (h : 0 ≤ i ∧ i < n) : chI x n i = x i := if_pos h
theorem chI_out {x : Int → Int} {n i : Int} (h : n ≤ i) : chI x n i = -1 := if_neg (by omega)
/-- a lot is read as it was typed -/
theorem rd_1 {c x : Int → Int} (hC : CatOK c) {n : Int} (hT : TXs c x (c 0)) (hn : n = offC c (c 0) - 1) {j : Int} (hj : 0 ≤ j ∧ j < c 0) : rK x n (offC c j) = 1 ∧ rE x n (offC c j) = offC c j + eL c j ∧ (rT x n (offC c j) = c (j * 4 + 1) ∧ rP x n (offC c j) = c (j * 4 + 2)) ∧ rB x n (offC c j) = c (j * 4 + 3) ∧ rV x n (offC c j) = c (j * 4 + 4) := by
  have hL := lot_f hC hj
  have hr := eL_rg hC hj
  have hs := off_s (c := c) hj.1
  have hl := off_le hC (j := j + 1) (k := c 0) (by omega) (by omega) (by omega)
  have hb := off_b hC (j := j) (by omega)
  unfold LotOK at hL
  obtain ⟨-, a2, a3, a4⟩ := hT j hj.1 hj.2
  -- the sign behind the lot
  have hz : chI x n (offC c j + eL c j) = 44 ∨ chI x n (offC c j + eL c j) = -1 := by
    by_cases e : j + 1 = c 0
    · exact Or.inr (chI_out (by rw [e] at hs; omega))
    · have hj2 := off_s (c := c) (j := j + 1) (by omega)
      have hr2 := eL_rg hC (j := j + 1) (by omega)
      have hl2 := off_le hC (j := j + 1 + 1) (k := c 0) (by omega) (by omega) (by omega)
      have h5 := (hT (j + 1) (by omega) (by omega)).1 (by omega)
      rw [chI_in (by omega), show offC c j + eL c j = offC c (j + 1) - 1 by omega]
      exact Or.inl h5
  have eT : rT x n (offC c j) = c (j * 4 + 1) := by
    unfold rT
    rw [chI_in (by omega), a2]
    omega
  -- the sign of a blank, or what is behind
  have hB : bI (chI x n (offC c j + eL c j - c (j * 4 + 3)) = 43) = c (j * 4 + 3) := by
    by_cases q : c (j * 4 + 3) = 0
    · rw [q, show offC c j + eL c j - 0 = offC c j + eL c j by omega]
      exact bI_f (by omega)
    · have h6 := a4 q
      have h7 : c (j * 4 + 3) = 1 := by omega
      rw [h7, chI_in (by omega), h6]
      exact bI_t rfl
  by_cases p : c (j * 4 + 2) = 0
  · rw [if_pos p] at hr
    have eP : rP x n (offC c j) = 0 := by
      have h8 : ¬ chI x n (offC c j + 1) = 98 ∧ ¬ chI x n (offC c j + 1) = 99 := by
        by_cases q : c (j * 4 + 3) = 0
        · rw [show offC c j + 1 = offC c j + eL c j by omega]
          omega
        · have h6 := a4 q
          rw [chI_in (by omega), show offC c j + 1 = offC c j + eL c j - 1 by omega, h6]
          omega
      unfold rP
      rw [if_neg h8.1, if_neg h8.2]
    have eA : rA x n (offC c j) = offC c j + 1 := by unfold rA; rw [if_pos eP]
    have eH : rH x n (offC c j) = 0 := by unfold rH; rw [if_pos eP]
    have eV : rV x n (offC c j) = 0 := by unfold rV; rw [if_pos eH]
    have eC : rC x n (offC c j) = offC c j + eL c j - c (j * 4 + 3) := by unfold rC; rw [if_pos eH, eA]; omega
    have eB : rB x n (offC c j) = c (j * 4 + 3) := by unfold rB; rw [eC]; exact hB
    refine ⟨?_, ?_, ⟨eT, by rw [eP, p]⟩, eB, by rw [eV]; omega⟩
    · unfold rK
      rw [eT, eV]
      exact bI_t (by omega)
    · unfold rE
      rw [eC, eB]
      omega
  · obtain ⟨b1, b2, b3⟩ := a3 p
    rw [if_neg p] at hr
    have eP : rP x n (offC c j) = c (j * 4 + 2) := by
      unfold rP
      rw [chI_in (by omega), b1]
      have h8 : c (j * 4 + 2) = 1 ∨ c (j * 4 + 2) = 2 := by omega
      rcases h8 with h8 | h8 <;> rw [h8] <;> rfl
    have eA : rA x n (offC c j) = offC c j + 1 + 1 := by unfold rA; rw [if_neg (by omega)]
    have eH : rH x n (offC c j) = 1 := by
      unfold rH
      rw [if_neg (by omega), eA, chI_in (by omega), show offC c j + 1 + 1 = offC c j + 2 by omega, b2]
      exact bI_t rfl
    have eV : rV x n (offC c j) = c (j * 4 + 4) := by
      unfold rV
      rw [if_neg (by omega), eA, chI_in (by omega), show offC c j + 1 + 1 + 1 = offC c j + 3 by omega, b3]
      omega
    have eC : rC x n (offC c j) = offC c j + eL c j - c (j * 4 + 3) := by unfold rC; rw [if_neg (by omega), eA]; omega
    have eB : rB x n (offC c j) = c (j * 4 + 3) := by unfold rB; rw [eC]; exact hB
    refine ⟨?_, ?_, ⟨eT, eP⟩, eB, eV⟩
    · unfold rK
      rw [eT, eV]
      exact bI_t (by omega)
    · unfold rE
      rw [eC, eB]
      omega
/-- the first k lots of f are those of c -/
def LotsK (c f : Int → Int) (k : Int) : Prop := f 0 = k ∧ ∀ i : Int, 0 ≤ i → i < k → c (i * 4 + 1) = f (i * 4 + 1) ∧ c (i * 4 + 2) = f (i * 4 + 2) ∧ c (i * 4 + 3) = f (i * 4 + 3) ∧ c (i * 4 + 4) = f (i * 4 + 4)
theorem rL_K {c f x : Int → Int} (hC : CatOK c) {n : Int} (hT : TXs c x (c 0)) (hn : n = offC c (c 0) - 1) {j : Int} (hj : 0 ≤ j ∧ j < c 0) (h : LotsK c f j) : LotsK c (rL x n (offC c j) f) (j + 1) := by
  obtain ⟨k1, -, ⟨k3, k4⟩, k5, k6⟩ := rd_1 hC hT hn hj
  have hN := hC.1
  have e : rL x n (offC c j) f = upI (putL f j (c (j * 4 + 1)) (c (j * 4 + 2)) (c (j * 4 + 3)) (c (j * 4 + 4))) 0 (j + 1) := by
    unfold rL
    rw [if_neg (by omega), k3, k4, k5, k6]
    unfold appL
    rw [h.1, if_pos (by omega)]
  rw [e]
  refine ⟨upI_s rfl, fun i a b => ?_⟩
  rw [upI_n (by omega), upI_n (by omega), upI_n (by omega), upI_n (by omega)]
  by_cases q : i = j
  · rw [q, put_at.1, put_at.2.1, put_at.2.2.1, put_at.2.2.2]
    exact ⟨rfl, rfl, rfl, rfl⟩
  · rw [put_n (by omega), put_n (by omega), put_n (by omega), put_n (by omega)]
    exact h.2 i a (by omega)
theorem rd_all {c x : Int → Int} (hC : CatOK c) {n : Int} (hT : TXs c x (c 0)) (hn : n = offC c (c 0) - 1) : ∀ (m : Nat) (j : Int), 0 ≤ j → j < c 0 → c 0 ≤ j + m → flF x n m (offC c j) = -1 ∧ flK x n m (offC c j) j = c 0 ∧ ∀ f : Int → Int, LotsK c f j → LotsK c (flC x n m (offC c j) f) (c 0) := by
  intro m
  induction m with
  | zero => intro j h0 h1 h2; omega
  | succ m ih =>
    intro j h0 h1 h2
    have hr := rd_1 hC hT hn ⟨h0, h1⟩
    have hs := off_s (c := c) h0
    have eF : flF x n (m + 1) (offC c j) = if rK x n (offC c j) = 0 then rF x n (offC c j) else if rE x n (offC c j) = n then -1 else if chI x n (rE x n (offC c j)) = 44 then flF x n m (rE x n (offC c j) + 1) else rE x n (offC c j) := rfl
    have eK : flK x n (m + 1) (offC c j) j = if rK x n (offC c j) = 0 then j else if rE x n (offC c j) = n then j + 1 else if chI x n (rE x n (offC c j)) = 44 then flK x n m (rE x n (offC c j) + 1) (j + 1) else j + 1 := rfl
    have eC : ∀ f : Int → Int, flC x n (m + 1) (offC c j) f = if rK x n (offC c j) = 0 then f else if rE x n (offC c j) = n then rL x n (offC c j) f else if chI x n (rE x n (offC c j)) = 44 then flC x n m (rE x n (offC c j) + 1) (rL x n (offC c j) f) else rL x n (offC c j) f := fun f => rfl
    have hk0 : ¬ rK x n (offC c j) = 0 := by omega
    by_cases e : j + 1 = c 0
    · have hE : rE x n (offC c j) = n := by rw [hr.2.1, hn, ← e, hs]; omega
      rw [eF, eK, if_neg hk0, if_pos hE, if_neg hk0, if_pos hE]
      refine ⟨rfl, e, fun f hf => ?_⟩
      rw [eC, if_neg hk0, if_pos hE, ← e]
      exact rL_K hC hT hn ⟨h0, h1⟩ hf
    · have hr2 := eL_rg hC (j := j + 1) (by omega)
      have hs2 := off_s (c := c) (j := j + 1) (by omega)
      have hl := off_le hC (j := j + 1 + 1) (k := c 0) (by omega) (by omega) (by omega)
      have hb := off_b hC (j := j) (by omega)
      have hr1 := eL_rg hC (j := j) (by omega)
      have hE : ¬ rE x n (offC c j) = n := by rw [hr.2.1]; omega
      have hc : chI x n (rE x n (offC c j)) = 44 := by
        rw [hr.2.1, chI_in (by omega), show offC c j + eL c j = offC c (j + 1) - 1 by omega]
        exact (hT (j + 1) (by omega) (by omega)).1 (by omega)
      have hnx : rE x n (offC c j) + 1 = offC c (j + 1) := by rw [hr.2.1, hs]
      have h3 := ih (j + 1) (by omega) (by omega) (by omega)
      rw [eF, eK, if_neg hk0, if_neg hE, if_pos hc, if_neg hk0, if_neg hE, if_pos hc, hnx]
      refine ⟨h3.1, h3.2.1, fun f hf => ?_⟩
      rw [eC, if_neg hk0, if_neg hE, if_pos hc, hnx]
      exact h3.2.2 _ (rL_K hC hT hn ⟨h0, h1⟩ hf)
/-- what load() makes of the text -/
theorem rd_end {c x : Int → Int} (hC : CatOK c) (h9 : c 0 ≤ 9) {n : Int} (h0 : 0 < c 0) (h : P3 c x (c 0) n) : flF x n 61 0 = -1 ∧ flK x n 61 0 0 ≤ 12 ∧ ∀ rc : Int → Int, LotsK c (flC x n 61 0 (upI rc 0 0)) (c 0) := by
  have hn := h.2
  rw [if_neg (by omega)] at hn
  have h1 := rd_all hC h.1 hn 61 0 (by omega) h0 (by omega)
  have e0 : offC c 0 = 0 := rfl
  rw [e0] at h1
  refine ⟨h1.1, by omega, fun rc => h1.2.2 _ ⟨upI_s rfl, fun i a b => by omega⟩⟩
theorem rd_SmL {c e f : Int → Int} (h : LotsK c f (c 0)) (hT : TrS c e) (h9 : 0 ≤ c 0 ∧ c 0 ≤ 12) : SmL c (cpI e f 0 0 49) ∧ TrS c (cpI e f 0 0 49) := by
  refine ⟨⟨by rw [cp_lo (by omega)]; exact h.1.symm, fun k a b => ?_, by rw [cp_hi (by omega)]; exact hT.1.1.symm⟩, ?_⟩
  · rw [cp_lo (by omega), cp_lo (by omega), cp_lo (by omega), cp_lo (by omega)]
    exact h.2 k a b
  · unfold TrS
    rw [cp_hi (by omega), cp_hi (by omega), cp_hi (by omega), cp_hi (by omega), cp_hi (by omega)]
    exact hT
theorem TrS_rm {c e : Int → Int} (hT : TrS c e) {k : Int} (hn : 0 ≤ e 0 ∧ e 0 ≤ 12) : TrS c (rmC e k) := by
  have u : ∀ j : Int, 49 ≤ j → rmC e k j = e j := fun j hj => by unfold rmC; rw [upI_n (by omega), sh_n (by omega)]
  unfold TrS
  rw [u _ (by omega), u _ (by omega), u _ (by omega), u _ (by omega), u _ (by omega)]
  exact hT
