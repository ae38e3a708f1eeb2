/-! a contract over a larger world; an object as a whole: its addresses A, its ints I, its rows C -/
theorem fq_imp {l : Launch} {y : MethodName} {ws : List Cond} {rm : Room} {Pc Pc' : Array Value → State → Prop} {Qc Qc' : Array Value → State → Outcome → State → Prop} {mc ms : Nat} {free free' : Addr → Prop} (h : Met l y ws rm Pc Qc mc ms free) (hP : ∀ a s, Pc' a s → Pc a s) (hQ : ∀ a s o t, Pc' a s → Qc a s o t → Qc' a s o t) (hf : ∀ q, free q → free' q) : Met l y ws rm Pc' Qc' mc ms free' := by
  intro p e ha hc hk s m args below hfr happ hP' hK
  obtain ⟨n, o, h1, h2, h3, h4, L, h5, h6⟩ := h p e ha hc hk s m args below hfr happ (hP _ _ hP') hK
  exact ⟨n, o, h1, h2, h3, hQ _ _ _ _ hP' h4, L, h5, fun q hq => hf _ (h6 q hq)⟩
/-- cells written, by a mask -/
def fp_pos : List Bool → Nat → List Nat
  | [], _ => []
  | b :: m, k => match b with
    | false => fp_pos m (k + 1)
    | true => k :: fp_pos m (k + 1)
def fp_mrg : List Bool → va_W → va_W → va_W
  | [], ws, _ => ws
  | b :: m, ws, w => match ws with
    | [] => []
    | z :: ws => match b with
      | false => z :: fp_mrg m ws w
      | true => match w with
        | [] => z :: ws
        | q :: w => q :: fp_mrg m ws w
theorem fp_mrg_sets : ∀ (mk : List Bool) (pre ws w : va_W), w.length = (fp_pos mk pre.length).length → mk.length ≤ ws.length → fp_sets (pre ++ ws) (fp_pos mk pre.length) w = pre ++ fp_mrg mk ws w := by
  intro mk
  induction mk with
  | nil =>
    intro pre ws w _ _
    cases w <;> rfl
  | cons b mk ih =>
    intro pre ws w h1 h2
    cases ws with
    | nil => simp at h2
    | cons z ws =>
      have h3 : mk.length ≤ ws.length := by simpa using h2
      cases b with
      | false =>
        have h4 := ih (pre ++ [z]) ws w (by simpa [fp_pos] using h1) h3
        simpa [fp_pos, fp_mrg] using h4
      | true =>
        cases w with
        | nil => simp [fp_pos] at h1
        | cons q w =>
          have h4 := ih (pre ++ [q]) ws w (by simpa [fp_pos] using h1) h3
          have h5 : (pre ++ z :: ws).set pre.length q = (pre ++ [q]) ++ ws := by simp
          show fp_sets ((pre ++ z :: ws).set pre.length q) (fp_pos mk (pre.length + 1)) w = pre ++ q :: fp_mrg mk ws w
          rw [h5]
          simpa using h4
theorem fq_MW {l : Launch} {y : MethodName} {ws : List Cond} {rm : Room} {D : va_G} {cyI : ClassId} {wc wsC : va_W} {av : List Value} {S S' : Type} {post : S → Prop} {ret : S → Option Value} {wW : S → va_W} {post' : S' → Prop} {ret' : S' → Option Value} {wW' : S' → va_W} (hM : fp_MW l y ws rm D cyI wc av post ret wW) (is : List Nat) (mk : List Bool) (hmk : fp_pos mk 0 = is) (hmk2 : mk.length ≤ wsC.length) (hn : va_nd is = true) (hs : is.map (fun i => wsC[i]?) = wc.map some) (hadr : ∀ u, (wW u).map Prod.fst = wc.map Prod.fst)
    (g : S → S') (hp : ∀ u, post u → post' (g u)) (hr : ∀ u, post u → ret' (g u) = ret u) (hw : ∀ u, post u → wW' (g u) = fp_mrg mk wsC (wW u)) : fp_MW l y ws rm D cyI wsC av post' ret' wW' := by
  have hsub : ∀ q, fp_A wc q → fp_A wsC q := by
    rintro q ⟨k, e0, hk⟩
    obtain ⟨i, -, hi⟩ := fp_at hs hk
    exact ⟨i, e0, hi⟩
  have key : ∀ u, fp_sets wsC is (wW u) = fp_mrg mk wsC (wW u) := fun u => by
    have h1 : (wW u).length = wc.length := by have := congrArg List.length (hadr u); simpa using this
    have h2 : is.length = wc.length := by have := congrArg List.length hs; simpa using this
    have h3 := fp_mrg_sets mk [] wsC (wW u) (by show (wW u).length = (fp_pos mk 0).length; rw [hmk, h1, h2]) hmk2
    rw [← hmk]
    exact h3
  refine fq_imp hM (fun a s h => ⟨h.1, fp_sub h.2.1 hs, h.2.2.1, h.2.2.2.sub is hn hs⟩) (fun a s o t h q => ?_) hsub
  obtain ⟨⟨u, hu, ho, hP⟩, hz, hk⟩ := q
  exact ⟨⟨g u, hp u hu, by rw [hr u hu]; exact ho, by rw [hw u hu, ← key]; exact fp_sets_P h.2.1 (fp_self h.2.2.2) hs (hadr u) hP hk⟩, hz, fun q h1 h2 => hk q h1 (fun z => h2 (hsub q z))⟩
/-- one block of a world -/
theorem fq_get : ∀ (X P Y : va_W), (List.range' P.length X.length).map (fun i => (P ++ (X ++ Y))[i]?) = X.map some := by
  intro X
  induction X with
  | nil => intro P Y; rfl
  | cons x X ih =>
    intro P Y
    have h := ih (P ++ [x]) Y
    have e : P ++ [x] ++ (X ++ Y) = P ++ (x :: X ++ Y) := by simp
    rw [e, List.length_append] at h
    show (List.range' P.length (X.length + 1)).map _ = some x :: X.map some
    rw [List.range'_succ, List.map_cons]
    refine congr (congrArg List.cons ?_) h
    simp
theorem fq_set : ∀ (X X' P Y : va_W), X'.length = X.length → fp_sets (P ++ (X ++ Y)) (List.range' P.length X.length) X' = P ++ (X' ++ Y) := by
  intro X
  induction X with
  | nil =>
    intro X' P Y h
    have e : X' = [] := List.length_eq_zero_iff.mp h
    rw [e]
    rfl
  | cons x X ih =>
    intro X' P Y h
    cases X' with
    | nil => simp at h
    | cons z X' =>
      have h1 := ih X' (P ++ [z]) Y (by simpa using h)
      have e : (P ++ (x :: X ++ Y)).set P.length z = P ++ [z] ++ (X ++ Y) := by simp
      have e2 : P ++ [z] ++ (X' ++ Y) = P ++ (z :: X' ++ Y) := by simp
      rw [List.length_append, e2] at h1
      show fp_sets (P ++ (x :: X ++ Y)) (List.range' P.length (X.length + 1)) (z :: X') = _
      rw [List.range'_succ]
      show fp_sets ((P ++ (x :: X ++ Y)).set P.length z) (List.range' (P.length + 1) X.length) X' = _
      rw [e]
      exact h1
def upN {α : Type} (f : Nat → α) (k : Nat) (v : α) : Nat → α := fun j => bif Nat.beq j k then v else f j
def OB (cyI : ClassId) (A : Nat → Nat) (I : Nat → Int) (C : Nat → Int → Int) : va_W := [((A 0), .inr (7, [.ref (A 1), .ref (A 4), .ref (A 7), .int (iI ((I 0))), .ref (A 10), .ref (A 17), .ref (A 13), .ref (A 20), .ref (A 29)])), ((A 1), .inr (0, [.ref (A 2)])), ((A 2), .inr (5, [.ref (A 3)])), ((A 3), fA cyI 54 ((C 0))), ((A 4), .inr (0, [.ref (A 5)])), ((A 5), .inr (5, [.ref (A 6)])), ((A 6), fA cyI 54 ((C 1))), ((A 7), .inr (0, [.ref (A 8)])), ((A 8), .inr (5, [.ref (A 9)])), ((A 9), fA cyI 54 ((C 2))), ((A 10), .inr (1, [.ref (A 11), .int (iI ((I 1)))])), ((A 11), .inr (5, [.ref (A 12)])), ((A 12), fA cyI 216 ((C 3))), ((A 13), .inr (4, [.ref (A 14), .int (iI ((I 3))), .int (iI ((I 4)))])), ((A 14), .inr (0, [.ref (A 15)])), ((A 15), .inr (5, [.ref (A 16)])), ((A 16), fA cyI 54 ((C 5))), ((A 17), .inr (6, [.ref (A 18), .int (iI ((I 2)))])), ((A 18), .inr (5, [.ref (A 19)])), ((A 19), fA cyI 60 ((C 4))), ((A 20), .inr (2, [.ref (A 21), .ref (A 23), .ref (A 25), .ref (A 27), .int (iI ((I 5))), .int (iI ((I 6))), .int (iI ((I 7)))])), ((A 21), .inr (5, [.ref (A 22)])), ((A 22), fA cyI 65 ((C 6))), ((A 23), .inr (5, [.ref (A 24)])), ((A 24), fA cyI 65 ((C 7))), ((A 25), .inr (5, [.ref (A 26)])), ((A 26), fA cyI 12 ((C 8))), ((A 27), .inr (5, [.ref (A 28)])), ((A 28), fA cyI 12 ((C 9))), ((A 29), .inr (3, [.ref (A 34), .ref (A 30), .ref (A 32), .int (iI ((I 8)))])), ((A 30), .inr (5, [.ref (A 31)])), ((A 31), fA cyI 13 ((C 10))), ((A 32), .inr (5, [.ref (A 33)])), ((A 33), fA cyI 676 ((C 11))), ((A 34), .inr (0, [.ref (A 35)])), ((A 35), .inr (5, [.ref (A 36)])), ((A 36), fA cyI 54 ((C 12)))]
/-- what is kept of the states that were -/
def HO (d : Int → Int) (n : Int) : Prop := ∀ i : Int, 0 ≤ i → i < n → CatOK (shfI d (i * 54)) ∧ shfI d (i * 54) 0 ≤ 9
theorem Cat_54 {a b : Int → Int} (h : ∀ j : Int, 0 ≤ j → j < 54 → a j = b j) (hC : CatOK b ∧ b 0 ≤ 9) : CatOK a ∧ a 0 ≤ 9 := by
  obtain ⟨⟨h0, h1, h2⟩, h9⟩ := hC
  have e0 := h 0 (by omega) (by omega)
  refine ⟨⟨by rw [e0]; exact h0, fun k x y => ?_, ?_⟩, by rw [e0]; exact h9⟩
  · rw [e0] at y
    rw [h (k * 4 + 1) (by omega) (by omega), h (k * 4 + 2) (by omega) (by omega), h (k * 4 + 3) (by omega) (by omega), h (k * 4 + 4) (by omega) (by omega)]
    exact h1 k x y
  · rw [h (49 + 0) (by omega) (by omega), h (49 + 1) (by omega) (by omega), h (49 + 2) (by omega) (by omega), h (49 + 3) (by omega) (by omega), h (49 + 4) (by omega) (by omega)]
    exact h2
theorem HO_rec {d c : Int → Int} {n : Int} (h : HO d n) (hn : 0 ≤ n ∧ n ≤ 4) (hC : CatOK c ∧ c 0 ≤ 9) : HO (recH d c n) (recN n) := by
  intro i h1 h2
  unfold recN at h2
  unfold recH
  by_cases q : 4 ≤ n
  · rw [if_pos q] at h2
    rw [if_pos q]
    by_cases e : i = 3
    · refine Cat_54 (b := c) (fun j x y => ?_) hC
      unfold shfI
      rw [cpI_in (by omega)]
      congr 1
      omega
    · refine Cat_54 (b := shfI d ((i + 1) * 54)) (fun j x y => ?_) (h (i + 1) (by omega) (by omega))
      unfold shfI
      rw [cpI_out (by omega), cpI_in (by omega)]
      congr 1
      omega
  · rw [if_neg q] at h2
    rw [if_neg q]
    by_cases e : i = n
    · refine Cat_54 (b := c) (fun j x y => ?_) hC
      unfold shfI
      rw [cpI_in (by omega)]
      congr 1
      omega
    · refine Cat_54 (b := shfI d (i * 54)) (fun j x y => ?_) (h i (by omega) (by omega))
      unfold shfI
      rw [cpI_out (by omega)]
theorem rN_rg {n : Int} (hn : 0 ≤ n ∧ n ≤ 4) : 0 ≤ recN n ∧ recN n ≤ 4 := by
  unfold recN
  split <;> omega
/-- an act's answer r: the catalogue, the history behind it -/
theorem act_1 {d c c' : Int → Int} {n r : Int} (h : HO d n) (hn : 0 ≤ n ∧ n ≤ 4) (hC : CatOK c ∧ c 0 ≤ 9) (hN : 0 ≤ r → CatOK c' ∧ c' 0 ≤ 9) : (CatOK (if 0 ≤ r then c' else c) ∧ (if 0 ≤ r then c' else c) 0 ≤ 9) ∧ HO (if 0 ≤ r then recH d c n else d) (if 0 ≤ r then recN n else n) ∧ 0 ≤ (if 0 ≤ r then recN n else n) ∧ (if 0 ≤ r then recN n else n) ≤ 4 := by
  by_cases q : 0 ≤ r
  · rw [if_pos q, if_pos q, if_pos q]
    exact ⟨hN q, HO_rec h hn hC, rN_rg hn⟩
  · rw [if_neg q, if_neg q, if_neg q]
    exact ⟨hC, h, hn⟩
/-- what is told of an object: its catalogue, how many states its history has, its text, how long that is -/
abbrev OS := (Int → Int) × Int × (Int → Int) × Int
def GO (I : Nat → Int) (C : Nat → Int → Int) (q : OS) : Prop := ((C 0 = q.1 ∧ I 1 = q.2.1) ∧ C 4 = q.2.2.1 ∧ I 2 = q.2.2.2) ∧ (CatOK q.1 ∧ q.1 0 ≤ 9) ∧ (HO (C 3) q.2.1 ∧ 0 ≤ q.2.1 ∧ q.2.1 ≤ 4) ∧ (TextOK q.2.2.1 ∧ 0 ≤ q.2.2.2 ∧ q.2.2.2 ≤ 60)
abbrev SS := (Nat → Int) × (Nat → Int → Int) × Int × OS
def OC (l : Launch) (y : MethodName) (ws : List Cond) (rm : Room) (D : va_G) (cyI : ClassId) (A : Nat → Nat) (av : List Value) (q : OS) (Po : Int → OS → Prop) : Prop := ∀ (I : Nat → Int) (C : Nat → Int → Int), GO I C q → fp_MW l y ws rm D cyI (OB cyI A I C) (.ref (A 0) :: av) (fun u : SS => GO u.1 u.2.1 u.2.2.2 ∧ Po u.2.2.1 u.2.2.2) (fun u : SS => some (.int (iI u.2.2.1))) (fun u : SS => OB cyI A u.1 u.2.1)
