/-- cells written, by a mask -/
def fp_pos : List Bool → Nat → List Nat
  | [], _ => []
  | b :: m, k => match b with
    | false => fp_pos m (k + 1)
    | true => k :: fp_pos m (k + 1)
def fp_mrg : List Bool → va_W → va_W → va_W
  | [], ws, _ => ws
  | b :: m, ws, w => match ws with
    | [] => []
    | z :: ws => match b with
      | false => z :: fp_mrg m ws w
      | true => match w with
        | [] => z :: ws
        | q :: w => q :: fp_mrg m ws w
theorem fp_mrg_sets : ∀ (mk : List Bool) (pre ws w : va_W), w.length = (fp_pos mk pre.length).length → mk.length ≤ ws.length → fp_sets (pre ++ ws) (fp_pos mk pre.length) w = pre ++ fp_mrg mk ws w := by
  intro mk
  induction mk with
  | nil =>
    intro pre ws w _ _
    cases w <;> rfl
  | cons b mk ih =>
    intro pre ws w h1 h2
    cases ws with
    | nil => simp at h2
    | cons z ws =>
      have h3 : mk.length ≤ ws.length := by simpa using h2
      cases b with
      | false =>
        have h4 := ih (pre ++ [z]) ws w (by simpa [fp_pos] using h1) h3
        simpa [fp_pos, fp_mrg] using h4
      | true =>
        cases w with
        | nil => simp [fp_pos] at h1
        | cons q w =>
          have h4 := ih (pre ++ [q]) ws w (by simpa [fp_pos] using h1) h3
          have h5 : (pre ++ z :: ws).set pre.length q = (pre ++ [q]) ++ ws := by simp
          show fp_sets ((pre ++ z :: ws).set pre.length q) (fp_pos mk (pre.length + 1)) w = pre ++ q :: fp_mrg mk ws w
          rw [h5]
          simpa using h4
section FPMM
variable {p : Program} {l : Launch} {e : Env} {R : Room} {s : State} {m : MethodId} {args : Array Value} {below : List Frame} {meth : Method} {c : Code} {H : Heap} {locs : List Loc} {cells slots : Nat} {Q : State → Prop}
variable {cc : ByteArray} {pc : Nat} {ls : Array Slot} {rest st : List Value} {D : va_G} {cyI : ClassId} {wsC wc : va_W} {A0 : Nat → Prop} {H0 : Heap}
variable {y : MethodName} {bytes : ByteArray} {maxL nL n index : Nat} {ret : Option FieldType} {ws : List Cond} {rm : Room} {Ts : List Cond} {own C host : String} {b : Addr} {As : List Value}
theorem fp_wVm (S : CallFix p m c cc nL s args Ts own) {S0 : Type} {post : S0 → Prop} {rt : S0 → Option Value} {wW : S0 → va_W} (hM : fp_MW l y ws rm D cyI wc (.ref b :: As) post rt wW) (cw : CallW R s args own C index y bytes maxL ret ws rm 0 0 n) (hadr : ∀ u, (wW u).map Prod.fst = wc.map Prod.fst)
    (hK : fp_K D cyI s) (hP : va_P D vwCl wsC H) (hD : va_D A0 wsC) (hS : va_S A0 H0 H locs) (is : List Nat) (mk : List Bool) (hmk : fp_pos mk 0 = is) (hmk2 : mk.length ≤ wsC.length) (hn : va_nd is = true) (hs : is.map (fun i => wsC[i]?) = wc.map some) {ci : Nat} {fs : List Value} {T : u_T} {N : Nat} (hc : vwCl[ci]? = some (C, T, N)) (he : wc[0]? = some (b, .inr (ci, fs)))
    (hlen : As.length = n) (hsz : ls.size = nL) (hst : st = As.reverse ++ .ref b :: rest) (hW : (rest.map fun v => v.category).sum ≤ 8) (hdg : decode cc pc = .ok (.invokevirtual index, 3)) (hf : cells ≤ R.cells ∧ slots ≤ R.slots)
    (kk : ∀ (u : S0) (H1 : Heap) (locs1 : List Loc), post u → va_P D vwCl (fp_mrg mk wsC (wW u)) H1 → va_D A0 (fp_mrg mk wsC (wW u)) → va_S A0 H0 H1 locs1 → W p l e R s m args below meth c H1 locs1 cells slots Q (F0 m (pc + 3) ls ((rt u).toList ++ rest))) : W p l e R s m args below meth c H locs cells slots Q (F0 m pc ls st) := by
  have key : ∀ u, fp_sets wsC is (wW u) = fp_mrg mk wsC (wW u) := fun u => by
    have h1 : (wW u).length = wc.length := by have := congrArg List.length (hadr u); simpa using this
    have h2 : is.length = wc.length := by have := congrArg List.length hs; simpa using this
    have h3 := fp_mrg_sets mk [] wsC (wW u) (by show (wW u).length = (fp_pos mk 0).length; rw [hmk, h1, h2]) hmk2
    rw [← hmk]
    exact h3
  exact fp_wV S hM cw hadr hK hP hD hS is hn hs hc he hlen hsz hst hW hdg hf (fun u H1 locs1 hu hP hD hS => kk u H1 locs1 hu (by rw [← key]; exact hP) (by rw [← key]; exact hD) hS)
end FPMM
section LWK
variable {p : Program} {l : Launch} {e : Env} {R : Room} {s : State} {m : MethodId} {args : Array Value} {below : List Frame} {meth : Method} {c : Code} {H : Heap} {locs : List Loc} {cells slots : Nat} {Q : State → Prop}
variable {cc : ByteArray} {pc : Nat} {ls : Array Slot} {rest : List Value} {b L : Nat} {xs : Nat → Int32}
theorem fp_sld (hexec : p.tables.exec = Jvm.exec) (hb : c.code = cc) (hX : va_X b L xs s s.heap) (hbl : b < s.heap.size) (hS : va_S (fun q : Nat => s.heap.size ≤ q) s.heap H locs) {k : Int} (h : 0 ≤ k ∧ k < L) (hL : L ≤ 2048) (hdg : decode cc pc = .ok (.iaload, 1))
    (kk : W p l e R s m args below meth c H locs cells slots Q (F0 m (pc + 1) ls (.int (iI (scI xs k)) :: rest))) : W p l e R s m args below meth c H locs cells slots Q (F0 m pc ls (.int (iI k) :: .ref b :: rest)) := by
  refine va_sld hexec hb hX hbl (Nat.not_le.mpr hbl) hS (iI_in h (by omega)) hdg ?_
  rw [iI_cl (by omega), ← iI_eta (xs k.toNat)]
  exact kk
theorem fp_slen (hexec : p.tables.exec = Jvm.exec) (hb : c.code = cc) (hX : va_X b L xs s s.heap) (hbl : b < s.heap.size) (hS : va_S (fun q : Nat => s.heap.size ≤ q) s.heap H locs) (hdg : decode cc pc = .ok (.arraylength, 1))
    (kk : W p l e R s m args below meth c H locs cells slots Q (F0 m (pc + 1) ls (.int (iI (L : Int)) :: rest))) : W p l e R s m args below meth c H locs cells slots Q (F0 m pc ls (.ref b :: rest)) := by
  refine va_slen hexec hb hX hbl (Nat.not_le.mpr hbl) hS hdg ?_
  rw [show Int32.ofNat L = iI (L : Int) from iI_nat L]
  exact kk
theorem fp_iandx (hexec : p.tables.exec = Jvm.exec) (hb : c.code = cc) {x y : Int} (hdg : decode cc pc = .ok (.iand, 1))
    (kk : ∀ z : Int, -2147483648 ≤ z ∧ z ≤ 2147483647 → W p l e R s m args below meth c H locs cells slots Q (F0 m (pc + 1) ls (.int (iI z) :: rest))) : W p l e R s m args below meth c H locs cells slots Q (F0 m pc ls (.int (iI y) :: .int (iI x) :: rest)) := by
  refine lv_iand hexec hb hdg ?_
  rw [← iI_eta (iI x &&& iI y)]
  exact kk _ (iI_rg _)
theorem fp_i2cx (hexec : p.tables.exec = Jvm.exec) (hb : c.code = cc) {x : Int} (hdg : decode cc pc = .ok (.i2c, 1))
    (kk : W p l e R s m args below meth c H locs cells slots Q (F0 m (pc + 1) ls (.int (iI (chrI x)) :: rest))) : W p l e R s m args below meth c H locs cells slots Q (F0 m pc ls (.int (iI x) :: rest)) :=
  lv_i2c hexec hb hdg (iI_eta _).symm kk
end LWK
theorem icN {c m : Int → Int} (hC : CatOK c) (hS : Same c (cM m)) {k b q : Int} (hb : 0 ≤ b ∧ b ≤ 1) : (if ¬ (0 ≤ k ∧ k < cM m 0) then (-1 : Int) else if ¬ (0 ≤ q ∧ q ≤ mostC (cM m) k) then -2 else csC (choL (cM m) k b q)) = if ¬ (0 ≤ k ∧ k < c 0) then -1 else if ¬ (0 ≤ q ∧ q ≤ mostC c k) then -2 else csC (choL c k b q) := by
  have hN := hC.1
  rw [← hS.1]
  by_cases r : 0 ≤ k ∧ k < c 0
  · rw [← (Same_len hS r).2.2]
    by_cases s : 0 ≤ q ∧ q ≤ mostC c k
    · rw [Same_cs (Same_cho hS hN.2 (k := k) (b := b) (q := q) (by omega)) (Cat_cho hC r hb s)]
    · rw [if_neg (c := ¬ (0 ≤ k ∧ k < c 0)) (fun z => z r), if_neg (c := ¬ (0 ≤ k ∧ k < c 0)) (fun z => z r), if_pos s, if_pos s]
  · rw [if_pos r, if_pos r]
theorem chpN {c m g g3 : Int → Int} (hC : CatOK c) (hS : Same c (cM m)) {k w : Int} (h1 : (0 ≤ k ∧ k < c 0) ∧ (0 ≤ w ∧ w ≤ 1) → Agr g c ∧ CatOK g ∧ Opt c g (c (49 + 0)) (c 0)) (h2 : (0 ≤ k ∧ k < cM m 0) ∧ (0 ≤ w ∧ w ≤ 1) → Agr (cM g3) (cM m) ∧ CatOK (cM g3) ∧ Opt (cM m) (cM g3) (cM m (49 + 0)) (cM m 0)) : (if ¬ (0 ≤ k ∧ k < cM m 0) then (-1 : Int) else if ¬ (0 ≤ w ∧ w ≤ 1) then -2 else if w = 0 then cM g3 (k * 4 + 3) else if cM m (k * 4 + 2) = 0 then -5 else cM g3 (k * 4 + 4)) = if ¬ (0 ≤ k ∧ k < c 0) then -1 else if ¬ (0 ≤ w ∧ w ≤ 1) then -2 else if w = 0 then g (k * 4 + 3) else if c (k * 4 + 2) = 0 then -5 else g (k * 4 + 4) := by
  rw [← hS.1] at h2 ⊢
  by_cases r : 0 ≤ k ∧ k < c 0
  · by_cases s : 0 ≤ w ∧ w ≤ 1
    · have a1 := h1 ⟨r, s⟩
      have a2 := h2 ⟨r, s⟩
      have hg := plU hC hS a1.1 a1.2.2 a2.1 (by rw [← hS.1]; exact a2.2.2)
      have h3 := hg.2.1 k r.1 (by rw [a1.1.1]; exact r.2)
      have h4 := hS.2.1 k r.1 r.2
      rw [← h3.2.2.1, ← h3.2.2.2, ← h4.2.1]
    · rw [if_neg (c := ¬ (0 ≤ k ∧ k < c 0)) (fun z => z r), if_neg (c := ¬ (0 ≤ k ∧ k < c 0)) (fun z => z r), if_pos s, if_pos s]
  · rw [if_pos r, if_pos r]
theorem lcX {c m g : Int → Int} (hC : CatOK c) (hS : Same c (cM m)) {sz : Int} (h : (sz = 4 ∨ sz = 8 ∨ sz = 16) → Agr g (upI c (49 + 0) sz) ∧ CatOK g ∧ Opt (upI c (49 + 0) sz) g sz (c 0)) : (if ¬ (sz = 4 ∨ sz = 8 ∨ sz = 16) then (-2 : Int) else bsI (upI (cM m) (49 + 0) sz) sz (cM m 0).toNat 0 0 0) = if ¬ (sz = 4 ∨ sz = 8 ∨ sz = 16) then -2 else csC g := by
  by_cases r : sz = 4 ∨ sz = 8 ∨ sz = 16
  · have a := h r
    rw [lcN hC hS r a.1 a.2.1 a.2.2]
  · rw [if_pos r, if_pos r]
theorem rsN {cs ms : Int → Int} {hv : Int} (h01 : hv = 0 ∨ hv = 1) (h : hv = 1 → CatOK cs ∧ Same cs (cM ms)) : rsR hv cs = rsR hv (cM ms) := by
  unfold rsR
  rcases h01 with e | e
  · rw [if_pos e, if_pos e]
  · rw [if_neg (by omega), if_neg (by omega), (h e).2.1]
theorem rsX {c m cs ms : Int → Int} {hv : Int} (hC : CatOK c) (hS : Same c (cM m)) (h01 : hv = 0 ∨ hv = 1) (h : hv = 1 → CatOK cs ∧ Same cs (cM ms)) : CatOK (if 0 ≤ rsR hv cs then cs else c) ∧ Same (if 0 ≤ rsR hv cs then cs else c) (cM (if 0 ≤ rsR hv (cM ms) then ms else m)) := by
  rw [← rsN h01 h]
  by_cases q : 0 ≤ rsR hv cs
  · rw [if_pos q, if_pos q]
    refine h ?_
    unfold rsR at q
    rcases h01 with e | e
    · rw [if_pos e] at q; omega
    · exact e
  · rw [if_neg q, if_neg q]
    exact ⟨hC, hS⟩
theorem unX {c m d d8 : Int → Int} {n : Int} (hC : CatOK c) (hS : Same c (cM m)) (hH : HR d d8 n) (hn : 0 ≤ n ∧ n ≤ 4) : (CatOK (if n = 0 then c else shfI d ((n - 1) * 54)) ∧ Same (if n = 0 then c else shfI d ((n - 1) * 54)) (cM (if n = 0 then m else shfI d8 ((n - 1) * 54)))) ∧ HR d d8 (if n = 0 then n else n - 1) ∧ 0 ≤ (if n = 0 then n else n - 1) ∧ (if n = 0 then n else n - 1) ≤ 4 := by
  by_cases q : n = 0
  · rw [if_pos q, if_pos q, if_pos q]
    exact ⟨⟨hC, hS⟩, hH, hn⟩
  · rw [if_neg q, if_neg q, if_neg q]
    exact ⟨hH (n - 1) (by omega) (by omega), fun i a b' => hH i a (by omega), by omega, by omega⟩
theorem tyX {x : Int → Int} {n w : Int} (hx : TextOK x) (hn : 0 ≤ n ∧ n ≤ 60) (hw : 0 ≤ w ∧ w ≤ 65535) : TextOK (if 60 ≤ n then x else upI x n w) ∧ 0 ≤ (if 60 ≤ n then n else n + 1) ∧ (if 60 ≤ n then n else n + 1) ≤ 60 := by
  by_cases q : 60 ≤ n
  · rw [if_pos q, if_pos q]
    exact ⟨hx, hn⟩
  · rw [if_neg q, if_neg q]
    refine ⟨fun j => ?_, by omega, by omega⟩
    by_cases e : j = n
    · rw [upI_s e]; exact hw
    · rw [upI_n e]; exact hx j
