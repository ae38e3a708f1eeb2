/-! two objects, or one: their state between the law's instructions; a call of one of them -/
theorem OB_len (cyI : ClassId) (A : Nat → Nat) (I : Nat → Int) (C : Nat → Int → Int) : (OB cyI A I C).length = 37 := rfl
def ST (D : va_G) (cyI : ClassId) (A B : Nat → Nat) (A0 : Nat → Prop) (H0 : Heap) (q r : OS) (H : Heap) (locs : List Loc) : Prop := ∃ (I : Nat → Int) (C : Nat → Int → Int) (J : Nat → Int) (E : Nat → Int → Int), (GO I C q ∧ GO J E r) ∧ va_P D vwCl (OB cyI A I C ++ (OB cyI B J E ++ [])) H ∧ va_D A0 (OB cyI A I C ++ (OB cyI B J E ++ [])) ∧ va_S A0 H0 H locs
def ST1 (D : va_G) (cyI : ClassId) (A : Nat → Nat) (A0 : Nat → Prop) (H0 : Heap) (q : OS) (H : Heap) (locs : List Loc) : Prop := ∃ (I : Nat → Int) (C : Nat → Int → Int), GO I C q ∧ va_P D vwCl (OB cyI A I C ++ []) H ∧ va_D A0 (OB cyI A I C ++ []) ∧ va_S A0 H0 H locs
theorem ST.go {D : va_G} {cyI : ClassId} {A B : Nat → Nat} {A0 : Nat → Prop} {H0 : Heap} {q r : OS} {H : Heap} {locs : List Loc} (h : ST D cyI A B A0 H0 q r H locs) : ((CatOK q.1 ∧ q.1 0 ≤ 9) ∧ (0 ≤ q.2.1 ∧ q.2.1 ≤ 4) ∧ (TextOK q.2.2.1 ∧ 0 ≤ q.2.2.2 ∧ q.2.2.2 ≤ 60)) ∧ ((CatOK r.1 ∧ r.1 0 ≤ 9) ∧ (0 ≤ r.2.1 ∧ r.2.1 ≤ 4) ∧ (TextOK r.2.2.1 ∧ 0 ≤ r.2.2.2 ∧ r.2.2.2 ≤ 60)) := by
  obtain ⟨I, C, J, E, ⟨⟨-, a1, a2, a3⟩, ⟨-, b1, b2, b3⟩⟩, -⟩ := h
  exact ⟨⟨a1, a2.2, a3⟩, ⟨b1, b2.2, b3⟩⟩
theorem ST1.go {D : va_G} {cyI : ClassId} {A : Nat → Nat} {A0 : Nat → Prop} {H0 : Heap} {q : OS} {H : Heap} {locs : List Loc} (h : ST1 D cyI A A0 H0 q H locs) : (CatOK q.1 ∧ q.1 0 ≤ 9) ∧ (0 ≤ q.2.1 ∧ q.2.1 ≤ 4) ∧ (TextOK q.2.2.1 ∧ 0 ≤ q.2.2.2 ∧ q.2.2.2 ≤ 60) := by
  obtain ⟨I, C, ⟨-, a1, a2, a3⟩, -⟩ := h
  exact ⟨a1, a2.2, a3⟩
section FQC
variable {p : Program} {l : Launch} {e : Env} {R : Room} {s : State} {m : MethodId} {args : Array Value} {below : List Frame} {meth : Method} {c : Code} {H : Heap} {locs : List Loc} {cells slots : Nat} {Q : State → Prop}
variable {cc : ByteArray} {pc : Nat} {ls : Array Slot} {rest st : List Value} {D : va_G} {cyI : ClassId} {A B : Nat → Nat} {A0 : Nat → Prop} {H0 : Heap} {q r : OS}
variable {y : MethodName} {bytes : ByteArray} {maxL nL n index : Nat} {ret : Option FieldType} {ws : List Cond} {rm : Room} {Ts : List Cond} {own : String} {As : List Value} {Po : Int → OS → Prop}
theorem fq_nd : va_nd (List.range' 0 37) = true ∧ va_nd (List.range' 37 37) = true ∧ va_nd (List.range' 0 74) = true := by decide +kernel
theorem fq_L (S : CallFix p m c cc nL s args Ts own) (hM : OC l y ws rm D cyI A As q Po) (cw : CallW R s args own RX7 index y bytes maxL ret ws rm 0 0 n) (hK : fp_K D cyI s) (hT : ST D cyI A B A0 H0 q r H locs)
    (hlen : As.length = n) (hsz : ls.size = nL) (hst : st = As.reverse ++ .ref (A 0) :: rest) (hW : (rest.map fun v => v.category).sum ≤ 8) (hdg : decode cc pc = .ok (.invokevirtual index, 3)) (hf : cells ≤ R.cells ∧ slots ≤ R.slots)
    (kk : ∀ (z : Int) (q' : OS), Po z q' → ∀ (H : Heap) (locs : List Loc), ST D cyI A B A0 H0 q' r H locs → W p l e R s m args below meth c H locs cells slots Q (F0 m (pc + 3) ls (.int (iI z) :: rest))) : W p l e R s m args below meth c H locs cells slots Q (F0 m pc ls st) := by
  obtain ⟨I, C, J, E, ⟨g1, g2⟩, hP, hD, hS⟩ := hT
  refine fp_wV S (hM I C g1) cw (fun _ => rfl) hK hP hD hS (List.range' 0 37) fq_nd.1 (fq_get (OB cyI A I C) [] (OB cyI B J E ++ [])) (ci := 7) rfl rfl hlen hsz hst hW hdg hf (fun u H1 locs1 hu hP hD hS => ?_)
  have e1 : fp_sets (OB cyI A I C ++ (OB cyI B J E ++ [])) (List.range' 0 37) (OB cyI A u.1 u.2.1) = OB cyI A u.1 u.2.1 ++ (OB cyI B J E ++ []) := fq_set (OB cyI A I C) (OB cyI A u.1 u.2.1) [] (OB cyI B J E ++ []) rfl
  rw [e1] at hP hD
  exact kk u.2.2.1 u.2.2.2 hu.2 H1 locs1 ⟨u.1, u.2.1, J, E, ⟨hu.1, g2⟩, hP, hD, hS⟩
theorem fq_R (S : CallFix p m c cc nL s args Ts own) (hM : OC l y ws rm D cyI B As r Po) (cw : CallW R s args own RX7 index y bytes maxL ret ws rm 0 0 n) (hK : fp_K D cyI s) (hT : ST D cyI A B A0 H0 q r H locs)
    (hlen : As.length = n) (hsz : ls.size = nL) (hst : st = As.reverse ++ .ref (B 0) :: rest) (hW : (rest.map fun v => v.category).sum ≤ 8) (hdg : decode cc pc = .ok (.invokevirtual index, 3)) (hf : cells ≤ R.cells ∧ slots ≤ R.slots)
    (kk : ∀ (z : Int) (r' : OS), Po z r' → ∀ (H : Heap) (locs : List Loc), ST D cyI A B A0 H0 q r' H locs → W p l e R s m args below meth c H locs cells slots Q (F0 m (pc + 3) ls (.int (iI z) :: rest))) : W p l e R s m args below meth c H locs cells slots Q (F0 m pc ls st) := by
  obtain ⟨I, C, J, E, ⟨g1, g2⟩, hP, hD, hS⟩ := hT
  refine fp_wV S (hM J E g2) cw (fun _ => rfl) hK hP hD hS (List.range' 37 37) fq_nd.2.1 (fq_get (OB cyI B J E) (OB cyI A I C) []) (ci := 7) rfl rfl hlen hsz hst hW hdg hf (fun u H1 locs1 hu hP hD hS => ?_)
  have e1 : fp_sets (OB cyI A I C ++ (OB cyI B J E ++ [])) (List.range' 37 37) (OB cyI B u.1 u.2.1) = OB cyI A I C ++ (OB cyI B u.1 u.2.1 ++ []) := fq_set (OB cyI B J E) (OB cyI B u.1 u.2.1) (OB cyI A I C) [] rfl
  rw [e1] at hP hD
  exact kk u.2.2.1 u.2.2.2 hu.2 H1 locs1 ⟨I, C, u.1, u.2.1, ⟨g1, hu.1⟩, hP, hD, hS⟩
theorem fq_1 (S : CallFix p m c cc nL s args Ts own) (hM : OC l y ws rm D cyI A As q Po) (cw : CallW R s args own RX7 index y bytes maxL ret ws rm 0 0 n) (hK : fp_K D cyI s) (hT : ST1 D cyI A A0 H0 q H locs)
    (hlen : As.length = n) (hsz : ls.size = nL) (hst : st = As.reverse ++ .ref (A 0) :: rest) (hW : (rest.map fun v => v.category).sum ≤ 8) (hdg : decode cc pc = .ok (.invokevirtual index, 3)) (hf : cells ≤ R.cells ∧ slots ≤ R.slots)
    (kk : ∀ (z : Int) (q' : OS), Po z q' → ∀ (H : Heap) (locs : List Loc), ST1 D cyI A A0 H0 q' H locs → W p l e R s m args below meth c H locs cells slots Q (F0 m (pc + 3) ls (.int (iI z) :: rest))) : W p l e R s m args below meth c H locs cells slots Q (F0 m pc ls st) := by
  obtain ⟨I, C, g1, hP, hD, hS⟩ := hT
  refine fp_wV S (hM I C g1) cw (fun _ => rfl) hK hP hD hS (List.range' 0 37) fq_nd.1 (fq_get (OB cyI A I C) [] []) (ci := 7) rfl rfl hlen hsz hst hW hdg hf (fun u H1 locs1 hu hP hD hS => ?_)
  have e1 : fp_sets (OB cyI A I C ++ []) (List.range' 0 37) (OB cyI A u.1 u.2.1) = OB cyI A u.1 u.2.1 ++ [] := fq_set (OB cyI A I C) (OB cyI A u.1 u.2.1) [] [] rfl
  rw [e1] at hP hD
  exact kk u.2.2.1 u.2.2.2 hu.2 H1 locs1 ⟨u.1, u.2.1, hu.1, hP, hD, hS⟩
/-! the law's own static methods: over both objects, over one; they answer 1 -/
abbrev SS2 := (Nat → Int) × (Nat → Int → Int) × (Nat → Int) × (Nat → Int → Int) × OS × OS
end FQC
def LC2 (l : Launch) (y : MethodName) (ws : List Cond) (rm : Room) (D : va_G) (cyI : ClassId) (A B : Nat → Nat) (av : List Value) (q r : OS) (Po : OS → OS → Prop) : Prop := ∀ (I : Nat → Int) (C : Nat → Int → Int) (J : Nat → Int) (E : Nat → Int → Int), GO I C q → GO J E r → fp_MW l y ws rm D cyI (OB cyI A I C ++ (OB cyI B J E ++ [])) (.ref (A 0) :: .ref (B 0) :: av) (fun u : SS2 => (GO u.1 u.2.1 u.2.2.2.2.1 ∧ GO u.2.2.1 u.2.2.2.1 u.2.2.2.2.2) ∧ Po u.2.2.2.2.1 u.2.2.2.2.2) (fun _ : SS2 => some (.int (iI 1))) (fun u : SS2 => OB cyI A u.1 u.2.1 ++ (OB cyI B u.2.2.1 u.2.2.2.1 ++ []))
abbrev SS1 := (Nat → Int) × (Nat → Int → Int) × OS
def LC1 (l : Launch) (y : MethodName) (ws : List Cond) (rm : Room) (D : va_G) (cyI : ClassId) (A : Nat → Nat) (q : OS) (Po : OS → Prop) : Prop := ∀ (I : Nat → Int) (C : Nat → Int → Int), GO I C q → fp_MW l y ws rm D cyI (OB cyI A I C ++ []) [.ref (A 0)] (fun u : SS1 => GO u.1 u.2.1 u.2.2 ∧ Po u.2.2) (fun _ : SS1 => some (.int (iI 1))) (fun u : SS1 => OB cyI A u.1 u.2.1 ++ [])
section FQD
variable {p : Program} {l : Launch} {e : Env} {R : Room} {s : State} {m : MethodId} {args : Array Value} {below : List Frame} {meth : Method} {c : Code} {H : Heap} {locs : List Loc} {cells slots : Nat} {Q : State → Prop}
variable {cc : ByteArray} {pc : Nat} {ls : Array Slot} {rest st : List Value} {D : va_G} {cyI : ClassId} {A B : Nat → Nat} {A0 : Nat → Prop} {H0 : Heap} {q r : OS}
variable {y : MethodName} {bytes : ByteArray} {maxL nL n index : Nat} {ret : Option FieldType} {ws : List Cond} {rm : Room} {Ts : List Cond} {own : String} {As : List Value} {Po : OS → OS → Prop} {Po1 : OS → Prop}
theorem fq_S2 (S : CallFix p m c cc nL s args Ts own) (hM : LC2 l y ws rm D cyI A B As q r Po) (cw : CallB R s args own index y bytes maxL ret ws rm 0 0 n ∧ (Cond.static y).before args s = true) (hK : fp_K D cyI s) (hT : ST D cyI A B A0 H0 q r H locs)
    (hlen : (.ref (A 0) :: .ref (B 0) :: As : List Value).length = n) (hsz : ls.size = nL) (hst : st = (.ref (A 0) :: .ref (B 0) :: As : List Value).reverse ++ rest) (hW : (rest.map fun v => v.category).sum ≤ 8) (hdg : decode cc pc = .ok (.invokestatic index, 3)) (hf : cells ≤ R.cells ∧ slots ≤ R.slots)
    (kk : ∀ (q' r' : OS), Po q' r' → ∀ (H : Heap) (locs : List Loc), ST D cyI A B A0 H0 q' r' H locs → W p l e R s m args below meth c H locs cells slots Q (F0 m (pc + 3) ls (.int (iI 1) :: rest))) : W p l e R s m args below meth c H locs cells slots Q (F0 m pc ls st) := by
  obtain ⟨I, C, J, E, ⟨g1, g2⟩, hP, hD, hS⟩ := hT
  have hg : (List.range' 0 74).map (fun i => (OB cyI A I C ++ (OB cyI B J E ++ []))[i]?) = (OB cyI A I C ++ (OB cyI B J E ++ [])).map some := by
    have h := fq_get (OB cyI A I C ++ (OB cyI B J E ++ [])) [] []
    rw [List.append_nil (OB cyI A I C ++ (OB cyI B J E ++ []))] at h
    exact h
  refine fp_wS S (hM I C J E g1 g2) cw (fun _ => rfl) hK hP hD hS (List.range' 0 74) fq_nd.2.2 hg hlen hsz hst hW hdg hf (fun u H1 locs1 hu hP hD hS => ?_)
  have e1 : fp_sets (OB cyI A I C ++ (OB cyI B J E ++ [])) (List.range' 0 74) (OB cyI A u.1 u.2.1 ++ (OB cyI B u.2.2.1 u.2.2.2.1 ++ [])) = OB cyI A u.1 u.2.1 ++ (OB cyI B u.2.2.1 u.2.2.2.1 ++ []) := by
    have h := fq_set (OB cyI A I C ++ (OB cyI B J E ++ [])) (OB cyI A u.1 u.2.1 ++ (OB cyI B u.2.2.1 u.2.2.2.1 ++ [])) [] [] rfl
    rw [List.append_nil (OB cyI A I C ++ (OB cyI B J E ++ [])), List.append_nil (OB cyI A u.1 u.2.1 ++ (OB cyI B u.2.2.1 u.2.2.2.1 ++ []))] at h
    exact h
  rw [e1] at hP hD
  exact kk _ _ hu.2 H1 locs1 ⟨_, _, _, _, hu.1, hP, hD, hS⟩
theorem fq_S1 (S : CallFix p m c cc nL s args Ts own) (hM : LC1 l y ws rm D cyI A q Po1) (cw : CallB R s args own index y bytes maxL ret ws rm 0 0 n ∧ (Cond.static y).before args s = true) (hK : fp_K D cyI s) (hT : ST D cyI A B A0 H0 q r H locs)
    (hlen : ([.ref (A 0)] : List Value).length = n) (hsz : ls.size = nL) (hst : st = ([.ref (A 0)] : List Value).reverse ++ rest) (hW : (rest.map fun v => v.category).sum ≤ 8) (hdg : decode cc pc = .ok (.invokestatic index, 3)) (hf : cells ≤ R.cells ∧ slots ≤ R.slots)
    (kk : ∀ (q' : OS), Po1 q' → ∀ (H : Heap) (locs : List Loc), ST D cyI A B A0 H0 q' r H locs → W p l e R s m args below meth c H locs cells slots Q (F0 m (pc + 3) ls (.int (iI 1) :: rest))) : W p l e R s m args below meth c H locs cells slots Q (F0 m pc ls st) := by
  obtain ⟨I, C, J, E, ⟨g1, g2⟩, hP, hD, hS⟩ := hT
  refine fp_wS S (hM I C g1) cw (fun _ => rfl) hK hP hD hS (List.range' 0 37) fq_nd.1 (fq_get (OB cyI A I C ++ []) [] (OB cyI B J E ++ [])) hlen hsz hst hW hdg hf (fun u H1 locs1 hu hP hD hS => ?_)
  have e1 : fp_sets (OB cyI A I C ++ (OB cyI B J E ++ [])) (List.range' 0 37) (OB cyI A u.1 u.2.1 ++ []) = OB cyI A u.1 u.2.1 ++ (OB cyI B J E ++ []) := fq_set (OB cyI A I C) (OB cyI A u.1 u.2.1) [] (OB cyI B J E ++ []) rfl
  rw [e1] at hP hD
  exact kk _ hu.2 H1 locs1 ⟨_, _, _, _, ⟨hu.1, g2⟩, hP, hD, hS⟩
/-- a call of a static method that reads nothing (cell apart): its answer by its contract over no cells -/
theorem fq_P (S : CallFix p m c cc nL s args Ts own) {v : Value} (hM : fp_M l y ws rm D cyI [] As (some v)) (cw : CallB R s args own index y bytes maxL ret ws rm 0 0 n ∧ (Cond.static y).before args s = true) (hK : fp_K D cyI s)
    (hlen : As.length = n) (hsz : ls.size = nL) (hst : st = As.reverse ++ rest) (hW : (rest.map fun v => v.category).sum ≤ 8) (hdg : decode cc pc = .ok (.invokestatic index, 3)) (hf : cells ≤ R.cells ∧ slots ≤ R.slots)
    (kk : W p l e R s m args below meth c H locs cells slots Q (F0 m (pc + 3) ls (v :: rest))) : W p l e R s m args below meth c H locs cells slots Q (F0 m pc ls st) :=
  fp_pS (wsC := []) (A0 := fun _ => True) S hM cw hK (fun k q h => by simp at h) ⟨fun i j p q h => by simp at h, fun k q h => by simp at h⟩ [] rfl rfl hlen hsz hst hW hdg hf kk
/-- their beginnings and ends -/
theorem ST.in {I : Nat → Int} {C : Nat → Int → Int} {J : Nat → Int} {E : Nat → Int → Int} (g1 : GO I C q) (g2 : GO J E r) (hP : va_P D vwCl (OB cyI A I C ++ (OB cyI B J E ++ [])) s.heap) (hD : va_D (fun _ => True) (OB cyI A I C ++ (OB cyI B J E ++ []))) : ST D cyI A B (fp_A (OB cyI A I C ++ (OB cyI B J E ++ []))) s.heap q r s.heap [] := ⟨I, C, J, E, ⟨g1, g2⟩, hP, fp_self hD, va_S.rf⟩
theorem ST1.in {I : Nat → Int} {C : Nat → Int → Int} (g1 : GO I C q) (hP : va_P D vwCl (OB cyI A I C ++ []) s.heap) (hD : va_D (fun _ => True) (OB cyI A I C ++ [])) : ST1 D cyI A (fp_A (OB cyI A I C ++ [])) s.heap q s.heap [] := ⟨I, C, g1, hP, fp_self hD, va_S.rf⟩
theorem fq_ret2 {wc : va_W} (hexec : p.tables.exec = Jvm.exec) (hb : c.code = cc) (hr : meth.sig.returnType = some .boolean) (hlocks : meth.locks = false) (hT : ST D cyI A B (fp_A wc) s.heap q r H locs) (hp : Po q r) (hdg : decode cc pc = .ok (.ireturn, 1)) :
    W p l e R s m args below meth c H locs cells slots (MQ below (fp_Qw D wc (fun u : SS2 => (GO u.1 u.2.1 u.2.2.2.2.1 ∧ GO u.2.2.1 u.2.2.2.1 u.2.2.2.2.2) ∧ Po u.2.2.2.2.1 u.2.2.2.2.2) (fun _ : SS2 => some (.int (iI 1))) (fun u : SS2 => OB cyI A u.1 u.2.1 ++ (OB cyI B u.2.2.1 u.2.2.2.1 ++ []))) args s cells slots (fp_A wc)) (F0 m pc ls [.int (iI 1)]) := by
  obtain ⟨I, C, J, E, hg, hP, -, hS⟩ := hT
  exact fp_wzret (S := SS2) (I, C, J, E, q, r) hexec hb hr hlocks (Or.inr rfl) hS hP ⟨hg, hp⟩ rfl hdg
theorem fq_ret1 {wc : va_W} (hexec : p.tables.exec = Jvm.exec) (hb : c.code = cc) (hr : meth.sig.returnType = some .boolean) (hlocks : meth.locks = false) (hT : ST1 D cyI A (fp_A wc) s.heap q H locs) (hp : Po1 q) (hdg : decode cc pc = .ok (.ireturn, 1)) :
    W p l e R s m args below meth c H locs cells slots (MQ below (fp_Qw D wc (fun u : SS1 => GO u.1 u.2.1 u.2.2 ∧ Po1 u.2.2) (fun _ : SS1 => some (.int (iI 1))) (fun u : SS1 => OB cyI A u.1 u.2.1 ++ [])) args s cells slots (fp_A wc)) (F0 m pc ls [.int (iI 1)]) := by
  obtain ⟨I, C, hg, hP, -, hS⟩ := hT
  exact fp_wzret (S := SS1) (I, C, q) hexec hb hr hlocks (Or.inr rfl) hS hP ⟨hg, hp⟩ rfl hdg
end FQD
