/-! THE CLAIM OUT OF ONE WALK OF THE LAW'S BODY. Your part is whole_start (and what it stands on); all else here is the same for every law, but numbers. -/
def R_law : String := "FacingPlatesLaw"
def lw_P (b : Addr) (xs : List Int32) (args : Array Value) (s : State) : Prop := args = #[.ref b] ∧ s.IntsAt b xs ∧ xs.length ≤ 2048 ∧ (Jvm.Cond.and given_1 narrow_1).before args s = true
def lw_Q (_ : Array Value) (s : State) (o : Outcome) (t : State) : Prop := o = .returned (some (.int 1)) ∧ Framed s o t [] 600000 7302250
def lw_Z (below : List Frame) (a : Array Value) (s : State) : State → Prop := fun t => ∃ o, t.status = .running ∧ Ended t below o ∧ lw_Q a s o t
/-- the law's own end, with 1 on the stack, nothing written that was there before, its room as the claim has it -/
theorem lw_ret {p : Program} {l : Launch} {e : Env} {s : State} {m : MethodId} {below : List Frame} {meth : Method} {c : Code} {b : Nat} (hx : p.tables.exec = Jvm.exec) (hb : c.code = code) (hr : meth.sig.returnType = ret) (hlocks : meth.locks = false) {pc : Nat} {H : Heap} {ls : Array Slot} (hdg : decode code pc = .ok (.ireturn, 1)) : W p l e room_1 s m #[Value.ref b] below meth c H [] 600000 7302250 (lw_Z below #[Value.ref b] s) (F0 m pc ls [.int 1]) := by
  intro T hT X
  obtain ⟨fs, hret, hrun, hended, hW, hframe⟩ := X.leave (v := some (.int 1)) (hlocks := hlocks) (fun h => by rw [hr] at h; cases h)
  have hmeth' : T.vm.method? m = some meth := X.method'
  refine ⟨T.setFrames fs, ?_, .returned (some (.int 1)), hrun, hended, rfl, ⟨_, rfl⟩, hW, hframe⟩
  jvm_step X.here [X.here.top, hx, hb, hdg, hmeth', hr, ret, narrow_b1]
  (try refine ⟨rfl, ?_⟩); (try refine ⟨rfl, ?_⟩)
  first | (intro acts; rw [hret _ acts rfl rfl rfl]) | rw [hret _ _ rfl rfl rfl]
  exact Steps.refl _
/-- what holds at the law's entry: the machine, the code, the tables' words (any of lw_tbl by 'hts w (by decide +kernel)'), the script of L ints xs at the cell b, what the Statement gives of the start (any of its parts by flat_of_before) -/
def lw_At (p : Program) (s : State) (m : MethodId) (meth : Method) (c : Code) (b L : Nat) (xs : Nat → Int32) : Prop :=
  p.tables.exec = Jvm.exec ∧ c.code = code ∧ meth.sig.returnType = ret ∧ c.maxLocals = 4 ∧ s.vm.findClass R_law = some m.cls ∧ (∀ w ∈ lw_tbl, w.before #[Value.ref b] s = true) ∧ va_X b L xs s s.heap ∧ b < s.heap.size ∧ meth.locks = false ∧ (Jvm.Cond.and given_1 narrow_1).before #[Value.ref b] s = true
/-! the law's world -/
def LawI (D : va_G) (cyI : ClassId) (s : State) (u v : Nat) (H : Heap) (locs : List Loc) : Prop := ∃ (n1 t1 s1 y1 x1 r1 g1 p1 n2 n3 t2 t3 s2 s3 y2 y3 x2 x3 r2 r3 r4 g2 g4 g6 g8 g3 g5 g7 g9 p2 p5 p7 p6 p8 p3 p4 a0 a1 a2 a3 a5 a7 a11 a15 : Nat) (hv ny nx ri rk size laid gath psz e8 e9 e10 e13 e14 : Int) (c ct cs d x rc o kd f g ah le pc m kc tc d8 ms l8 y8 : Int → Int), va_P D vwCl [(u, .inr (7, [.ref n1, .ref t1, .ref s1, .int (iI (hv)), .ref y1, .ref x1, .ref r1, .ref g1, .ref p1])), (n1, .inr (0, [.ref n2])), (n2, .inr (5, [.ref n3])), (n3, fA cyI 54 c), (t1, .inr (0, [.ref t2])), (t2, .inr (5, [.ref t3])), (t3, fA cyI 54 ct), (s1, .inr (0, [.ref s2])), (s2, .inr (5, [.ref s3])), (s3, fA cyI 54 cs), (y1, .inr (1, [.ref y2, .int (iI (ny))])), (y2, .inr (5, [.ref y3])), (y3, fA cyI 216 d), (x1, .inr (6, [.ref x2, .int (iI (nx))])), (x2, .inr (5, [.ref x3])), (x3, fA cyI 60 x), (r1, .inr (4, [.ref r2, .int (iI (ri)), .int (iI (rk))])), (r2, .inr (0, [.ref r3])), (r3, .inr (5, [.ref r4])), (r4, fA cyI 54 rc), (g1, .inr (2, [.ref g2, .ref g4, .ref g6, .ref g8, .int (iI (size)), .int (iI (laid)), .int (iI (gath))])), (g2, .inr (5, [.ref g3])), (g3, fA cyI 65 o), (g4, .inr (5, [.ref g5])), (g5, fA cyI 65 kd), (g6, .inr (5, [.ref g7])), (g7, fA cyI 12 f), (g8, .inr (5, [.ref g9])), (g9, fA cyI 12 g), (p1, .inr (3, [.ref p2, .ref p5, .ref p7, .int (iI (psz))])), (p5, .inr (5, [.ref p6])), (p6, fA cyI 13 ah), (p7, .inr (5, [.ref p8])), (p8, fA cyI 676 le), (p2, .inr (0, [.ref p3])), (p3, .inr (5, [.ref p4])), (p4, fA cyI 54 pc), (v, .inr (8, [.ref a0, .ref a1, .ref a2, .ref a3, .int (iI (ny)), .ref a5, .int (iI (hv)), .ref a7, .int (iI (e8)), .int (iI (e9)), .int (iI (e10)), .ref a11, .int (iI (nx)), .int (iI (e13)), .int (iI (e14)), .ref a15])), (a0, fA cyI 54 m), (a1, fA cyI 54 kc), (a2, fA cyI 54 tc), (a3, fA cyI 216 d8), (a5, fA cyI 54 ms), (a7, fA cyI 3328 l8), (a11, fA cyI 60 x), (a15, fA cyI 48 y8)] H ∧ va_D (fun q : Nat => s.heap.size ≤ q) [(u, .inr (7, [.ref n1, .ref t1, .ref s1, .int (iI (hv)), .ref y1, .ref x1, .ref r1, .ref g1, .ref p1])), (n1, .inr (0, [.ref n2])), (n2, .inr (5, [.ref n3])), (n3, fA cyI 54 c), (t1, .inr (0, [.ref t2])), (t2, .inr (5, [.ref t3])), (t3, fA cyI 54 ct), (s1, .inr (0, [.ref s2])), (s2, .inr (5, [.ref s3])), (s3, fA cyI 54 cs), (y1, .inr (1, [.ref y2, .int (iI (ny))])), (y2, .inr (5, [.ref y3])), (y3, fA cyI 216 d), (x1, .inr (6, [.ref x2, .int (iI (nx))])), (x2, .inr (5, [.ref x3])), (x3, fA cyI 60 x), (r1, .inr (4, [.ref r2, .int (iI (ri)), .int (iI (rk))])), (r2, .inr (0, [.ref r3])), (r3, .inr (5, [.ref r4])), (r4, fA cyI 54 rc), (g1, .inr (2, [.ref g2, .ref g4, .ref g6, .ref g8, .int (iI (size)), .int (iI (laid)), .int (iI (gath))])), (g2, .inr (5, [.ref g3])), (g3, fA cyI 65 o), (g4, .inr (5, [.ref g5])), (g5, fA cyI 65 kd), (g6, .inr (5, [.ref g7])), (g7, fA cyI 12 f), (g8, .inr (5, [.ref g9])), (g9, fA cyI 12 g), (p1, .inr (3, [.ref p2, .ref p5, .ref p7, .int (iI (psz))])), (p5, .inr (5, [.ref p6])), (p6, fA cyI 13 ah), (p7, .inr (5, [.ref p8])), (p8, fA cyI 676 le), (p2, .inr (0, [.ref p3])), (p3, .inr (5, [.ref p4])), (p4, fA cyI 54 pc), (v, .inr (8, [.ref a0, .ref a1, .ref a2, .ref a3, .int (iI (ny)), .ref a5, .int (iI (hv)), .ref a7, .int (iI (e8)), .int (iI (e9)), .int (iI (e10)), .ref a11, .int (iI (nx)), .int (iI (e13)), .int (iI (e14)), .ref a15])), (a0, fA cyI 54 m), (a1, fA cyI 54 kc), (a2, fA cyI 54 tc), (a3, fA cyI 216 d8), (a5, fA cyI 54 ms), (a7, fA cyI 3328 l8), (a11, fA cyI 60 x), (a15, fA cyI 48 y8)] ∧ va_S (fun q : Nat => s.heap.size ≤ q) s.heap H locs ∧
  ((CatOK c ∧ Same c (cM m)) ∧ (HR d d8 ny ∧ 0 ≤ ny ∧ ny ≤ 4) ∧ ((hv = 0 ∨ hv = 1) ∧ (hv = 1 → CatOK cs ∧ Same cs (cM ms))) ∧ (TextOK x ∧ 0 ≤ nx ∧ nx ≤ 60))
theorem LawI_S {D : va_G} {cyI : ClassId} {s : State} {u v : Nat} {H : Heap} {locs : List Loc} (h : LawI D cyI s u v H locs) : va_S (fun q : Nat => s.heap.size ≤ q) s.heap H locs := by
  obtain ⟨n1, t1, s1, y1, x1, r1, g1, p1, n2, n3, t2, t3, s2, s3, y2, y3, x2, x3, r2, r3, r4, g2, g4, g6, g8, g3, g5, g7, g9, p2, p5, p7, p6, p8, p3, p4, a0, a1, a2, a3, a5, a7, a11, a15, hv, ny, nx, ri, rk, size, laid, gath, psz, e8, e9, e10, e13, e14, c, ct, cs, d, x, rc, o, kd, f, g, ah, le, pc, m, kc, tc, d8, ms, l8, y8, -, -, hS, -⟩ := h
  exact hS
section LWK
variable {p : Program} {l : Launch} {e : Env} {R : Room} {s : State} {m : MethodId} {args : Array Value} {below : List Frame} {meth : Method} {c : Code} {H : Heap} {locs : List Loc} {cells slots : Nat} {Q : State → Prop}
variable {cc : ByteArray} {pc : Nat} {ls : Array Slot} {rest : List Value} {b L : Nat} {xs : Nat → Int32}
theorem fp_sld (hexec : p.tables.exec = Jvm.exec) (hb : c.code = cc) (hX : va_X b L xs s s.heap) (hbl : b < s.heap.size) (hS : va_S (fun q : Nat => s.heap.size ≤ q) s.heap H locs) {k : Int} (h : 0 ≤ k ∧ k < L) (hL : L ≤ 2048) (hdg : decode cc pc = .ok (.iaload, 1))
    (kk : W p l e R s m args below meth c H locs cells slots Q (F0 m (pc + 1) ls (.int (iI (scI xs k)) :: rest))) : W p l e R s m args below meth c H locs cells slots Q (F0 m pc ls (.int (iI k) :: .ref b :: rest)) := by
  refine va_sld hexec hb hX hbl (Nat.not_le.mpr hbl) hS (iI_in h (by omega)) hdg ?_
  rw [iI_cl (by omega), ← iI_eta (xs k.toNat)]
  exact kk
theorem fp_slen (hexec : p.tables.exec = Jvm.exec) (hb : c.code = cc) (hX : va_X b L xs s s.heap) (hbl : b < s.heap.size) (hS : va_S (fun q : Nat => s.heap.size ≤ q) s.heap H locs) (hdg : decode cc pc = .ok (.arraylength, 1))
    (kk : W p l e R s m args below meth c H locs cells slots Q (F0 m (pc + 1) ls (.int (iI (L : Int)) :: rest))) : W p l e R s m args below meth c H locs cells slots Q (F0 m pc ls (.ref b :: rest)) := by
  refine va_slen hexec hb hX hbl (Nat.not_le.mpr hbl) hS hdg ?_
  rw [show Int32.ofNat L = iI (L : Int) from iI_nat L]
  exact kk
theorem fp_iandx (hexec : p.tables.exec = Jvm.exec) (hb : c.code = cc) {x y : Int} (hdg : decode cc pc = .ok (.iand, 1))
    (kk : ∀ z : Int, -2147483648 ≤ z ∧ z ≤ 2147483647 → W p l e R s m args below meth c H locs cells slots Q (F0 m (pc + 1) ls (.int (iI z) :: rest))) : W p l e R s m args below meth c H locs cells slots Q (F0 m pc ls (.int (iI y) :: .int (iI x) :: rest)) := by
  refine lv_iand hexec hb hdg ?_
  rw [← iI_eta (iI x &&& iI y)]
  exact kk _ (iI_rg _)
theorem fp_i2cx (hexec : p.tables.exec = Jvm.exec) (hb : c.code = cc) {x : Int} (hdg : decode cc pc = .ok (.i2c, 1))
    (kk : W p l e R s m args below meth c H locs cells slots Q (F0 m (pc + 1) ls (.int (iI (chrI x)) :: rest))) : W p l e R s m args below meth c H locs cells slots Q (F0 m pc ls (.int (iI x) :: rest)) :=
  lv_i2c hexec hb hdg (iI_eta _).symm kk
end LWK
theorem icN {c m : Int → Int} (hC : CatOK c) (hS : Same c (cM m)) {k b q : Int} (hb : 0 ≤ b ∧ b ≤ 1) : (if ¬ (0 ≤ k ∧ k < cM m 0) then (-1 : Int) else if ¬ (0 ≤ q ∧ q ≤ mostC (cM m) k) then -2 else csC (choL (cM m) k b q)) = if ¬ (0 ≤ k ∧ k < c 0) then -1 else if ¬ (0 ≤ q ∧ q ≤ mostC c k) then -2 else csC (choL c k b q) := by
  have hN := hC.1
  rw [← hS.1]
  by_cases r : 0 ≤ k ∧ k < c 0
  · rw [← (Same_len hS r).2.2]
    by_cases s : 0 ≤ q ∧ q ≤ mostC c k
    · rw [Same_cs (Same_cho hS hN.2 (k := k) (b := b) (q := q) (by omega)) (Cat_cho hC r hb s)]
    · rw [if_neg (c := ¬ (0 ≤ k ∧ k < c 0)) (fun z => z r), if_neg (c := ¬ (0 ≤ k ∧ k < c 0)) (fun z => z r), if_pos s, if_pos s]
  · rw [if_pos r, if_pos r]
theorem chpN {c m g g3 : Int → Int} (hC : CatOK c) (hS : Same c (cM m)) {k w : Int} (h1 : (0 ≤ k ∧ k < c 0) ∧ (0 ≤ w ∧ w ≤ 1) → Agr g c ∧ CatOK g ∧ Opt c g (c (49 + 0)) (c 0)) (h2 : (0 ≤ k ∧ k < cM m 0) ∧ (0 ≤ w ∧ w ≤ 1) → Agr (cM g3) (cM m) ∧ CatOK (cM g3) ∧ Opt (cM m) (cM g3) (cM m (49 + 0)) (cM m 0)) : (if ¬ (0 ≤ k ∧ k < cM m 0) then (-1 : Int) else if ¬ (0 ≤ w ∧ w ≤ 1) then -2 else if w = 0 then cM g3 (k * 4 + 3) else if cM m (k * 4 + 2) = 0 then -5 else cM g3 (k * 4 + 4)) = if ¬ (0 ≤ k ∧ k < c 0) then -1 else if ¬ (0 ≤ w ∧ w ≤ 1) then -2 else if w = 0 then g (k * 4 + 3) else if c (k * 4 + 2) = 0 then -5 else g (k * 4 + 4) := by
  rw [← hS.1] at h2 ⊢
  by_cases r : 0 ≤ k ∧ k < c 0
  · by_cases s : 0 ≤ w ∧ w ≤ 1
    · have a1 := h1 ⟨r, s⟩
      have a2 := h2 ⟨r, s⟩
      have hg := plU hC hS a1.1 a1.2.2 a2.1 (by rw [← hS.1]; exact a2.2.2)
      have h3 := hg.2.1 k r.1 (by rw [a1.1.1]; exact r.2)
      have h4 := hS.2.1 k r.1 r.2
      rw [← h3.2.2.1, ← h3.2.2.2, ← h4.2.1]
    · rw [if_neg (c := ¬ (0 ≤ k ∧ k < c 0)) (fun z => z r), if_neg (c := ¬ (0 ≤ k ∧ k < c 0)) (fun z => z r), if_pos s, if_pos s]
  · rw [if_pos r, if_pos r]
theorem lcX {c m g : Int → Int} (hC : CatOK c) (hS : Same c (cM m)) {sz : Int} (h : (sz = 4 ∨ sz = 8 ∨ sz = 16) → Agr g (upI c (49 + 0) sz) ∧ CatOK g ∧ Opt (upI c (49 + 0) sz) g sz (c 0)) : (if ¬ (sz = 4 ∨ sz = 8 ∨ sz = 16) then (-2 : Int) else bsI (upI (cM m) (49 + 0) sz) sz (cM m 0).toNat 0 0 0) = if ¬ (sz = 4 ∨ sz = 8 ∨ sz = 16) then -2 else csC g := by
  by_cases r : sz = 4 ∨ sz = 8 ∨ sz = 16
  · have a := h r
    rw [lcN hC hS r a.1 a.2.1 a.2.2]
  · rw [if_pos r, if_pos r]
theorem rsN {cs ms : Int → Int} {hv : Int} (h01 : hv = 0 ∨ hv = 1) (h : hv = 1 → CatOK cs ∧ Same cs (cM ms)) : rsR hv cs = rsR hv (cM ms) := by
  unfold rsR
  rcases h01 with e | e
  · rw [if_pos e, if_pos e]
  · rw [if_neg (by omega), if_neg (by omega), (h e).2.1]
theorem rsX {c m cs ms : Int → Int} {hv : Int} (hC : CatOK c) (hS : Same c (cM m)) (h01 : hv = 0 ∨ hv = 1) (h : hv = 1 → CatOK cs ∧ Same cs (cM ms)) : CatOK (if 0 ≤ rsR hv cs then cs else c) ∧ Same (if 0 ≤ rsR hv cs then cs else c) (cM (if 0 ≤ rsR hv (cM ms) then ms else m)) := by
  rw [← rsN h01 h]
  by_cases q : 0 ≤ rsR hv cs
  · rw [if_pos q, if_pos q]
    refine h ?_
    unfold rsR at q
    rcases h01 with e | e
    · rw [if_pos e] at q; omega
    · exact e
  · rw [if_neg q, if_neg q]
    exact ⟨hC, hS⟩
theorem unX {c m d d8 : Int → Int} {n : Int} (hC : CatOK c) (hS : Same c (cM m)) (hH : HR d d8 n) (hn : 0 ≤ n ∧ n ≤ 4) : (CatOK (if n = 0 then c else shfI d ((n - 1) * 54)) ∧ Same (if n = 0 then c else shfI d ((n - 1) * 54)) (cM (if n = 0 then m else shfI d8 ((n - 1) * 54)))) ∧ HR d d8 (if n = 0 then n else n - 1) ∧ 0 ≤ (if n = 0 then n else n - 1) ∧ (if n = 0 then n else n - 1) ≤ 4 := by
  by_cases q : n = 0
  · rw [if_pos q, if_pos q, if_pos q]
    exact ⟨⟨hC, hS⟩, hH, hn⟩
  · rw [if_neg q, if_neg q, if_neg q]
    exact ⟨hH (n - 1) (by omega) (by omega), fun i a b' => hH i a (by omega), by omega, by omega⟩
theorem tyX {x : Int → Int} {n w : Int} (hx : TextOK x) (hn : 0 ≤ n ∧ n ≤ 60) (hw : 0 ≤ w ∧ w ≤ 65535) : TextOK (if 60 ≤ n then x else upI x n w) ∧ 0 ≤ (if 60 ≤ n then n else n + 1) ∧ (if 60 ≤ n then n else n + 1) ≤ 60 := by
  by_cases q : 60 ≤ n
  · rw [if_pos q, if_pos q]
    exact ⟨hx, hn⟩
  · rw [if_neg q, if_neg q]
    refine ⟨fun j => ?_, by omega, by omega⟩
    by_cases e : j = n
    · rw [upI_s e]; exact hw
    · rw [upI_n e]; exact hx j
