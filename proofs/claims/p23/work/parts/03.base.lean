/-! ints as integers; contracts of methods that only read, and of those that write; rows over integers -/
abbrev vwCl : List vw_C := [(RX0, TX0, 1), (RX1, TX1, 2), (RX2, TX2, 7), (RX3, TX3, 4), (RX4, TX4, 3), (RX5, TX5, 1), (RX6, TX6, 2), (RX7, TX7, 9)]
def iI (z : Int) : Int32 := Int32.ofInt z
def lI (z : Int) : Int64 := Int64.ofInt z
theorem iI_add (a b : Int) : iI a + iI b = iI (a + b) := (Int32.ofInt_add a b).symm
theorem iI_sub (a b : Int) : iI a - iI b = iI (a - b) := (Int32.ofInt_sub a b).symm
theorem iI_mul (a b : Int) : iI a * iI b = iI (a * b) := (Int32.ofInt_mul a b).symm
theorem lI_sub (a b : Int) : lI a - lI b = lI (a - b) := (Int64.ofInt_sub a b).symm
theorem iI_toInt {a : Int} (h : -2147483648 ≤ a ∧ a ≤ 2147483647) : (iI a).toInt = a := Int32.toInt_ofInt_of_le (by omega) (by omega)
theorem lI_toInt {a : Int} (h : -2147483648 * 4294967296 ≤ a ∧ a ≤ 2147483647 * 4294967296) : (lI a).toInt = a := Int64.toInt_ofInt_of_le (by omega) (by omega)
theorem iI_eta (x : Int32) : iI x.toInt = x := Int32.ofInt_toInt x
theorem iI_rg (x : Int32) : -2147483648 ≤ x.toInt ∧ x.toInt ≤ 2147483647 := by
  have h1 := x.toInt_lt
  have h2 := x.le_toInt
  omega
theorem iI_lt {a b : Int} (h : (-2147483648 ≤ a ∧ a ≤ 2147483647) ∧ (-2147483648 ≤ b ∧ b ≤ 2147483647)) : iI a < iI b ↔ a < b := by rw [Int32.lt_iff_toInt_lt, iI_toInt h.1, iI_toInt h.2]
theorem iI_le {a b : Int} (h : (-2147483648 ≤ a ∧ a ≤ 2147483647) ∧ (-2147483648 ≤ b ∧ b ≤ 2147483647)) : iI a ≤ iI b ↔ a ≤ b := by rw [Int32.le_iff_toInt_le, iI_toInt h.1, iI_toInt h.2]
theorem iI_eq {a b : Int} (h : (-2147483648 ≤ a ∧ a ≤ 2147483647) ∧ (-2147483648 ≤ b ∧ b ≤ 2147483647)) : iI a = iI b ↔ a = b :=
  ⟨fun e => by have e2 := congrArg Int32.toInt e; rwa [iI_toInt h.1, iI_toInt h.2] at e2, fun e => by rw [e]⟩
theorem lI_lt {a b : Int} (h : (-2147483648 * 4294967296 ≤ a ∧ a ≤ 2147483647 * 4294967296) ∧ (-2147483648 * 4294967296 ≤ b ∧ b ≤ 2147483647 * 4294967296)) : lI a < lI b ↔ a < b := by rw [Int64.lt_iff_toInt_lt, lI_toInt h.1, lI_toInt h.2]
theorem lI_eq {a b : Int} (h : (-2147483648 * 4294967296 ≤ a ∧ a ≤ 2147483647 * 4294967296) ∧ (-2147483648 * 4294967296 ≤ b ∧ b ≤ 2147483647 * 4294967296)) : lI a = lI b ↔ a = b :=
  ⟨fun e => by have e2 := congrArg Int64.toInt e; rwa [lI_toInt h.1, lI_toInt h.2] at e2, fun e => by rw [e]⟩
theorem iI_l {a : Int} (h : -2147483648 ≤ a ∧ a ≤ 2147483647) : (iI a).toInt64 = lI a := by
  apply Int64.toInt_inj.mp
  rw [Int32.toInt_toInt64, iI_toInt h, lI_toInt (by omega)]
theorem iI_cl {a : Int} (h : -2147483648 ≤ a ∧ a ≤ 2147483647) : (iI a).toNatClampNeg = a.toNat := Int32.toNatClampNeg_ofInt_of_le (by omega) (by omega)
theorem iI_in {a : Int} {n : Nat} (h : 0 ≤ a ∧ a < n) (hn : n ≤ 2147483647) : vp_in (iI a) n := by
  rw [vp_in_iff, iI_toInt (by omega)]
  exact h
theorem iI_nat (n : Nat) : nI n = iI (n : Int) := Int32.ofInt_eq_ofNat.symm
theorem iI_div {a b : Int} (h : 0 ≤ a ∧ a ≤ 2147483647 ∧ 0 < b ∧ b ≤ 2147483647) : iI a / iI b = iI (a / b) := by
  obtain ⟨m, rfl⟩ := Int.eq_ofNat_of_zero_le h.1
  obtain ⟨n, rfl⟩ := Int.eq_ofNat_of_zero_le (show 0 ≤ b by omega)
  rw [← iI_nat, ← iI_nat, pk_div (by omega) (by omega) (by omega), iI_nat]
  rfl
theorem iI_rem {a b : Int} (h : 0 ≤ a ∧ a ≤ 2147483647 ∧ 0 < b ∧ b ≤ 2147483647) : iI a - iI a / iI b * iI b = iI (a % b) := by
  rw [iI_div h, iI_mul, iI_sub]
  congr 1
  rw [Int.emod_def, Int.mul_comm]
theorem iI_ne0 {b : Int} (h : 0 < b ∧ b ≤ 2147483647) : ¬ iI b = 0 := by
  rw [show (0 : Int32) = iI 0 from rfl, iI_eq (by omega)]
  omega
theorem iI_and3 {a : Int} (h : 0 ≤ a ∧ a ≤ 2147483647) : iI a &&& iI 3 = iI (a % 4) := by
  obtain ⟨m, rfl⟩ := Int.eq_ofNat_of_zero_le h.1
  rw [← iI_nat, pk_andN (by omega) (m := iI 3) 2 (by decide), iI_nat]
  rfl
theorem iI_and1 {a : Int} (h : 0 ≤ a ∧ a ≤ 2147483647) : iI a &&& iI 1 = iI (a % 2) := by
  obtain ⟨m, rfl⟩ := Int.eq_ofNat_of_zero_le h.1
  rw [← iI_nat, pk_andN (by omega) (m := iI 1) 1 (by decide), iI_nat]
  rfl
def andI (a b : Int) : Int := ((a.toNat &&& b.toNat : Nat) : Int)
def orI (a b : Int) : Int := ((a.toNat ||| b.toNat : Nat) : Int)
theorem iI_andS {a b : Int} (h : 0 ≤ a ∧ a ≤ 3 ∧ 0 ≤ b ∧ b ≤ 3) : iI a &&& iI b = iI (andI a b) := by
  have h1 : a = 0 ∨ a = 1 ∨ a = 2 ∨ a = 3 := by omega
  have h2 : b = 0 ∨ b = 1 ∨ b = 2 ∨ b = 3 := by omega
  rcases h1 with rfl | rfl | rfl | rfl <;> rcases h2 with rfl | rfl | rfl | rfl <;> decide
theorem iI_orS {a b : Int} (h : 0 ≤ a ∧ a ≤ 3 ∧ 0 ≤ b ∧ b ≤ 3) : iI a ||| iI b = iI (orI a b) := by
  have h1 : a = 0 ∨ a = 1 ∨ a = 2 ∨ a = 3 := by omega
  have h2 : b = 0 ∨ b = 1 ∨ b = 2 ∨ b = 3 := by omega
  rcases h1 with rfl | rfl | rfl | rfl <;> rcases h2 with rfl | rfl | rfl | rfl <;> decide
theorem andI_rg {a b : Int} (h : 0 ≤ a ∧ a ≤ 3 ∧ 0 ≤ b ∧ b ≤ 3) : 0 ≤ andI a b ∧ andI a b ≤ 3 := by
  have h1 : a = 0 ∨ a = 1 ∨ a = 2 ∨ a = 3 := by omega
  have h2 : b = 0 ∨ b = 1 ∨ b = 2 ∨ b = 3 := by omega
  rcases h1 with rfl | rfl | rfl | rfl <;> rcases h2 with rfl | rfl | rfl | rfl <;> decide
theorem orI_rg {a b : Int} (h : 0 ≤ a ∧ a ≤ 3 ∧ 0 ≤ b ∧ b ≤ 3) : 0 ≤ orI a b ∧ orI a b ≤ 3 := by
  have h1 : a = 0 ∨ a = 1 ∨ a = 2 ∨ a = 3 := by omega
  have h2 : b = 0 ∨ b = 1 ∨ b = 2 ∨ b = 3 := by omega
  rcases h1 with rfl | rfl | rfl | rfl <;> rcases h2 with rfl | rfl | rfl | rfl <;> decide
def bI (p : Prop) [Decidable p] : Int := if p then 1 else 0
theorem bI_t {p : Prop} [Decidable p] (h : p) : bI p = 1 := if_pos h
theorem bI_f {p : Prop} [Decidable p] (h : ¬ p) : bI p = 0 := if_neg h
theorem bI_c {p q : Prop} [Decidable p] [Decidable q] (h : p ↔ q) : bI p = bI q := by
  by_cases hp : p
  · rw [bI_t hp, bI_t (h.mp hp)]
  · rw [bI_f hp, bI_f (fun x => hp (h.mpr x))]
theorem bI_01 (p : Prop) [Decidable p] : bI p = 0 ∨ bI p = 1 := by
  by_cases hp : p
  · exact Or.inr (bI_t hp)
  · exact Or.inl (bI_f hp)
theorem bI_rg (p : Prop) [Decidable p] : 0 ≤ bI p ∧ bI p ≤ 1 := by
  rcases bI_01 p with h | h <;> omega
theorem bI_r32 (p : Prop) [Decidable p] : -2147483648 ≤ bI p ∧ bI p ≤ 2147483647 := by
  rcases bI_01 p with h | h <;> omega
/-- a row with one place written -/
def upI (c : Int → Int) (k v : Int) : Int → Int := fun j => if j = k then v else c j
theorem upI_s {c : Int → Int} {k v j : Int} (h : j = k) : upI c k v j = v := if_pos h
theorem upI_n {c : Int → Int} {k v j : Int} (h : ¬ j = k) : upI c k v j = c j := if_neg h
theorem upI_upd (c : Int → Int) {k : Int} (v : Int) (h : 0 ≤ k ∧ k ≤ 2147483647) : upd (fun j : Nat => iI (c (j : Int))) (iI k).toNatClampNeg (iI v) = fun j : Nat => iI (upI c k v (j : Int)) := by
  rw [iI_cl (by omega)]
  funext j
  by_cases e : (j : Int) = k
  · rw [upI_s e, show j = k.toNat by omega]
    exact if_pos rfl
  · rw [upI_n e]
    exact if_neg (by omega)
/-- an array's cell -/
abbrev fA (cyI : ClassId) (n : Nat) (c : Int → Int) : va_E := .inl (cyI, n, .inl (fun j : Nat => iI (c (j : Int))))
/-- what a world's classes are, and the links across the nest -/
def fp_K (D : va_G) (cyI : ClassId) (U : State) : Prop :=
  va_K D vwCl [(cyI, .int)] U ∧ va_Nw (.methodLinkNest RX4 45 yX7_isText "FacingPlates") U ∧ va_Nw (.methodLinkNest RX2 53 yX7_gatheringsFor "FacingPlates") U ∧ va_Nw (.methodLinkNest RX2 101 yX7_sideOfPage "FacingPlates") U ∧ va_Nw (.methodLinkNest RX3 86 yX7_gatheringsFor "FacingPlates") U ∧ va_Nw (.methodLinkNest RX3 130 yX7_gatheringOfPage "FacingPlates") U ∧ va_Nw (.methodLinkNest RX3 136 yX7_sideOfPage "FacingPlates") U ∧ va_Nw (.methodLinkNest RX2 79 yX7_gatheringOfPage "FacingPlates") U
theorem fp_K.warm {D : va_G} {cyI : ClassId} {s U : State} (hW : s.WarmedH U.vm) (h : fp_K D cyI s) : fp_K D cyI U :=
  ⟨va_K.moved hW.alike h.1, va_Nw.warmM hW h.2.1, va_Nw.warmM hW h.2.2.1, va_Nw.warmM hW h.2.2.2.1, va_Nw.warmM hW h.2.2.2.2.1, va_Nw.warmM hW h.2.2.2.2.2.1, va_Nw.warmM hW h.2.2.2.2.2.2.1, va_Nw.warmM hW h.2.2.2.2.2.2.2⟩
theorem fp_K.same {D : va_G} {cyI : ClassId} {u U : State} (e : u.vm = U.vm) (h : fp_K D cyI u) : fp_K D cyI U :=
  ⟨va_K.moved (by rw [e]; exact Vm.Alike.refl U.vm) h.1, va_Nw.same rfl e h.2.1, va_Nw.same rfl e h.2.2.1, va_Nw.same rfl e h.2.2.2.1, va_Nw.same rfl e h.2.2.2.2.1, va_Nw.same rfl e h.2.2.2.2.2.1, va_Nw.same rfl e h.2.2.2.2.2.2.1, va_Nw.same rfl e h.2.2.2.2.2.2.2⟩
def fp_Pc (D : va_G) (cyI : ClassId) (wc : va_W) (av : List Value) : Array Value → State → Prop := fun v U => v = av.toArray ∧ va_P D vwCl wc U.heap ∧ fp_K D cyI U ∧ va_D (fun _ => True) wc
theorem fp_blind {D : va_G} {cyI : ClassId} {wc : va_W} {av : List Value} : FrameBlind (fp_Pc D cyI wc av) := fun a U g mk q => by
  obtain ⟨q0, qP, qK, qD⟩ := q
  exact ⟨q0, qP, fp_K.same (u := U) (U := U.calling g mk a) rfl qK, qD⟩
/-- a method that writes nothing: its answer -/
def fp_Qp (v : Option Value) : Array Value → State → Outcome → State → Prop := fun _ st oc t => oc = .returned v ∧ t.heap = st.heap
/-- the addresses of a world -/
def fp_A (wc : va_W) : Nat → Prop := fun q => ∃ (k : Nat) (e : va_E), wc[k]? = some (q, e)
/-- a method that writes cells of its world: the answer, and the same cells behind it -/
def fp_Qw {S : Type} (D : va_G) (wc : va_W) (post : S → Prop) (ret : S → Option Value) (wW : S → va_W) : Array Value → State → Outcome → State → Prop := fun _ st oc t => (∃ u : S, post u ∧ oc = .returned (ret u) ∧ va_P D vwCl (wW u) t.heap) ∧ va_F (fp_A wc) st t
abbrev fp_M (l : Launch) (y : MethodName) (ws : List Cond) (rm : Room) (D : va_G) (cyI : ClassId) (wc : va_W) (av : List Value) (v : Option Value) : Prop := Met l y ws rm (fp_Pc D cyI wc av) (fp_Qp v) 0 0 (fun _ => False)
abbrev fp_MW (l : Launch) (y : MethodName) (ws : List Cond) (rm : Room) (D : va_G) (cyI : ClassId) (wc : va_W) (av : List Value) {S : Type} (post : S → Prop) (ret : S → Option Value) (wW : S → va_W) : Prop := Met l y ws rm (fp_Pc D cyI wc av) (fp_Qw D wc post ret wW) 0 0 (fp_A wc)
theorem fp_at {ws w : va_W} {is : List Nat} (hs : is.map (fun i => ws[i]?) = w.map some) {k : Nat} {q : Nat × va_E} (hq : w[k]? = some q) : ∃ i, is[k]? = some i ∧ ws[i]? = some q := by
  have h1 : (is.map (fun i => ws[i]?))[k]? = some (some q) := by rw [hs, List.getElem?_map, hq]; rfl
  rw [List.getElem?_map] at h1
  cases hi : is[k]? with
  | none => rw [hi] at h1; cases h1
  | some i => rw [hi] at h1; exact ⟨i, rfl, Option.some.inj h1⟩
theorem fp_sub {D : va_G} {ws w : va_W} {H : Heap} {is : List Nat} (hP : va_P D vwCl ws H) (hs : is.map (fun i => ws[i]?) = w.map some) : va_P D vwCl w H := fun k q hq => by
  obtain ⟨i, -, h⟩ := fp_at hs hq
  exact hP i q h
theorem fp_self {wc : va_W} (h : va_D (fun _ => True) wc) : va_D (fp_A wc) wc := ⟨h.1, fun k q hk => ⟨k, q.2, hk⟩⟩
/-- cells written at their places -/
def fp_sets : va_W → List Nat → va_W → va_W
  | ws, [], _ => ws
  | ws, i :: is, w => match w with
    | [] => ws
    | q :: qs => fp_sets (ws.set i q) is qs
theorem fp_sets_get : ∀ (is : List Nat) (w ws : va_W) (k : Nat) (q : Nat × va_E), (fp_sets ws is w)[k]? = some q → (∃ j : Nat, is[j]? = some k ∧ w[j]? = some q) ∨ (ws[k]? = some q ∧ (k ∉ is ∨ w.length < is.length)) := by
  intro is
  induction is with
  | nil =>
    intro w ws k q h
    have h : ws[k]? = some q := by cases w <;> exact h
    exact Or.inr ⟨h, Or.inl (by simp)⟩
  | cons i is ih =>
    intro w ws k q h
    cases w with
    | nil => exact Or.inr ⟨h, Or.inr (by simp)⟩
    | cons p w =>
      rcases ih w (ws.set i p) k q h with ⟨j, h1, h2⟩ | ⟨h1, h2⟩
      · exact Or.inl ⟨j + 1, h1, h2⟩
      · by_cases e : i = k
        · subst e
          rw [List.getElem?_set] at h1
          rw [if_pos rfl] at h1
          split at h1
          · exact Or.inl ⟨0, rfl, h1⟩
          · cases h1
        · rw [List.getElem?_set_ne e] at h1
          refine Or.inr ⟨h1, ?_⟩
          rcases h2 with h2 | h2
          · exact Or.inl (fun h => (List.mem_cons.mp h).elim (fun x => e x.symm) h2)
          · exact Or.inr (by simpa using h2)
theorem fp_sets_D {A : Nat → Prop} {ws wc w1 : va_W} {is : List Nat} (hD : va_D A ws) (hs : is.map (fun i => ws[i]?) = wc.map some) (ha : w1.map Prod.fst = wc.map Prod.fst) : va_D A (fp_sets ws is w1) := by
  have key : ∀ (k : Nat) (q : Nat × va_E), (fp_sets ws is w1)[k]? = some q → ∃ e : va_E, ws[k]? = some (q.1, e) := by
    intro k q h
    rcases fp_sets_get is w1 ws k q h with ⟨j, h1, h2⟩ | ⟨h1, -⟩
    · have h3 : (w1.map Prod.fst)[j]? = some q.1 := by rw [List.getElem?_map, h2]; rfl
      rw [ha, List.getElem?_map] at h3
      cases hw : wc[j]? with
      | none => rw [hw] at h3; cases h3
      | some p =>
        rw [hw] at h3
        obtain ⟨i, h4, h5⟩ := fp_at hs hw
        rw [h1] at h4
        cases h4
        have h6 : p.1 = q.1 := Option.some.inj h3
        exact ⟨p.2, by rw [h5, ← h6]⟩
    · exact ⟨q.2, h1⟩
  refine ⟨fun i j p q hi hj e => ?_, fun k q hq => ?_⟩
  · obtain ⟨a, h1⟩ := key i p hi
    obtain ⟨b, h2⟩ := key j q hj
    exact hD.1 i j (p.1, a) (q.1, b) h1 h2 e
  · obtain ⟨a, h1⟩ := key k q hq
    exact hD.2 k (q.1, a) h1
theorem fp_sets_P {A : Nat → Prop} {D : va_G} {ws wc w1 : va_W} {H H1 : Heap} {is : List Nat} (hP : va_P D vwCl ws H) (hD : va_D A ws) (hs : is.map (fun i => ws[i]?) = wc.map some) (ha : w1.map Prod.fst = wc.map Prod.fst) (hP1 : va_P D vwCl w1 H1)
    (hk : ∀ q : Nat, q < H.size → ¬ fp_A wc q → H1[q]? = H[q]?) : va_P D vwCl (fp_sets ws is w1) H1 := by
  intro k q h
  have hl1 : w1.length = wc.length := by simpa using congrArg List.length ha
  have hl2 : is.length = wc.length := by simpa using congrArg List.length hs
  rcases fp_sets_get is w1 ws k q h with ⟨j, h1, h2⟩ | ⟨h1, h2⟩
  · exact hP1 j q h2
  · refine (hP k q h1).kept (hk q.1 (hP k q h1).lt ?_)
    rintro ⟨j, e, h3⟩
    obtain ⟨i, h4, h5⟩ := fp_at hs h3
    have h6 := hD.1 i k _ _ h5 h1 rfl
    subst h6
    rcases h2 with h2 | h2
    · exact h2 (List.mem_of_getElem? h4)
    · omega
/-- what lies behind an array's end is free -/
theorem fp_ext {D : va_G} {cyI : ClassId} {ws : va_W} {H : Heap} {A : Nat → Prop} (hP : va_P D vwCl ws H) (hD : va_D A ws) (q0 : Nat) {a n : Nat} {f f' : Int → Int} (ha : ws[q0]? = some (a, fA cyI n f)) (h : ∀ j : Int, 0 ≤ j → j < n → f j = f' j) : va_P D vwCl (ws.set q0 (a, fA cyI n f')) H ∧ va_D A (ws.set q0 (a, fA cyI n f')) := by
  refine ⟨hP.set hD ha ?_ (fun _ _ => rfl), hD.set ha⟩
  have h1 : H[a]? = some (vp_cell cyI (n, .inl (fun j : Nat => iI (f (j : Int))))) := hP q0 _ ha
  show H[a]? = some (vp_cell cyI (n, .inl (fun j : Nat => iI (f' (j : Int)))))
  rw [h1, vp_cell_i, vp_cell_i]
  unfold arrV
  congr 3
  funext j
  show Value.int (iI (f (j.val : Int))) = Value.int (iI (f' (j.val : Int)))
  rw [h (j.val : Int) (by omega) (by have := j.isLt; omega)]
section FPR
variable {p : Program} {l : Launch} {e : Env} {R : Room} {s : State} {m : MethodId} {args : Array Value} {below : List Frame} {meth : Method} {c : Code} {H : Heap} {locs : List Loc} {cells slots : Nat} {Q : State → Prop}
variable {cc : ByteArray} {pc : Nat} {ls : Array Slot} {rest : List Value}
theorem fp_iconst (hexec : p.tables.exec = Jvm.exec) (hb : c.code = cc) {n : Int} (hdg : decode cc pc = .ok (.iconst n, 1)) (k : W p l e R s m args below meth c H locs cells slots Q (F0 m (pc + 1) ls (.int (iI n) :: rest))) : W p l e R s m args below meth c H locs cells slots Q (F0 m pc ls rest) := lv_iconst (v := iI n) hexec hb hdg rfl k
theorem fp_bipush (hexec : p.tables.exec = Jvm.exec) (hb : c.code = cc) {n : Int} (hdg : decode cc pc = .ok (.bipush n, 2)) (hv : (Int8.ofInt n).toInt32 = iI n) (k : W p l e R s m args below meth c H locs cells slots Q (F0 m (pc + 2) ls (.int (iI n) :: rest))) : W p l e R s m args below meth c H locs cells slots Q (F0 m pc ls rest) := lv_bipush (v := iI n) hexec hb hdg hv k
theorem fp_sipush (hexec : p.tables.exec = Jvm.exec) (hb : c.code = cc) {n : Int} (hdg : decode cc pc = .ok (.sipush n, 3)) (hv : (Int16.ofInt n).toInt32 = iI n) (k : W p l e R s m args below meth c H locs cells slots Q (F0 m (pc + 3) ls (.int (iI n) :: rest))) : W p l e R s m args below meth c H locs cells slots Q (F0 m pc ls rest) := lv_sipush (v := iI n) hexec hb hdg hv k
theorem fp_iadd (hexec : p.tables.exec = Jvm.exec) (hb : c.code = cc) {a b : Int} (hdg : decode cc pc = .ok (.iadd, 1)) (k : W p l e R s m args below meth c H locs cells slots Q (F0 m (pc + 1) ls (.int (iI (a + b)) :: rest))) : W p l e R s m args below meth c H locs cells slots Q (F0 m pc ls (.int (iI b) :: .int (iI a) :: rest)) := lv_iadd hexec hb hdg (by rw [iI_add]; exact k)
theorem fp_isub (hexec : p.tables.exec = Jvm.exec) (hb : c.code = cc) {a b : Int} (hdg : decode cc pc = .ok (.isub, 1)) (k : W p l e R s m args below meth c H locs cells slots Q (F0 m (pc + 1) ls (.int (iI (a - b)) :: rest))) : W p l e R s m args below meth c H locs cells slots Q (F0 m pc ls (.int (iI b) :: .int (iI a) :: rest)) := lv_isub hexec hb hdg (by rw [iI_sub]; exact k)
theorem fp_imul (hexec : p.tables.exec = Jvm.exec) (hb : c.code = cc) {a b : Int} (hdg : decode cc pc = .ok (.imul, 1)) (k : W p l e R s m args below meth c H locs cells slots Q (F0 m (pc + 1) ls (.int (iI (a * b)) :: rest))) : W p l e R s m args below meth c H locs cells slots Q (F0 m pc ls (.int (iI b) :: .int (iI a) :: rest)) := lv_imul hexec hb hdg (by rw [iI_mul]; exact k)
theorem fp_idiv (hexec : p.tables.exec = Jvm.exec) (hb : c.code = cc) {a b : Int} (h : 0 ≤ a ∧ a ≤ 2147483647 ∧ 0 < b ∧ b ≤ 2147483647) (hdg : decode cc pc = .ok (.idiv, 1)) (k : W p l e R s m args below meth c H locs cells slots Q (F0 m (pc + 1) ls (.int (iI (a / b)) :: rest))) : W p l e R s m args below meth c H locs cells slots Q (F0 m pc ls (.int (iI b) :: .int (iI a) :: rest)) := lv_idiv hexec hb hdg (iI_ne0 h.2.2) (by rw [iI_div h]; exact k)
theorem fp_irem (hexec : p.tables.exec = Jvm.exec) (hb : c.code = cc) {a b : Int} (h : 0 ≤ a ∧ a ≤ 2147483647 ∧ 0 < b ∧ b ≤ 2147483647) (hdg : decode cc pc = .ok (.irem, 1)) (k : W p l e R s m args below meth c H locs cells slots Q (F0 m (pc + 1) ls (.int (iI (a % b)) :: rest))) : W p l e R s m args below meth c H locs cells slots Q (F0 m pc ls (.int (iI b) :: .int (iI a) :: rest)) := lv_irem hexec hb hdg (iI_ne0 h.2.2) (by rw [iI_rem h]; exact k)
theorem fp_and3 (hexec : p.tables.exec = Jvm.exec) (hb : c.code = cc) {a : Int} (h : 0 ≤ a ∧ a ≤ 2147483647) (hdg : decode cc pc = .ok (.iand, 1)) (k : W p l e R s m args below meth c H locs cells slots Q (F0 m (pc + 1) ls (.int (iI (a % 4)) :: rest))) : W p l e R s m args below meth c H locs cells slots Q (F0 m pc ls (.int (iI 3) :: .int (iI a) :: rest)) := lv_iand hexec hb hdg (by rw [iI_and3 h]; exact k)
theorem fp_and1 (hexec : p.tables.exec = Jvm.exec) (hb : c.code = cc) {a : Int} (h : 0 ≤ a ∧ a ≤ 2147483647) (hdg : decode cc pc = .ok (.iand, 1)) (k : W p l e R s m args below meth c H locs cells slots Q (F0 m (pc + 1) ls (.int (iI (a % 2)) :: rest))) : W p l e R s m args below meth c H locs cells slots Q (F0 m pc ls (.int (iI 1) :: .int (iI a) :: rest)) := lv_iand hexec hb hdg (by rw [iI_and1 h]; exact k)
theorem fp_iand (hexec : p.tables.exec = Jvm.exec) (hb : c.code = cc) {a b : Int} (h : 0 ≤ a ∧ a ≤ 3 ∧ 0 ≤ b ∧ b ≤ 3) (hdg : decode cc pc = .ok (.iand, 1)) (k : W p l e R s m args below meth c H locs cells slots Q (F0 m (pc + 1) ls (.int (iI (andI a b)) :: rest))) : W p l e R s m args below meth c H locs cells slots Q (F0 m pc ls (.int (iI b) :: .int (iI a) :: rest)) := lv_iand hexec hb hdg (by rw [iI_andS h]; exact k)
theorem fp_ior (hexec : p.tables.exec = Jvm.exec) (hb : c.code = cc) {a b : Int} (h : 0 ≤ a ∧ a ≤ 3 ∧ 0 ≤ b ∧ b ≤ 3) (hdg : decode cc pc = .ok (.ior, 1)) (k : W p l e R s m args below meth c H locs cells slots Q (F0 m (pc + 1) ls (.int (iI (orI a b)) :: rest))) : W p l e R s m args below meth c H locs cells slots Q (F0 m pc ls (.int (iI b) :: .int (iI a) :: rest)) := lv_ior hexec hb hdg (by rw [iI_orS h]; exact k)
theorem fp_i2l (hexec : p.tables.exec = Jvm.exec) (hb : c.code = cc) {a : Int} (h : -2147483648 ≤ a ∧ a ≤ 2147483647) (hdg : decode cc pc = .ok (.i2l, 1)) (k : W p l e R s m args below meth c H locs cells slots Q (F0 m (pc + 1) ls (.long (lI a) :: rest))) : W p l e R s m args below meth c H locs cells slots Q (F0 m pc ls (.int (iI a) :: rest)) := lv_i2l hexec hb hdg (iI_l h) k
theorem fp_lconst (hexec : p.tables.exec = Jvm.exec) (hb : c.code = cc) {n : Fin 2} (z : Int) (hdg : decode cc pc = .ok (.lconst n, 1)) (hv : Int64.ofNat (n : Nat) = lI z) (k : W p l e R s m args below meth c H locs cells slots Q (F0 m (pc + 1) ls (.long (lI z) :: rest))) : W p l e R s m args below meth c H locs cells slots Q (F0 m pc ls rest) := lv_lconst hexec hb hdg hv k
theorem fp_ldc2 (hexec : p.tables.exec = Jvm.exec) (hb : c.code = cc) {own : String} {index : Nat} {v : Int64} (z : Int) (hv : v = lI z) (hown : s.vm.findClass own = some m.cls) (hconst : (Jvm.Cond.constantLong own index v).before args s = true) (hdg : decode cc pc = .ok (.ldc2_w index, 3)) (k : W p l e R s m args below meth c H locs cells slots Q (F0 m (pc + 3) ls (.long (lI z) :: rest))) : W p l e R s m args below meth c H locs cells slots Q (F0 m pc ls rest) := lv_ldc2 hexec hb hown hconst hdg (by rw [hv]; exact k)
theorem fp_ldc (hexec : p.tables.exec = Jvm.exec) (hb : c.code = cc) {own : String} {index : Nat} {v : Int32} (z : Int) (hv : v = iI z) (hown : s.vm.findClass own = some m.cls) (hconst : (Jvm.Cond.constant own index v).before args s = true) (hdg : decode cc pc = .ok (.ldc index, 2)) (k : W p l e R s m args below meth c H locs cells slots Q (F0 m (pc + 2) ls (.int (iI z) :: rest))) : W p l e R s m args below meth c H locs cells slots Q (F0 m pc ls rest) := lv_ldc hexec hb hown hconst hdg (by rw [hv]; exact k)
theorem fp_lsub (hexec : p.tables.exec = Jvm.exec) (hb : c.code = cc) {a b : Int} (hdg : decode cc pc = .ok (.lsub, 1)) (k : W p l e R s m args below meth c H locs cells slots Q (F0 m (pc + 1) ls (.long (lI (a - b)) :: rest))) : W p l e R s m args below meth c H locs cells slots Q (F0 m pc ls (.long (lI b) :: .long (lI a) :: rest)) := lv_lsub hexec hb hdg (by rw [lI_sub]; exact k)
theorem fp_iinc (hexec : p.tables.exec = Jvm.exec) (hb : c.code = cc) {i nL k : Nat} {n a : Int} {lv lv' : List (Nat × Value)} (hdg : decode cc pc = .ok (.iinc i n, 3)) (h : lv_has ls nL lv) (hk : lv[k]? = some (i, .int (iI a))) (hn : i < nL) (hl : (i, Value.int (iI (a + n))) :: lv.filter (fun q => !(q.1 == i) && !(q.1 + 1 == i && q.2.category == 2)) = lv') (kk : ∀ ls' : Array Slot, lv_has ls' nL lv' → W p l e R s m args below meth c H locs cells slots Q (F0 m (pc + 3) ls' rest)) : W p l e R s m args below meth c H locs cells slots Q (F0 m pc ls rest) := lv_iinc hexec hb hdg h hk (by rw [show Int32.ofInt n = iI n from rfl, iI_add]) hn hl kk
theorem fp_if_eq (hexec : p.tables.exec = Jvm.exec) (hb : c.code = cc) {a : Int} {off : Int} {tgt : Nat} (h : -2147483648 ≤ a ∧ a ≤ 2147483647) (hdg : decode cc pc = .ok (.ifCond .eq off, 3)) (ht : (pc : Int) + off = (tgt : Int)) (kt : a = 0 → W p l e R s m args below meth c H locs cells slots Q (F0 m tgt ls rest)) (kf : ¬ a = 0 → W p l e R s m args below meth c H locs cells slots Q (F0 m (pc + 3) ls rest)) : W p l e R s m args below meth c H locs cells slots Q (F0 m pc ls (.int (iI a) :: rest)) :=
  have key : iI a = 0 ↔ a = 0 := iI_eq (b := 0) (by omega)
  lv_if_eq hexec hb hdg ht (fun q => kt (key.mp q)) (fun q => kf (fun z => q (key.mpr z)))
theorem fp_if_ne (hexec : p.tables.exec = Jvm.exec) (hb : c.code = cc) {a : Int} {off : Int} {tgt : Nat} (h : -2147483648 ≤ a ∧ a ≤ 2147483647) (hdg : decode cc pc = .ok (.ifCond .ne off, 3)) (ht : (pc : Int) + off = (tgt : Int)) (kt : ¬ a = 0 → W p l e R s m args below meth c H locs cells slots Q (F0 m tgt ls rest)) (kf : a = 0 → W p l e R s m args below meth c H locs cells slots Q (F0 m (pc + 3) ls rest)) : W p l e R s m args below meth c H locs cells slots Q (F0 m pc ls (.int (iI a) :: rest)) :=
  have key : iI a = 0 ↔ a = 0 := iI_eq (b := 0) (by omega)
  lv_if_ne hexec hb hdg ht (fun q => kt (fun z => q (key.mpr z))) (fun q => kf (key.mp q))
theorem fp_if_lt (hexec : p.tables.exec = Jvm.exec) (hb : c.code = cc) {a : Int} {off : Int} {tgt : Nat} (h : -2147483648 ≤ a ∧ a ≤ 2147483647) (hdg : decode cc pc = .ok (.ifCond .lt off, 3)) (ht : (pc : Int) + off = (tgt : Int)) (kt : a < 0 → W p l e R s m args below meth c H locs cells slots Q (F0 m tgt ls rest)) (kf : 0 ≤ a → W p l e R s m args below meth c H locs cells slots Q (F0 m (pc + 3) ls rest)) : W p l e R s m args below meth c H locs cells slots Q (F0 m pc ls (.int (iI a) :: rest)) :=
  have key : iI a < 0 ↔ a < 0 := iI_lt (b := 0) (by omega)
  lv_if_lt hexec hb hdg ht (fun q => kt (key.mp q)) (fun q => kf (by rw [key] at q; omega))
theorem fp_if_ge (hexec : p.tables.exec = Jvm.exec) (hb : c.code = cc) {a : Int} {off : Int} {tgt : Nat} (h : -2147483648 ≤ a ∧ a ≤ 2147483647) (hdg : decode cc pc = .ok (.ifCond .ge off, 3)) (ht : (pc : Int) + off = (tgt : Int)) (kt : 0 ≤ a → W p l e R s m args below meth c H locs cells slots Q (F0 m tgt ls rest)) (kf : a < 0 → W p l e R s m args below meth c H locs cells slots Q (F0 m (pc + 3) ls rest)) : W p l e R s m args below meth c H locs cells slots Q (F0 m pc ls (.int (iI a) :: rest)) :=
  have key : 0 ≤ iI a ↔ 0 ≤ a := iI_le (a := 0) (by omega)
  lv_if_ge hexec hb hdg ht (fun q => kt (key.mp q)) (fun q => kf (by rw [key] at q; omega))
theorem fp_if_gt (hexec : p.tables.exec = Jvm.exec) (hb : c.code = cc) {a : Int} {off : Int} {tgt : Nat} (h : -2147483648 ≤ a ∧ a ≤ 2147483647) (hdg : decode cc pc = .ok (.ifCond .gt off, 3)) (ht : (pc : Int) + off = (tgt : Int)) (kt : 0 < a → W p l e R s m args below meth c H locs cells slots Q (F0 m tgt ls rest)) (kf : a ≤ 0 → W p l e R s m args below meth c H locs cells slots Q (F0 m (pc + 3) ls rest)) : W p l e R s m args below meth c H locs cells slots Q (F0 m pc ls (.int (iI a) :: rest)) :=
  have key : 0 < iI a ↔ 0 < a := iI_lt (a := 0) (by omega)
  lv_if_gt hexec hb hdg ht (fun q => kt (key.mp q)) (fun q => kf (by rw [key] at q; omega))
theorem fp_if_le (hexec : p.tables.exec = Jvm.exec) (hb : c.code = cc) {a : Int} {off : Int} {tgt : Nat} (h : -2147483648 ≤ a ∧ a ≤ 2147483647) (hdg : decode cc pc = .ok (.ifCond .le off, 3)) (ht : (pc : Int) + off = (tgt : Int)) (kt : a ≤ 0 → W p l e R s m args below meth c H locs cells slots Q (F0 m tgt ls rest)) (kf : 0 < a → W p l e R s m args below meth c H locs cells slots Q (F0 m (pc + 3) ls rest)) : W p l e R s m args below meth c H locs cells slots Q (F0 m pc ls (.int (iI a) :: rest)) :=
  have key : iI a ≤ 0 ↔ a ≤ 0 := iI_le (b := 0) (by omega)
  lv_if_le hexec hb hdg ht (fun q => kt (key.mp q)) (fun q => kf (by rw [key] at q; omega))
theorem fp_icmp_eq (hexec : p.tables.exec = Jvm.exec) (hb : c.code = cc) {a b : Int} {off : Int} {tgt : Nat} (h : (-2147483648 ≤ a ∧ a ≤ 2147483647) ∧ (-2147483648 ≤ b ∧ b ≤ 2147483647)) (hdg : decode cc pc = .ok (.if_icmp .eq off, 3)) (ht : (pc : Int) + off = (tgt : Int)) (kt : a = b → W p l e R s m args below meth c H locs cells slots Q (F0 m tgt ls rest)) (kf : ¬ a = b → W p l e R s m args below meth c H locs cells slots Q (F0 m (pc + 3) ls rest)) : W p l e R s m args below meth c H locs cells slots Q (F0 m pc ls (.int (iI b) :: .int (iI a) :: rest)) :=
  lv_icmp_eq hexec hb hdg ht (fun q => kt ((iI_eq h).mp q)) (fun q => kf (fun z => q ((iI_eq h).mpr z)))
theorem fp_icmp_ne (hexec : p.tables.exec = Jvm.exec) (hb : c.code = cc) {a b : Int} {off : Int} {tgt : Nat} (h : (-2147483648 ≤ a ∧ a ≤ 2147483647) ∧ (-2147483648 ≤ b ∧ b ≤ 2147483647)) (hdg : decode cc pc = .ok (.if_icmp .ne off, 3)) (ht : (pc : Int) + off = (tgt : Int)) (kt : ¬ a = b → W p l e R s m args below meth c H locs cells slots Q (F0 m tgt ls rest)) (kf : a = b → W p l e R s m args below meth c H locs cells slots Q (F0 m (pc + 3) ls rest)) : W p l e R s m args below meth c H locs cells slots Q (F0 m pc ls (.int (iI b) :: .int (iI a) :: rest)) :=
  lv_icmp_ne hexec hb hdg ht (fun q => kt (fun z => q ((iI_eq h).mpr z))) (fun q => kf ((iI_eq h).mp q))
theorem fp_icmp_lt (hexec : p.tables.exec = Jvm.exec) (hb : c.code = cc) {a b : Int} {off : Int} {tgt : Nat} (h : (-2147483648 ≤ a ∧ a ≤ 2147483647) ∧ (-2147483648 ≤ b ∧ b ≤ 2147483647)) (hdg : decode cc pc = .ok (.if_icmp .lt off, 3)) (ht : (pc : Int) + off = (tgt : Int)) (kt : a < b → W p l e R s m args below meth c H locs cells slots Q (F0 m tgt ls rest)) (kf : b ≤ a → W p l e R s m args below meth c H locs cells slots Q (F0 m (pc + 3) ls rest)) : W p l e R s m args below meth c H locs cells slots Q (F0 m pc ls (.int (iI b) :: .int (iI a) :: rest)) :=
  lv_icmp_lt hexec hb hdg ht (fun q => kt ((iI_lt h).mp q)) (fun q => kf (by rw [iI_lt h] at q; omega))
theorem fp_icmp_ge (hexec : p.tables.exec = Jvm.exec) (hb : c.code = cc) {a b : Int} {off : Int} {tgt : Nat} (h : (-2147483648 ≤ a ∧ a ≤ 2147483647) ∧ (-2147483648 ≤ b ∧ b ≤ 2147483647)) (hdg : decode cc pc = .ok (.if_icmp .ge off, 3)) (ht : (pc : Int) + off = (tgt : Int)) (kt : b ≤ a → W p l e R s m args below meth c H locs cells slots Q (F0 m tgt ls rest)) (kf : a < b → W p l e R s m args below meth c H locs cells slots Q (F0 m (pc + 3) ls rest)) : W p l e R s m args below meth c H locs cells slots Q (F0 m pc ls (.int (iI b) :: .int (iI a) :: rest)) :=
  have h' := And.intro h.2 h.1
  lv_icmp_ge hexec hb hdg ht (fun q => kt ((iI_le h').mp q)) (fun q => kf (by have q2 : ¬ b ≤ a := fun z => q ((iI_le h').mpr z); omega))
theorem fp_icmp_gt (hexec : p.tables.exec = Jvm.exec) (hb : c.code = cc) {a b : Int} {off : Int} {tgt : Nat} (h : (-2147483648 ≤ a ∧ a ≤ 2147483647) ∧ (-2147483648 ≤ b ∧ b ≤ 2147483647)) (hdg : decode cc pc = .ok (.if_icmp .gt off, 3)) (ht : (pc : Int) + off = (tgt : Int)) (kt : b < a → W p l e R s m args below meth c H locs cells slots Q (F0 m tgt ls rest)) (kf : a ≤ b → W p l e R s m args below meth c H locs cells slots Q (F0 m (pc + 3) ls rest)) : W p l e R s m args below meth c H locs cells slots Q (F0 m pc ls (.int (iI b) :: .int (iI a) :: rest)) :=
  have h' := And.intro h.2 h.1
  lv_icmp_gt hexec hb hdg ht (fun q => kt ((iI_lt h').mp q)) (fun q => kf (by have q2 : ¬ b < a := fun z => q ((iI_lt h').mpr z); omega))
theorem fp_icmp_le (hexec : p.tables.exec = Jvm.exec) (hb : c.code = cc) {a b : Int} {off : Int} {tgt : Nat} (h : (-2147483648 ≤ a ∧ a ≤ 2147483647) ∧ (-2147483648 ≤ b ∧ b ≤ 2147483647)) (hdg : decode cc pc = .ok (.if_icmp .le off, 3)) (ht : (pc : Int) + off = (tgt : Int)) (kt : a ≤ b → W p l e R s m args below meth c H locs cells slots Q (F0 m tgt ls rest)) (kf : b < a → W p l e R s m args below meth c H locs cells slots Q (F0 m (pc + 3) ls rest)) : W p l e R s m args below meth c H locs cells slots Q (F0 m pc ls (.int (iI b) :: .int (iI a) :: rest)) :=
  lv_icmp_le hexec hb hdg ht (fun q => kt ((iI_le h).mp q)) (fun q => kf (by have q2 : ¬ a ≤ b := fun z => q ((iI_le h).mpr z); omega))
/-- the start of a method's body -/
theorem fp_start {y : MethodName} {ws ws' : List Cond} {rm : Room} {D : va_G} {cyI : ClassId} {wc : va_W} {av : List Value} {Qc : Array Value → State → Outcome → State → Prop} {mc ms : Nat} {free : Addr → Prop} {maxL : Nat} {ret : Option FieldType}
    (hy : plainName y.cls = true) (hw : ws = Cond.code y cc maxL ret :: ws') (hlen : (lg_sl av).length ≤ maxL)
    (body : ∀ (p : Program) (e : Env) (s : State) (m : MethodId) (args : Array Value) (below : List Frame) (meth : Method) (c : Code) (ls : Array Slot), p.tables.exec = Jvm.exec → c.code = cc → meth.sig.returnType = ret → (∀ w ∈ ws, w.before args s = true) → s.vm.findClass y.cls = some m.cls → meth.locks = false → c.maxLocals = maxL → meth.name = y.name → va_P D vwCl wc s.heap → fp_K D cyI s → va_D (fun _ => True) wc → lv_has ls maxL (lv_args 0 av) →
      W p l e rm s m args below meth c s.heap [] 0 0 (MQ below Qc args s mc ms free) (F0 m 0 ls [])) : Met l y ws rm (fp_Pc D cyI wc av) Qc mc ms free := by
  refine Met.ofW (cc := cc) (maxL := maxL) (ret := ret) hy hw ?_
  intro p e s m args below meth c s₁ B hml hv
  obtain ⟨rfl, hP, hK, hD⟩ := hv
  have hl := lv_entry av (n := maxL) hlen
  rw [lg_entry_eq]
  exact body p e s m _ below meth c _ B.exec B.bytes B.returns (atoms_spec (ws := ws) B.pre) (findClass_of_methodNamed B.named) B.notSynchronized hml (name_of_methodNamed B.named B.method).1 hP hK hD hl
/-- the end of a method that reads alone -/
theorem fp_ret {v' : Value} (hexec : p.tables.exec = Jvm.exec) (hb : c.code = cc) {x : Int32} (hr : meth.sig.returnType = some .int) (hlocks : meth.locks = false) (hdg : decode cc pc = .ok (.ireturn, 1)) (hv : v' = .int x) : W p l e R s m args below meth c s.heap [] 0 0 (MQ below (fp_Qp (some v')) args s 0 0 (fun _ => False)) (F0 m pc ls [.int x]) := by
  subst hv
  exact W.iret hexec hb hr (fun t ht _ => ⟨rfl, ht⟩) (fun _ h => absurd h List.not_mem_nil) hdg hlocks
theorem fp_n01 {a : Int} (h : a = 0 ∨ a = 1) : narrow .boolean (.int (iI a)) = .int (iI a) := by
  rcases h with rfl | rfl <;> decide
theorem fp_zret {v' : Value} (hexec : p.tables.exec = Jvm.exec) (hb : c.code = cc) {a : Int} (hr : meth.sig.returnType = some .boolean) (hlocks : meth.locks = false) (h01 : a = 0 ∨ a = 1) (hdg : decode cc pc = .ok (.ireturn, 1)) (hv : v' = .int (iI a)) : W p l e R s m args below meth c s.heap [] 0 0 (MQ below (fp_Qp (some v')) args s 0 0 (fun _ => False)) (F0 m pc ls [.int (iI a)]) := by
  subst hv
  exact W.zret hexec hb hr (fp_n01 h01) (fun t ht _ => ⟨rfl, ht⟩) (fun _ h => absurd h List.not_mem_nil) hdg hlocks
theorem fp_areth {a : Nat} {n : String} (hexec : p.tables.exec = Jvm.exec) (hb : c.code = cc) (hr : meth.sig.returnType = some (.object n)) (hlocks : meth.locks = false) (hdg : decode cc pc = .ok (.areturn, 1)) : W p l e R s m args below meth c s.heap [] 0 0 (MQ below (fp_Qp (some (.ref a))) args s 0 0 (fun _ => False)) (F0 m pc ls [.ref a]) :=
  W.aret hexec hb hr (Or.inl ⟨_, rfl⟩) (Or.inr ⟨_, rfl⟩) (fun t ht _ => ⟨rfl, ht⟩) (fun _ h => absurd h List.not_mem_nil) hdg hlocks
/-- the ends of a method that writes -/
theorem fp_wvret {S : Type} {D : va_G} {wc : va_W} {post : S → Prop} {ret : S → Option Value} {wW : S → va_W} (u : S) (hexec : p.tables.exec = Jvm.exec) (hb : c.code = cc) (hr : meth.sig.returnType = none) (hlocks : meth.locks = false) (hS : va_S (fp_A wc) s.heap H locs) (hP : va_P D vwCl (wW u) H) (hu : post u) (hv : ret u = none) (hdg : decode cc pc = .ok (.return_, 1)) : W p l e R s m args below meth c H locs cells slots (MQ below (fp_Qw D wc post ret wW) args s cells slots (fp_A wc)) (F0 m pc ls []) :=
  W.vret hexec hb hr (fun t ht _ => ⟨⟨u, hu, by rw [hv], by rw [ht]; exact hP⟩, hS.F ht⟩) hS.2.2 hdg hlocks
theorem fp_wret {S : Type} {D : va_G} {wc : va_W} {post : S → Prop} {ret : S → Option Value} {wW : S → va_W} {x : Int32} (u : S) (hexec : p.tables.exec = Jvm.exec) (hb : c.code = cc) (hr : meth.sig.returnType = some .int) (hlocks : meth.locks = false) (hS : va_S (fp_A wc) s.heap H locs) (hP : va_P D vwCl (wW u) H) (hu : post u) (hv : ret u = some (.int x)) (hdg : decode cc pc = .ok (.ireturn, 1)) : W p l e R s m args below meth c H locs cells slots (MQ below (fp_Qw D wc post ret wW) args s cells slots (fp_A wc)) (F0 m pc ls [.int x]) :=
  W.iret hexec hb hr (fun t ht _ => ⟨⟨u, hu, by rw [hv], by rw [ht]; exact hP⟩, hS.F ht⟩) hS.2.2 hdg hlocks
theorem fp_wzret {S : Type} {D : va_G} {wc : va_W} {post : S → Prop} {ret : S → Option Value} {wW : S → va_W} {a : Int} (u : S) (hexec : p.tables.exec = Jvm.exec) (hb : c.code = cc) (hr : meth.sig.returnType = some .boolean) (hlocks : meth.locks = false) (h01 : a = 0 ∨ a = 1) (hS : va_S (fp_A wc) s.heap H locs) (hP : va_P D vwCl (wW u) H) (hu : post u) (hv : ret u = some (.int (iI a))) (hdg : decode cc pc = .ok (.ireturn, 1)) : W p l e R s m args below meth c H locs cells slots (MQ below (fp_Qw D wc post ret wW) args s cells slots (fp_A wc)) (F0 m pc ls [.int (iI a)]) :=
  W.zret hexec hb hr (fp_n01 h01) (fun t ht _ => ⟨⟨u, hu, by rw [hv], by rw [ht]; exact hP⟩, hS.F ht⟩) hS.2.2 hdg hlocks
end FPR
section FPC
variable {p : Program} {l : Launch} {e : Env} {R : Room} {s : State} {m : MethodId} {args : Array Value} {below : List Frame} {meth : Method} {c : Code} {H : Heap} {locs : List Loc} {cells slots : Nat} {Q : State → Prop}
variable {cc : ByteArray} {pc : Nat} {ls : Array Slot} {rest st : List Value} {D : va_G} {cyI : ClassId} {wsC wc : va_W} {A0 : Nat → Prop} {H0 : Heap}
variable {y : MethodName} {bytes : ByteArray} {maxL nL n index : Nat} {ret : Option FieldType} {ws : List Cond} {rm : Room} {Ts : List Cond} {own C host : String} {b : Addr} {As : List Value}
theorem fp_goPure {v : Value} {a : Array Value} {free : Addr → Prop} (hfree : ∀ q, free q → False) (hr : va_Run p l e R s m args below meth c H locs cells slots 0 0 (F0 m pc ls st) rest (fp_Qp (some v) a) free) (kk : W p l e R s m args below meth c H locs cells slots Q (F0 m (pc + 3) ls (v :: rest))) : W p l e R s m args below meth c H locs cells slots Q (F0 m pc ls st) := by
  intro T hT X
  obtain ⟨v', st₀, t, T', L, h0, X', hL, e1, e2, ⟨hv, hh⟩, stp⟩ := hr T hT X
  cases hv
  have hL0 : L = [] := List.eq_nil_iff_forall_not_mem.mpr (fun q hq => hfree _ (hL q hq))
  subst hL0
  rw [List.append_nil] at X'
  obtain ⟨t2, a1, b1⟩ := kk T' (by rw [e1, hh, h0]) X'
  exact ⟨t2, stp t2 a1, b1⟩
theorem fp_preS (hK : fp_K D cyI s) (hP : va_P D vwCl wsC H) (hD : va_D A0 wsC) (is : List Nat) (hn : va_nd is = true) (hs : is.map (fun i => wsC[i]?) = wc.map some) : PreS s H (fp_Pc D cyI wc As) As :=
  ⟨fp_blind, fun U hU hW => ⟨rfl, by rw [hU]; exact fp_sub hP hs, fp_K.warm hW hK, (hD.sub is hn hs).weaken (fun _ _ _ _ => trivial)⟩⟩
theorem fp_preV (hK : fp_K D cyI s) (hP : va_P D vwCl wsC H) (hD : va_D A0 wsC) (is : List Nat) (hn : va_nd is = true) (hs : is.map (fun i => wsC[i]?) = wc.map some) {ci : Nat} {fs : List Value} {T : u_T} {N : Nat} (hc : vwCl[ci]? = some (C, T, N)) (he : wc[0]? = some (b, .inr (ci, fs))) : PreV s H C b (fp_Pc D cyI wc (.ref b :: As)) As :=
  ⟨fp_blind, va_recv hK.1 (fp_sub hP hs) hc he, fun U hU hW => ⟨rfl, by rw [hU]; exact fp_sub hP hs, fp_K.warm hW hK, (hD.sub is hn hs).weaken (fun _ _ _ _ => trivial)⟩⟩
/-- a call that reads alone: virtual, static, static across the nest -/
theorem fp_pV (S : CallFix p m c cc nL s args Ts own) {v : Value} (hM : fp_M l y ws rm D cyI wc (.ref b :: As) (some v)) (cw : CallW R s args own C index y bytes maxL ret ws rm 0 0 n)
    (hK : fp_K D cyI s) (hP : va_P D vwCl wsC H) (hD : va_D A0 wsC) (is : List Nat) (hn : va_nd is = true) (hs : is.map (fun i => wsC[i]?) = wc.map some) {ci : Nat} {fs : List Value} {T : u_T} {N : Nat} (hc : vwCl[ci]? = some (C, T, N)) (he : wc[0]? = some (b, .inr (ci, fs)))
    (hlen : As.length = n) (hsz : ls.size = nL) (hst : st = As.reverse ++ .ref b :: rest) (hW : (rest.map fun v => v.category).sum ≤ 8) (hdg : decode cc pc = .ok (.invokevirtual index, 3)) (hf : cells ≤ R.cells ∧ slots ≤ R.slots)
    (kk : W p l e R s m args below meth c H locs cells slots Q (F0 m (pc + 3) ls (v :: rest))) : W p l e R s m args below meth c H locs cells slots Q (F0 m pc ls st) := by
  subst hst
  exact fp_goPure (fun _ h => h) (va_runV (rest := rest) S hM cw (fp_preV hK hP hD is hn hs hc he) rfl hlen hsz rfl (lv_room hW) hdg hf) kk
theorem fp_pS (S : CallFix p m c cc nL s args Ts own) {v : Value} (hM : fp_M l y ws rm D cyI wc As (some v)) (cw : CallB R s args own index y bytes maxL ret ws rm 0 0 n ∧ (Cond.static y).before args s = true)
    (hK : fp_K D cyI s) (hP : va_P D vwCl wsC H) (hD : va_D A0 wsC) (is : List Nat) (hn : va_nd is = true) (hs : is.map (fun i => wsC[i]?) = wc.map some)
    (hlen : As.length = n) (hsz : ls.size = nL) (hst : st = As.reverse ++ rest) (hW : (rest.map fun v => v.category).sum ≤ 8) (hdg : decode cc pc = .ok (.invokestatic index, 3)) (hf : cells ≤ R.cells ∧ slots ≤ R.slots)
    (kk : W p l e R s m args below meth c H locs cells slots Q (F0 m (pc + 3) ls (v :: rest))) : W p l e R s m args below meth c H locs cells slots Q (F0 m pc ls st) := by
  subst hst
  exact fp_goPure (fun _ h => h) (va_runS (rest := rest) S hM cw (fp_preS hK hP hD is hn hs) rfl hlen hsz rfl (lv_room hW) hdg hf) kk
theorem fp_pSN (S : CallFix p m c cc nL s args Ts own) {v : Value} (hM : fp_M l y ws rm D cyI wc As (some v)) (cw : va_CN R s args own index y host bytes maxL ret ws rm 0 0 n ∧ (Cond.static y).before args s = true ∧ True)
    (hK : fp_K D cyI s) (hP : va_P D vwCl wsC H) (hD : va_D A0 wsC) (is : List Nat) (hn : va_nd is = true) (hs : is.map (fun i => wsC[i]?) = wc.map some)
    (hlen : As.length = n) (hsz : ls.size = nL) (hst : st = As.reverse ++ rest) (hW : (rest.map fun v => v.category).sum ≤ 8) (hdg : decode cc pc = .ok (.invokestatic index, 3)) (hf : cells ≤ R.cells ∧ slots ≤ R.slots)
    (kk : W p l e R s m args below meth c H locs cells slots Q (F0 m (pc + 3) ls (v :: rest))) : W p l e R s m args below meth c H locs cells slots Q (F0 m pc ls st) := by
  subst hst
  exact fp_goPure (fun _ h => h) (va_runSN (rest := rest) S hM cw (fp_preS hK hP hD is hn hs) rfl hlen hsz rfl (lv_room hW) hdg hf) kk
/-- a call that writes cells of its world -/
theorem fp_goWr {S : Type} {a : Array Value} {post : S → Prop} {rt : S → Option Value} {wW : S → va_W} (hadr : ∀ u, (wW u).map Prod.fst = wc.map Prod.fst) (hP : va_P D vwCl wsC H) (hD : va_D A0 wsC) (hS : va_S A0 H0 H locs) (is : List Nat) (hs : is.map (fun i => wsC[i]?) = wc.map some)
    (hr : va_Run p l e R s m args below meth c H locs cells slots 0 0 (F0 m pc ls st) rest (fp_Qw D wc post rt wW a) (fp_A wc))
    (kk : ∀ (u : S) (H1 : Heap) (locs1 : List Loc), post u → va_P D vwCl (fp_sets wsC is (wW u)) H1 → va_D A0 (fp_sets wsC is (wW u)) → va_S A0 H0 H1 locs1 → W p l e R s m args below meth c H1 locs1 cells slots Q (F0 m (pc + 3) ls ((rt u).toList ++ rest))) : W p l e R s m args below meth c H locs cells slots Q (F0 m pc ls st) := by
  have hsub : ∀ q, fp_A wc q → A0 q := by
    rintro q ⟨k, e0, hk⟩
    obtain ⟨i, -, hi⟩ := fp_at hs hk
    exact hD.2 i _ hi
  intro T hT X
  obtain ⟨v', st₀, t, T', L, h0, X', hL, e1, e2, ⟨⟨u, hu, hv, hPt⟩, hz, hk⟩, stp⟩ := hr T hT X
  cases hv
  rw [h0] at hz hk
  rw [← e1] at hPt hz hk
  obtain ⟨t2, a1, b1⟩ := kk u T'.heap (locs ++ L) hu (fp_sets_P hP hD hs (hadr u) hPt hk) (fp_sets_D hD hs (hadr u))
    ⟨Nat.le_trans hS.1 hz, fun q h1 h2 => by rw [hk q (Nat.lt_of_lt_of_le h1 hS.1) (fun z => h2 (hsub q z))]; exact hS.2.1 q h1 h2, fun q hq => by
      rcases List.mem_append.mp hq with h | h
      · exact hS.2.2 q h
      · exact hsub _ (hL q h)⟩ T' rfl X'
  exact ⟨t2, stp t2 a1, b1⟩
theorem fp_wV (S : CallFix p m c cc nL s args Ts own) {S0 : Type} {post : S0 → Prop} {rt : S0 → Option Value} {wW : S0 → va_W} (hM : fp_MW l y ws rm D cyI wc (.ref b :: As) post rt wW) (cw : CallW R s args own C index y bytes maxL ret ws rm 0 0 n) (hadr : ∀ u, (wW u).map Prod.fst = wc.map Prod.fst)
    (hK : fp_K D cyI s) (hP : va_P D vwCl wsC H) (hD : va_D A0 wsC) (hS : va_S A0 H0 H locs) (is : List Nat) (hn : va_nd is = true) (hs : is.map (fun i => wsC[i]?) = wc.map some) {ci : Nat} {fs : List Value} {T : u_T} {N : Nat} (hc : vwCl[ci]? = some (C, T, N)) (he : wc[0]? = some (b, .inr (ci, fs)))
    (hlen : As.length = n) (hsz : ls.size = nL) (hst : st = As.reverse ++ .ref b :: rest) (hW : (rest.map fun v => v.category).sum ≤ 8) (hdg : decode cc pc = .ok (.invokevirtual index, 3)) (hf : cells ≤ R.cells ∧ slots ≤ R.slots)
    (kk : ∀ (u : S0) (H1 : Heap) (locs1 : List Loc), post u → va_P D vwCl (fp_sets wsC is (wW u)) H1 → va_D A0 (fp_sets wsC is (wW u)) → va_S A0 H0 H1 locs1 → W p l e R s m args below meth c H1 locs1 cells slots Q (F0 m (pc + 3) ls ((rt u).toList ++ rest))) : W p l e R s m args below meth c H locs cells slots Q (F0 m pc ls st) := by
  subst hst
  exact fp_goWr hadr hP hD hS is hs (va_runV (rest := rest) S hM cw (fp_preV hK hP hD is hn hs hc he) rfl hlen hsz rfl (lv_room hW) hdg hf) kk
theorem fp_wS (S : CallFix p m c cc nL s args Ts own) {S0 : Type} {post : S0 → Prop} {rt : S0 → Option Value} {wW : S0 → va_W} (hM : fp_MW l y ws rm D cyI wc As post rt wW) (cw : CallB R s args own index y bytes maxL ret ws rm 0 0 n ∧ (Cond.static y).before args s = true) (hadr : ∀ u, (wW u).map Prod.fst = wc.map Prod.fst)
    (hK : fp_K D cyI s) (hP : va_P D vwCl wsC H) (hD : va_D A0 wsC) (hS : va_S A0 H0 H locs) (is : List Nat) (hn : va_nd is = true) (hs : is.map (fun i => wsC[i]?) = wc.map some)
    (hlen : As.length = n) (hsz : ls.size = nL) (hst : st = As.reverse ++ rest) (hW : (rest.map fun v => v.category).sum ≤ 8) (hdg : decode cc pc = .ok (.invokestatic index, 3)) (hf : cells ≤ R.cells ∧ slots ≤ R.slots)
    (kk : ∀ (u : S0) (H1 : Heap) (locs1 : List Loc), post u → va_P D vwCl (fp_sets wsC is (wW u)) H1 → va_D A0 (fp_sets wsC is (wW u)) → va_S A0 H0 H1 locs1 → W p l e R s m args below meth c H1 locs1 cells slots Q (F0 m (pc + 3) ls ((rt u).toList ++ rest))) : W p l e R s m args below meth c H locs cells slots Q (F0 m pc ls st) := by
  subst hst
  exact fp_goWr hadr hP hD hS is hs (va_runS (rest := rest) S hM cw (fp_preS hK hP hD is hn hs) rfl hlen hsz rfl (lv_room hW) hdg hf) kk
/-- a place of an int array is read, written; its length -/
theorem fp_iald (hexec : p.tables.exec = Jvm.exec) (hb : c.code = cc) (hK : fp_K D cyI s) (hP : va_P D vwCl wsC H) (q0 : Nat) {a : Nat} {n : Nat} {f : Int → Int} (ha : wsC[q0]? = some (a, fA cyI n f)) {k : Int} (h : 0 ≤ k ∧ k < n) (hn : n ≤ 2147483647) (hdg : decode cc pc = .ok (.iaload, 1))
    (kk : W p l e R s m args below meth c H locs cells slots Q (F0 m (pc + 1) ls (.int (iI (f k)) :: rest))) : W p l e R s m args below meth c H locs cells slots Q (F0 m pc ls (.int (iI k) :: .ref a :: rest)) := by
  refine va_iald hexec hb hK.1 hP q0 0 ha rfl (iI_in h hn) hdg ?_
  rw [iI_cl (by omega), Int.toNat_of_nonneg h.1]
  exact kk
theorem fp_iast (hexec : p.tables.exec = Jvm.exec) (hb : c.code = cc) (hK : fp_K D cyI s) (hP : va_P D vwCl wsC H) (hD : va_D A0 wsC) (hS : va_S A0 H0 H locs) (q0 : Nat) {a : Nat} {n : Nat} {f : Int → Int} (ha : wsC[q0]? = some (a, fA cyI n f)) {k v : Int} (h : 0 ≤ k ∧ k < n) (hn : n ≤ 2147483647) (hdg : decode cc pc = .ok (.iastore, 1))
    (kk : ∀ (H1 : Heap) (locs1 : List Loc), va_P D vwCl (wsC.set q0 (a, fA cyI n (upI f k v))) H1 → va_D A0 (wsC.set q0 (a, fA cyI n (upI f k v))) → va_S A0 H0 H1 locs1 → W p l e R s m args below meth c H1 locs1 cells slots Q (F0 m (pc + 1) ls rest)) : W p l e R s m args below meth c H locs cells slots Q (F0 m pc ls (.int (iI v) :: .int (iI k) :: .ref a :: rest)) := by
  refine va_iast hexec hb hK.1 hP hD hS q0 0 ha rfl (iI_in h hn) hdg ?_
  rw [upI_upd f v (by omega)]
  exact kk
theorem fp_alen (hexec : p.tables.exec = Jvm.exec) (hb : c.code = cc) (hK : fp_K D cyI s) (hP : va_P D vwCl wsC H) (q0 : Nat) {a : Nat} {n : Nat} {f : Int → Int} (ha : wsC[q0]? = some (a, fA cyI n f)) (hdg : decode cc pc = .ok (.arraylength, 1))
    (kk : W p l e R s m args below meth c H locs cells slots Q (F0 m (pc + 1) ls (.int (iI (n : Int)) :: rest))) : W p l e R s m args below meth c H locs cells slots Q (F0 m pc ls (.ref a :: rest)) :=
  va_alen hexec hb hK.1 hP q0 0 ha rfl (iI_nat n) hdg kk
end FPC
section FPM
variable {p : Program} {l : Launch} {e : Env} {R : Room} {s : State} {m : MethodId} {args : Array Value} {below : List Frame} {meth : Method} {c : Code} {H : Heap} {locs : List Loc} {cells slots : Nat} {Q : State → Prop}
variable {cc : ByteArray} {pc : Nat} {ls : Array Slot} {rest : List Value}
theorem fp_mmin (hexec : p.tables.exec = Jvm.exec) (hb : c.code = cc) (hml : c.maxLocals = ls.size) {own : String} {index : Nat} (hown : s.vm.findClass own = some m.cls) (hlink : (Cond.methodLink own index Lib.Math.min.name).before args s = true) (hstat : (Cond.static Lib.Math.min.name).before args s = true) (hini : (Cond.initialized "java/lang/Math").before args s = true) (hcode : (Cond.code Lib.Math.min.name Lib.Math.min.code 2 (some .int)).before args s = true)
    (hframes : 1 ≤ R.frames) (hlocals : (rest.map fun v => v.category).sum + 13 ≤ R.locals) {a b : Int} (h : (-2147483648 ≤ a ∧ a ≤ 2147483647) ∧ (-2147483648 ≤ b ∧ b ≤ 2147483647)) (hdg : decode cc pc = .ok (.invokestatic index, 3))
    (kk : W p l e R s m args below meth c H locs 0 0 Q (F0 m (pc + 3) ls (.int (iI (min a b)) :: rest))) : W p l e R s m args below meth c H locs 0 0 Q (F0 m pc ls (.int (iI b) :: .int (iI a) :: rest)) := by
  refine va_mmin hexec hb hml hown hlink hstat hini hcode hframes hlocals (Nat.zero_le _) (Nat.zero_le _) hdg ?_
  have e1 : (if iI b < iI a then iI b else iI a) = iI (min a b) := by
    by_cases q : b < a
    · rw [if_pos ((iI_lt ⟨h.2, h.1⟩).mpr q), show min a b = b by omega]
    · rw [if_neg (fun z => q ((iI_lt ⟨h.2, h.1⟩).mp z)), show min a b = a by omega]
  rw [e1]
  exact kk
theorem fp_ishl1 (hexec : p.tables.exec = Jvm.exec) (hb : c.code = cc) {a : Int} (h : 0 ≤ a ∧ a ≤ 1) (hdg : decode cc pc = .ok (.ishl, 1)) (k : W p l e R s m args below meth c H locs cells slots Q (F0 m (pc + 1) ls (.int (iI (a + 1)) :: rest))) : W p l e R s m args below meth c H locs cells slots Q (F0 m pc ls (.int (iI a) :: .int (iI 1) :: rest)) :=
  lv_ishl hexec hb hdg (by
    have e1 : a = 0 ∨ a = 1 := by omega
    rcases e1 with rfl | rfl
    · exact k
    · exact k)
def cmpI (a b : Int) : Int := if b < a then 1 else if a = b then 0 else -1
theorem lI_cmp {a b : Int} (h : (-2147483648 * 4294967296 ≤ a ∧ a ≤ 2147483647 * 4294967296) ∧ (-2147483648 * 4294967296 ≤ b ∧ b ≤ 2147483647 * 4294967296)) : lg_cmp (lI a) (lI b) = iI (cmpI a b) := by
  unfold lg_cmp cmpI
  by_cases q : b < a
  · rw [if_pos ((lI_lt ⟨h.2, h.1⟩).mpr q), if_pos q]
    rfl
  · rw [if_neg (fun z => q ((lI_lt ⟨h.2, h.1⟩).mp z)), if_neg q]
    by_cases r : a = b
    · rw [if_pos ((lI_eq h).mpr r), if_pos r]
      rfl
    · rw [if_neg (fun z => r ((lI_eq h).mp z)), if_neg r]
      rfl
theorem fp_lcmp_lt (hexec : p.tables.exec = Jvm.exec) (hb : c.code = cc) {a b off : Int} {tgt : Nat} (h : (-2147483648 * 4294967296 ≤ a ∧ a ≤ 2147483647 * 4294967296) ∧ (-2147483648 * 4294967296 ≤ b ∧ b ≤ 2147483647 * 4294967296)) (hdg : decode cc pc = .ok (.lcmp, 1)) (hd2 : decode cc (pc + 1) = .ok (.ifCond .lt off, 3)) (ht : ((pc + 1 : Nat) : Int) + off = (tgt : Int)) (kt : a < b → W p l e R s m args below meth c H locs cells slots Q (F0 m tgt ls rest)) (kf : b ≤ a → W p l e R s m args below meth c H locs cells slots Q (F0 m (pc + 4) ls rest)) : W p l e R s m args below meth c H locs cells slots Q (F0 m pc ls (.long (lI b) :: .long (lI a) :: rest)) := by
  refine W.lcmp hexec hb hdg ?_
  rw [lI_cmp h]
  have e1 : cmpI a b = 1 ∨ cmpI a b = 0 ∨ cmpI a b = -1 := by
    unfold cmpI
    split
    · simp
    · split <;> simp
  refine fp_if_lt hexec hb (by omega) hd2 ht (fun q => kt ?_) (fun q => kf ?_)
  · unfold cmpI at q
    split at q
    · omega
    · split at q <;> omega
  · unfold cmpI at q
    split at q
    · omega
    · split at q <;> omega
theorem fp_lcmp_gt (hexec : p.tables.exec = Jvm.exec) (hb : c.code = cc) {a b off : Int} {tgt : Nat} (h : (-2147483648 * 4294967296 ≤ a ∧ a ≤ 2147483647 * 4294967296) ∧ (-2147483648 * 4294967296 ≤ b ∧ b ≤ 2147483647 * 4294967296)) (hdg : decode cc pc = .ok (.lcmp, 1)) (hd2 : decode cc (pc + 1) = .ok (.ifCond .gt off, 3)) (ht : ((pc + 1 : Nat) : Int) + off = (tgt : Int)) (kt : b < a → W p l e R s m args below meth c H locs cells slots Q (F0 m tgt ls rest)) (kf : a ≤ b → W p l e R s m args below meth c H locs cells slots Q (F0 m (pc + 4) ls rest)) : W p l e R s m args below meth c H locs cells slots Q (F0 m pc ls (.long (lI b) :: .long (lI a) :: rest)) := by
  refine W.lcmp hexec hb hdg ?_
  rw [lI_cmp h]
  have e1 : cmpI a b = 1 ∨ cmpI a b = 0 ∨ cmpI a b = -1 := by
    unfold cmpI
    split
    · simp
    · split <;> simp
  refine fp_if_gt hexec hb (by omega) hd2 ht (fun q => kt ?_) (fun q => kf ?_)
  · unfold cmpI at q
    split at q
    · omega
    · split at q <;> omega
  · unfold cmpI at q
    split at q
    · omega
    · split at q <;> omega
end FPM
