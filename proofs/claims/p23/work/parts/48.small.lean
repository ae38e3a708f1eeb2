/-! the law's shifts; its two small methods -/
section FQS
variable {p : Program} {l : Launch} {e : Env} {R : Room} {s : State} {m : MethodId} {args : Array Value} {below : List Frame} {meth : Method} {c : Code} {H : Heap} {locs : List Loc} {cells slots : Nat} {Q : State → Prop}
variable {cc : ByteArray} {pc : Nat} {ls : Array Slot} {rest : List Value}
theorem fq_shr (hexec : p.tables.exec = Jvm.exec) (hb : c.code = cc) {x y : Int} (hdg : decode cc pc = .ok (.ishr, 1)) (kk : ∀ z : Int, -2147483648 ≤ z ∧ z ≤ 2147483647 → W p l e R s m args below meth c H locs cells slots Q (F0 m (pc + 1) ls (.int (iI z) :: rest))) : W p l e R s m args below meth c H locs cells slots Q (F0 m pc ls (.int (iI y) :: .int (iI x) :: rest)) := by
  refine lv_ishr hexec hb hdg ?_
  rw [← iI_eta (iI x >>> (iI y &&& 31))]
  exact kk _ (iI_rg _)
theorem fq_shr1 (hexec : p.tables.exec = Jvm.exec) (hb : c.code = cc) {x : Int} (h : 0 ≤ x ∧ x ≤ 3) (hdg : decode cc pc = .ok (.ishr, 1)) (kk : W p l e R s m args below meth c H locs cells slots Q (F0 m (pc + 1) ls (.int (iI (x / 2)) :: rest))) : W p l e R s m args below meth c H locs cells slots Q (F0 m pc ls (.int (iI 1) :: .int (iI x) :: rest)) := by
  refine lv_ishr hexec hb hdg ?_
  have e1 : iI x >>> (iI 1 &&& 31) = iI (x / 2) := by
    have e2 : x = 0 ∨ x = 1 ∨ x = 2 ∨ x = 3 := by omega
    rcases e2 with rfl | rfl | rfl | rfl <;> decide
  rw [e1]
  exact kk
theorem fq_shl4 (hexec : p.tables.exec = Jvm.exec) (hb : c.code = cc) {x : Int} (h : 0 ≤ x ∧ x ≤ 2) (hdg : decode cc pc = .ok (.ishl, 1)) (kk : ∀ z : Int, (z = 4 ∨ z = 8 ∨ z = 16) → W p l e R s m args below meth c H locs cells slots Q (F0 m (pc + 1) ls (.int (iI z) :: rest))) : W p l e R s m args below meth c H locs cells slots Q (F0 m pc ls (.int (iI x) :: .int (iI 4) :: rest)) := by
  refine lv_ishl hexec hb hdg ?_
  have e2 : x = 0 ∨ x = 1 ∨ x = 2 := by omega
  rcases e2 with rfl | rfl | rfl
  · exact kk 4 (by omega)
  · exact kk 8 (by omega)
  · exact kk 16 (by omega)
theorem fq_i2c (hexec : p.tables.exec = Jvm.exec) (hb : c.code = cc) {x : Int} (h : 48 ≤ x ∧ x ≤ 51) (hdg : decode cc pc = .ok (.i2c, 1)) (kk : W p l e R s m args below meth c H locs cells slots Q (F0 m (pc + 1) ls (.int (iI x) :: rest))) : W p l e R s m args below meth c H locs cells slots Q (F0 m pc ls (.int (iI x) :: rest)) :=
  lv_i2c hexec hb hdg (by
    have e2 : x = 48 ∨ x = 49 ∨ x = 50 ∨ x = 51 := by omega
    rcases e2 with rfl | rfl | rfl | rfl <;> decide) kk
end FQS
def upV (v n : Int) : Int := (iI v &&& iI 2147483647).toInt % n
theorem msk_rg (v : Int) : 0 ≤ (iI v &&& iI 2147483647).toInt ∧ (iI v &&& iI 2147483647).toInt ≤ 2147483647 := by
  have h := pk_and (iI v) (m := iI 2147483647) 31 (by decide)
  have h2 : (iI v).toBitVec.toNat % 2 ^ 31 < 2 ^ 31 := Nat.mod_lt _ (by decide)
  rw [h, iI_nat, iI_toInt (by omega)]
  omega
theorem upV_rg (v : Int) {n : Int} (hn : 0 < n ∧ n ≤ 1000) : 0 ≤ upV v n ∧ upV v n < n := ⟨Int.emod_nonneg _ (by omega), Int.emod_lt_of_pos _ hn.1⟩
theorem ck_L_up_8 : Cond.constant RL 8 (2147483647) ∈ wsL_up := by decide +kernel
theorem c_L_up (l : Launch) (D : va_G) (cyI : ClassId) (v n : Int) (hn : 0 < n ∧ n ≤ 1000) : fp_M l yL_up wsL_up ({ frames := 0, cells := 0, slots := 0, locals := 0 } : Room) D cyI [] [.int (iI v), .int (iI n)] (some (.int (iI (upV v n)))) := by
  refine fp_start (cc := cL_up) (maxL := 2) (ret := (some .int)) (by decide) rfl (Nat.le_of_ble_eq_true rfl) ?_
  intro pg en sx mi ar bl mt cd ls hx hb hr hts hown hlocks hml hnm hP hK hD hl
  have hown : sx.vm.findClass RL = some mi.cls := hown
  have hl : lv_has ls 2 [(0, .int (iI v)), (1, .int (iI n))] := hl
  refine lv_iload_n hx hb dL_up_0 rfl (lv_at hl 0 rfl) ?_
  refine fp_ldc hx hb (2147483647) rfl hown (hts _ ck_L_up_8) dL_up_1 ?_
  refine lv_iand hx hb dL_up_3 ?_
  rw [← iI_eta (iI v &&& iI 2147483647)]
  refine lv_iload_n hx hb dL_up_4 rfl (lv_at hl 1 rfl) ?_
  refine fp_irem hx hb (by have := msk_rg v; omega) dL_up_5 ?_
  exact fp_ret hx hb hr hlocks dL_up_6 rfl
def scI (xs : Nat → Int32) (k : Int) : Int := (xs k.toNat).toInt
def celV (L : Nat) (xs : Nat → Int32) (k : Int) : Int := if k < L then scI xs k else 2144715689 * (k + 1237)
def fq_PX (b L : Nat) (xs : Nat → Int32) (k : Int) : Array Value → State → Prop := fun v U => v = ([.ref b, .int (iI k)] : List Value).toArray ∧ va_X b L xs U U.heap ∧ b < U.heap.size
theorem ck_L_cell_7 : Cond.constant RL 7 (2144715689) ∈ wsL_cell := by decide +kernel
theorem c_L_cell (l : Launch) {b L : Nat} {xs : Nat → Int32} {k : Int} (hk : 0 ≤ k ∧ k ≤ 100) (hL : L ≤ 260) : Met l yL_cell wsL_cell ({ frames := 0, cells := 0, slots := 0, locals := 0 } : Room) (fq_PX b L xs k) (fp_Qp (some (.int (iI (celV L xs k))))) 0 0 (fun _ => False) := by
  refine Met.ofW (cc := cL_cell) (maxL := 2) (ret := (some .int)) (by decide) rfl ?_
  intro pg en sx mi ar bl mt cd s₁ B hml hv
  obtain ⟨rfl, hX, hbl⟩ := hv
  have hx := B.exec
  have hb := B.bytes
  have hr := B.returns
  have hlocks := B.notSynchronized
  have hts := atoms_spec (ws := wsL_cell) B.pre
  have hown : sx.vm.findClass RL = some mi.cls := findClass_of_methodNamed B.named
  have hl := lv_entry ([.ref b, .int (iI k)]) (n := 2) (Nat.le_of_ble_eq_true rfl)
  rw [lg_entry_eq]
  generalize (lg_sl ([.ref b, .int (iI k)]) ++ List.replicate (2 - (lg_sl ([.ref b, .int (iI k)])).length) Slot.unset).toArray = ls at hl ⊢
  have hl : lv_has ls 2 [(0, .ref b), (1, .int (iI k))] := hl
  have hS : va_S (fun _ => False) sx.heap sx.heap [] := va_S.rf
  refine lv_iload_n hx hb dL_cell_0 rfl (lv_at hl 1 rfl) ?_
  refine lv_aload_n hx hb dL_cell_1 rfl (lv_at hl 0 rfl) ?_
  refine va_slen hx hb hX hbl (fun h => h) hS dL_cell_2 ?_
  rw [show Int32.ofNat L = iI (L : Int) from iI_nat L]
  refine fp_icmp_ge (tgt := 12) hx hb (by omega) dL_cell_3 (by decide) (fun q => ?_) (fun q => ?_)
  · refine fp_ldc hx hb (2144715689) rfl hown (hts _ ck_L_cell_7) dL_cell_12 ?_
    refine lv_iload_n hx hb dL_cell_14 rfl (lv_at hl 1 rfl) ?_
    refine fp_sipush hx hb dL_cell_15 (by decide) ?_
    refine fp_iadd hx hb dL_cell_18 ?_
    refine fp_imul hx hb dL_cell_19 ?_
    exact fp_ret hx hb hr hlocks dL_cell_20 (by unfold celV; rw [if_neg (by omega)])
  · refine lv_aload_n hx hb dL_cell_6 rfl (lv_at hl 0 rfl) ?_
    refine lv_iload_n hx hb dL_cell_7 rfl (lv_at hl 1 rfl) ?_
    refine va_sld hx hb hX hbl (fun h => h) hS (iI_in (n := L) (by omega) (by omega)) dL_cell_8 ?_
    rw [iI_cl (by omega), ← iI_eta (xs k.toNat)]
    refine lv_goto (tgt := 20) hx hb dL_cell_9 (by decide) ?_
    exact fp_ret hx hb hr hlocks dL_cell_20 (by unfold celV scI; rw [if_pos (by omega)])
theorem fq_PX_blind {b L : Nat} {xs : Nat → Int32} {k : Int} : FrameBlind (fq_PX b L xs k) := fun a U g mk q => by
  obtain ⟨q0, qX, ql⟩ := q
  exact ⟨q0, va_X.moved (u := U) (U := U.calling g mk a) (Vm.Alike.refl U.vm) qX, ql⟩
section FQX
variable {p : Program} {l : Launch} {e : Env} {R : Room} {s : State} {m : MethodId} {args : Array Value} {below : List Frame} {meth : Method} {c : Code} {H : Heap} {locs : List Loc} {cells slots : Nat} {Q : State → Prop}
variable {cc : ByteArray} {pc : Nat} {ls : Array Slot} {rest st : List Value}
variable {y : MethodName} {bytes : ByteArray} {maxL nL n index : Nat} {ret : Option FieldType} {ws : List Cond} {rm : Room} {Ts : List Cond} {own : String}
theorem fq_C (S : CallFix p m c cc nL s args Ts own) {b L : Nat} {xs : Nat → Int32} {k : Int} {v : Value} (hM : Met l y ws rm (fq_PX b L xs k) (fp_Qp (some v)) 0 0 (fun _ => False)) (cw : CallB R s args own index y bytes maxL ret ws rm 0 0 n ∧ (Cond.static y).before args s = true)
    (hX : va_X b L xs s s.heap) (hbl : b < s.heap.size) (hS : va_S (fun q : Nat => s.heap.size ≤ q) s.heap H locs)
    (hlen : ([.ref b, .int (iI k)] : List Value).length = n) (hsz : ls.size = nL) (hst : st = ([.ref b, .int (iI k)] : List Value).reverse ++ rest) (hW : (rest.map fun v => v.category).sum ≤ 8) (hdg : decode cc pc = .ok (.invokestatic index, 3)) (hf : cells ≤ R.cells ∧ slots ≤ R.slots)
    (kk : W p l e R s m args below meth c H locs cells slots Q (F0 m (pc + 3) ls (v :: rest))) : W p l e R s m args below meth c H locs cells slots Q (F0 m pc ls st) := by
  subst hst
  exact fp_goPure (fun _ h => h) (va_runS (rest := rest) S hM cw ⟨fq_PX_blind, fun U hU hW => ⟨rfl, by rw [hU]; exact va_X.moved hW.alike (hX.kept (hS.2.1 b hbl (Nat.not_le.mpr hbl))), by rw [hU]; exact Nat.lt_of_lt_of_le hbl hS.1⟩⟩ rfl hlen hsz rfl (lv_room hW) hdg hf) kk
end FQX
