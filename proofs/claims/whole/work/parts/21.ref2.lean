/-! lots of a gathering: counted by pages, counted by lots -/
theorem sumI_pt {f g : Int → Int} {k0 d : Int} : ∀ n : Nat, (∀ k : Int, 0 ≤ k → k < n → ¬ k = k0 → f k = g k) → f k0 = g k0 + d → 0 ≤ k0 → k0 < n → sumI n f = sumI n g + d := by
  intro n
  induction n with
  | zero => intro _ _ a b; omega
  | succ n ih =>
    intro h h0 h1 h2
    show sumI n f + f n = sumI n g + g n + d
    by_cases e : k0 = n
    · have e1 := sumI_c (f := f) (g := g) n (fun k a b => h k a (by omega) (by omega))
      rw [e1, ← e, h0]
      omega
    · rw [ih (fun k a b c => h k a (by omega) c) h0 h1 (by omega), h n (by omega) (by omega) (by omega)]
      omega
theorem sumI_z {f : Int → Int} : ∀ n : Nat, (∀ k : Int, 0 ≤ k → k < n → f k = 0) → sumI n f = 0 := by
  intro n
  induction n with
  | zero => intro _; rfl
  | succ n ih =>
    intro h
    show sumI n f + f n = 0
    rw [ih (fun k a b => h k a (by omega)), h n (by omega) (by omega)]
    rfl
def lsC (c : Int → Int) (k : Int) : Int := fpC c k + lenC c k - 1
theorem own_iff {c : Int → Int} (hC : CatOK c) {p k : Int} (hp : 1 ≤ p) (hk : 0 ≤ k ∧ k < c 0) : ownC c p = k ↔ fpC c k ≤ p ∧ p ≤ lsC c k := by
  have hN := hC.1
  constructor
  · intro h
    by_cases q : p ≤ pgC c (c 0)
    · obtain ⟨j, hj, h2, h3⟩ := page_in hC hp q
      have hi := its_rg hC hj
      have hs := pgC_s (c := c) hj.1
      have hL := lot_f hC hj
      unfold LotOK at hL
      by_cases b : p = pgC c j + 1 ∧ ¬ c (j * 4 + 3) = 0
      · have := kind_b hC hj b.2 b.1
        omega
      · have hko := kind_o hC hj (p := p) (r := p - pgC c j - c (j * 4 + 3) - 1) (by omega) (by omega)
        have e : j = k := by omega
        subst e
        unfold lsC fpC
        omega
    · have := kind_e hC (p := p) (by omega)
      omega
  · intro h
    unfold lsC fpC at h
    exact (kind_o hC hk (p := p) (r := p - pgC c k - c (k * 4 + 3) - 1) (by omega) (by omega)).2
theorem fp_mono {c : Int → Int} (hC : CatOK c) {k j : Int} (hk : 0 ≤ k) (hj : k < j) (hn : j < c 0) : lsC c k < fpC c j := by
  have hi := its_rg hC (k := k) (by omega)
  have hs := pgC_s (c := c) hk
  have hL := lot_f hC (k := j) (by omega)
  have hm : pgC c (k + 1) ≤ pgC c j := sumI_le (f := itsC c) (by omega) (by omega) (fun i a b => by have := its_rg hC (k := i) (by omega); omega)
  unfold LotOK at hL
  unfold lsC fpC
  omega
theorem lots_pre {c : Int → Int} (hC : CatOK c) {base : Int} (hb : 0 ≤ base) : ∀ i : Nat, lcI (ownC c) base (i + 1) = sumI (c 0).toNat (fun k => bI (fpC c k ≤ base + ((i : Int) + 1) ∧ base + 1 ≤ lsC c k)) ∧
    (ltI (ownC c) base (i + 1) = -5 ∨ (0 ≤ ltI (ownC c) base (i + 1) ∧ ltI (ownC c) base (i + 1) < c 0 ∧ fpC c (ltI (ownC c) base (i + 1)) ≤ base + ((i : Int) + 1) ∧ base + 1 ≤ lsC c (ltI (ownC c) base (i + 1)))) := by
  have hN := hC.1
  have hor : ∀ p : Int, 1 ≤ p → ownC c p = -5 ∨ (0 ≤ ownC c p ∧ ownC c p < c 0) := by
    intro p hp
    have h1 := lo_rg hC hp
    unfold ownC
    split
    · exact Or.inl rfl
    · omega
  intro i
  induction i with
  | zero =>
    have e1 : lcI (ownC c) base (0 + 1) = 0 + bI (¬ ownC c (base + (((0 : Nat) : Int) + 1)) = -5 ∧ ¬ ownC c (base + (((0 : Nat) : Int) + 1)) = -5) := rfl
    have e2 : ltI (ownC c) base (0 + 1) = if ownC c (base + (((0 : Nat) : Int) + 1)) = -5 then -5 else ownC c (base + (((0 : Nat) : Int) + 1)) := rfl
    have e3 : base + (((0 : Nat) : Int) + 1) = base + 1 := by omega
    rw [e1, e2, e3]
    rcases hor (base + 1) (by omega) with h | h
    · rw [bI_f (by omega), if_pos h]
      refine ⟨?_, Or.inl rfl⟩
      rw [sumI_z _ (fun k a b => ?_)]
      · rfl
      · refine bI_f (fun z => ?_)
        have := (own_iff hC (p := base + 1) (k := k) (by omega) (by omega)).mpr z
        omega
    · have hk := (own_iff hC (p := base + 1) (k := ownC c (base + 1)) (by omega) h).mp rfl
      rw [bI_t (by omega), if_neg (by omega)]
      refine ⟨?_, Or.inr ⟨h.1, h.2, hk⟩⟩
      have hz : sumI (c 0).toNat (fun _ => (0 : Int)) = 0 := sumI_z _ (fun _ _ _ => rfl)
      have hs := sumI_pt (f := fun k => bI (fpC c k ≤ base + 1 ∧ base + 1 ≤ lsC c k)) (g := fun _ => 0) (k0 := ownC c (base + 1)) (d := 1) (c 0).toNat (fun k a b e => bI_f (fun z => e ((own_iff hC (p := base + 1) (k := k) (by omega) (by omega)).mpr z).symm)) (by rw [bI_t hk]; rfl) h.1 (by omega)
      rw [hs, hz]
  | succ i ih =>
    obtain ⟨h1, h2⟩ := ih
    have e1 : lcI (ownC c) base (i + 1 + 1) = lcI (ownC c) base (i + 1) + bI (¬ ownC c (base + (((i + 1 : Nat) : Int) + 1)) = -5 ∧ ¬ ownC c (base + (((i + 1 : Nat) : Int) + 1)) = ltI (ownC c) base (i + 1)) := rfl
    have e2 : ltI (ownC c) base (i + 1 + 1) = if ownC c (base + (((i + 1 : Nat) : Int) + 1)) = -5 then ltI (ownC c) base (i + 1) else ownC c (base + (((i + 1 : Nat) : Int) + 1)) := rfl
    have e3 : (((i + 1 : Nat) : Int) + 1) = (i : Int) + 2 := by omega
    rw [e1, e2, e3]
    have hp : 1 ≤ base + ((i : Int) + 2) := by omega
    rcases hor _ hp with h | h
    · rw [bI_f (by omega), if_pos h, h1]
      refine ⟨?_, ?_⟩
      · rw [Int.add_zero]
        refine sumI_c _ (fun k a b => bI_c ?_)
        have hne : ¬ fpC c k = base + ((i : Int) + 2) := fun z => by
          have := (own_iff hC hp (k := k) (by omega)).mpr (by have := len_rg hC (k := k) (by omega); unfold lsC; omega)
          omega
        constructor
        · rintro ⟨z1, z2⟩; exact ⟨by omega, z2⟩
        · rintro ⟨z1, z2⟩; exact ⟨by omega, z2⟩
      · rcases h2 with h2 | h2
        · exact Or.inl h2
        · exact Or.inr ⟨h2.1, h2.2.1, by omega, h2.2.2.2⟩
    · have hk := (own_iff hC hp (k := ownC c (base + ((i : Int) + 2))) h).mp rfl
      rw [if_neg (by omega)]
      refine ⟨?_, Or.inr ⟨h.1, h.2, by omega, by omega⟩⟩
      have oth : ∀ k : Int, 0 ≤ k → k < c 0 → ¬ k = ownC c (base + ((i : Int) + 2)) → ¬ fpC c k = base + ((i : Int) + 2) := fun k a b e z => by
        have := (own_iff hC hp (k := k) ⟨a, b⟩).mpr (by have := len_rg hC (k := k) ⟨a, b⟩; unfold lsC; omega)
        omega
      by_cases e : fpC c (ownC c (base + ((i : Int) + 2))) = base + ((i : Int) + 2)
      · have hlt : ¬ ownC c (base + ((i : Int) + 2)) = ltI (ownC c) base (i + 1) := fun z => by
          rcases h2 with h2 | h2
          · omega
          · rw [← z] at h2
            omega
        rw [bI_t ⟨by omega, hlt⟩, h1]
        refine (sumI_pt (k0 := ownC c (base + ((i : Int) + 2))) (d := 1) _ (fun k a b e4 => bI_c ?_) ?_ h.1 (by omega)).symm
        · have := oth k a (by omega) e4
          constructor
          · rintro ⟨z1, z2⟩; exact ⟨by omega, z2⟩
          · rintro ⟨z1, z2⟩; exact ⟨by omega, z2⟩
        · rw [bI_t ⟨by omega, by omega⟩, bI_f (by omega)]
          rfl
      · have hlt : ownC c (base + ((i : Int) + 2)) = ltI (ownC c) base (i + 1) := by
          rcases h2 with h2 | h2
          · exfalso
            -- no lot so far, yet this one began before
            have h3 : lcI (ownC c) base (i + 1) = 0 := by
              have key : ∀ n : Nat, ltI (ownC c) base n = -5 → lcI (ownC c) base n = 0 := by
                intro n
                induction n with
                | zero => intro _; rfl
                | succ n ihn =>
                  intro z
                  have z1 : (if ownC c (base + ((n : Int) + 1)) = -5 then ltI (ownC c) base n else ownC c (base + ((n : Int) + 1))) = -5 := z
                  have e5 : lcI (ownC c) base (n + 1) = lcI (ownC c) base n + bI (¬ ownC c (base + ((n : Int) + 1)) = -5 ∧ ¬ ownC c (base + ((n : Int) + 1)) = ltI (ownC c) base n) := rfl
                  by_cases y : ownC c (base + ((n : Int) + 1)) = -5
                  · rw [if_pos y] at z1
                    rw [e5, ihn z1, bI_f (by omega)]
                    rfl
                  · rw [if_neg y] at z1
                    exact absurd z1 y
              exact key _ h2
            have h4 := sumI_b (f := fun k => bI (fpC c k ≤ base + ((i : Int) + 1) ∧ base + 1 ≤ lsC c k)) (lo := 0) (hi := 1) (c 0).toNat (fun k a b => bI_rg _)
            have h5 := sumI_pt (f := fun k => bI (fpC c k ≤ base + ((i : Int) + 1) ∧ base + 1 ≤ lsC c k)) (g := fun k => if k = ownC c (base + ((i : Int) + 2)) then 0 else bI (fpC c k ≤ base + ((i : Int) + 1) ∧ base + 1 ≤ lsC c k)) (k0 := ownC c (base + ((i : Int) + 2))) (d := 1) (c 0).toNat (fun k a b e6 => (if_neg e6).symm) (by rw [if_pos rfl, bI_t ⟨by omega, by omega⟩]; rfl) h.1 (by omega)
            have h6 := sumI_b (f := fun k => if k = ownC c (base + ((i : Int) + 2)) then 0 else bI (fpC c k ≤ base + ((i : Int) + 1) ∧ base + 1 ≤ lsC c k)) (lo := 0) (hi := 1) (c 0).toNat (fun k a b => by
              have := bI_rg (fpC c k ≤ base + ((i : Int) + 1) ∧ base + 1 ≤ lsC c k)
              split <;> omega)
            rw [h1, h5] at h3
            omega
          · by_cases e7 : ltI (ownC c) base (i + 1) < ownC c (base + ((i : Int) + 2))
            · -- the latest lot has ended before this one began; its page was the one ahead
              have key : ∀ n : Nat, (n : Int) ≤ (i : Int) + 1 → base + (n : Int) < fpC c (ownC c (base + ((i : Int) + 2))) ∨ ltI (ownC c) base n = ownC c (base + ((i : Int) + 2)) ∨ n = 0 := by
                intro n
                induction n with
                | zero => intro _; exact Or.inr (Or.inr rfl)
                | succ n ihn =>
                  intro hn
                  by_cases y : base + ((n + 1 : Nat) : Int) < fpC c (ownC c (base + ((i : Int) + 2)))
                  · exact Or.inl y
                  · refine Or.inr (Or.inl ?_)
                    have h8 := (own_iff hC (p := base + ((n : Int) + 1)) (k := ownC c (base + ((i : Int) + 2))) (by omega) h).mpr (by omega)
                    show (if ownC c (base + ((n : Int) + 1)) = -5 then ltI (ownC c) base n else ownC c (base + ((n : Int) + 1))) = _
                    rw [h8, if_neg (by omega)]
              rcases key (i + 1) (by omega) with y | y | y
              · omega
              · exact y.symm
              · omega
            · by_cases e8 : ownC c (base + ((i : Int) + 2)) < ltI (ownC c) base (i + 1)
              · have := fp_mono hC h.1 e8 h2.2.1
                omega
              · omega
        rw [bI_f (fun z => z.2 hlt), h1, Int.add_zero]
        refine sumI_c _ (fun k a b => bI_c ?_)
        by_cases e9 : k = ownC c (base + ((i : Int) + 2))
        · rw [e9]
          constructor
          · rintro ⟨z1, z2⟩; exact ⟨by omega, z2⟩
          · rintro ⟨z1, z2⟩; exact ⟨by omega, z2⟩
        · have := oth k a (by omega) e9
          constructor
          · rintro ⟨z1, z2⟩; exact ⟨by omega, z2⟩
          · rintro ⟨z1, z2⟩; exact ⟨by omega, z2⟩
def lgC (c : Int → Int) (j k : Int) : Int := bI ((fpC c k - 1) / c (49 + 0) ≤ j ∧ j ≤ (lsC c k - 1) / c (49 + 0))
theorem lots_in {c : Int → Int} (hC : CatOK c) {j : Int} (hj : 0 ≤ j ∧ j ≤ 100) : lcI (ownC c) (j * c (49 + 0)) (c (49 + 0)).toNat = sumI (c 0).toNat (lgC c j) := by
  have hN := hC.1
  have hX := hC.2.2
  unfold SetOK at hX
  have hb : 0 ≤ j * c (49 + 0) := Int.mul_nonneg hj.1 (by omega)
  have h := (lots_pre hC hb ((c (49 + 0)).toNat - 1)).1
  rw [show (c (49 + 0)).toNat - 1 + 1 = (c (49 + 0)).toNat by omega] at h
  rw [h]
  refine sumI_c _ (fun k a b => ?_)
  unfold lgC
  refine bI_c ?_
  have hp := pp_b hC (k := k) (by omega)
  have hl := len_rg hC (k := k) (by omega)
  have hls : fpC c k ≤ lsC c k := by unfold lsC; omega
  rcases hX.1 with e | e | e <;> (rw [e]; omega)
theorem fl_X8_lotsIn_7 : Cond.fieldLink RX8 7 "FacingPlatesModel" "all" "[I" ∈ wsX8_lotsIn := by decide +kernel
set_option maxHeartbeats 4000000 in
set_option maxRecDepth 100000 in
theorem c_X8_lotsIn (l : Launch) (D : va_G) (cyI : ClassId) (v : Nat) (a0 : Nat) (a1 : Nat) (a2 : Nat) (a3 : Nat) (e4 : Int) (a5 : Nat) (e6 : Int) (a7 : Nat) (e8 : Int) (e9 : Int) (e10 : Int) (a11 : Nat) (e12 : Int) (e13 : Int) (e14 : Int) (a15 : Nat) (m : Int → Int) (j : Int) (hC : CatOK (cM m)) (hj : 0 ≤ j ∧ j ≤ 100) : fp_M l yX8_lotsIn wsX8_lotsIn ({ frames := 3, cells := 0, slots := 0, locals := 65 } : Room) D cyI [(v, .inr (8, [.ref a0, .ref a1, .ref a2, .ref a3, .int (iI (e4)), .ref a5, .int (iI (e6)), .ref a7, .int (iI (e8)), .int (iI (e9)), .int (iI (e10)), .ref a11, .int (iI (e12)), .int (iI (e13)), .int (iI (e14)), .ref a15])), (a0, fA cyI 54 m)] [.ref v, .int (iI (j))] (some (.int (iI (lcI (ownC (cM m)) (j * cM m (49 + 0)) (cM m (49 + 0)).toNat)))) := by
  refine fp_start (cc := cX8_lotsIn) (maxL := 5) (ret := (some .int)) (by decide) rfl (Nat.le_of_ble_eq_true rfl) ?_
  intro pg en sx mi ar bl mt cd ls hx hb hr hts hown hlocks hml hnm hP hK hD hl
  have hown : sx.vm.findClass RX8 = some mi.cls := hown
  have hl : lv_has ls 5 [(0, .ref v), (1, .int (iI (j)))] := hl
  have hN := hC.1
  rw [cM_0] at hN
  have hX := hC.2.2
  unfold SetOK at hX
  have hl5 := la_b hC
  refine fp_iconst hx hb dX8_lotsIn_0 ?_
  refine lv_istore_n (lv' := [(2, .int (iI (0))), (0, .ref v), (1, .int (iI (j)))]) hx hb dX8_lotsIn_1 rfl hl (by decide) rfl (fun ls hl => ?_)
  refine fp_iconst hx hb dX8_lotsIn_2 ?_
  refine lv_istore_n (lv' := [(3, .int (iI (0))), (2, .int (iI (0))), (0, .ref v), (1, .int (iI (j)))]) hx hb dX8_lotsIn_3 rfl hl (by decide) rfl (fun ls hl => ?_)
  have hl := lv_sub hl (l' := [(0, .ref v), (1, .int (iI (j))), (2, .int (iI (0))), (3, .int (iI (0)))]) [2, 3, 1, 0] rfl
  have lp0 : ∀ (nf : Nat) (x : Int) (k : Int), (0 ≤ k ∧ k ≤ m 5) → (x = sumI k.toNat (lgC (cM m) j)) → (m 5 + 1 ≤ k + (nf : Int)) → ∀ (ls : Array Slot), lv_has ls 5 [(0, .ref v), (1, .int (iI (j))), (2, .int (iI (x))), (3, .int (iI (k)))] → W pg l en ({ frames := 3, cells := 0, slots := 0, locals := 65 } : Room) sx mi ar bl mt cd sx.heap [] 0 0 (MQ bl (fp_Qp (some (.int (iI (lcI (ownC (cM m)) (j * cM m (49 + 0)) (cM m (49 + 0)).toNat))))) ar sx 0 0 (fun _ => False)) (F0 mi 4 ls []) := by
    intro nf
    induction nf with
    | zero =>
      intro x k ik ix hfuel
      exact absurd hfuel (by omega)
    | succ nf ih0 =>
      intro x k ik ix hfuel ls hl
      refine lv_iload_n hx hb dX8_lotsIn_4 rfl (lv_at hl 3 rfl) ?_
      refine lv_aload_n hx hb dX8_lotsIn_5 rfl (lv_at hl 0 rfl) ?_
      refine va_get (D := D) (ci := 8) (ws := [(v, .inr (8, [.ref a0, .ref a1, .ref a2, .ref a3, .int (iI (e4)), .ref a5, .int (iI (e6)), .ref a7, .int (iI (e8)), .int (iI (e9)), .int (iI (e10)), .ref a11, .int (iI (e12)), .int (iI (e13)), .int (iI (e14)), .ref a15])), (a0, fA cyI 54 m)]) (v := .ref a0) (C := RX8) (T := TX8) (N := 16) hx hb hts (fun _ h => List.mem_cons_of_mem _ (List.mem_append_right _ h)) hown hK.1 hP 0 rfl rfl 0 (by decide) (hts _ fl_X8_lotsIn_7) (fun _ h9 => h9) rfl dX8_lotsIn_6 ?_
      refine fp_iconst hx hb dX8_lotsIn_9 ?_
      refine fp_iald (wsC := [(v, .inr (8, [.ref a0, .ref a1, .ref a2, .ref a3, .int (iI (e4)), .ref a5, .int (iI (e6)), .ref a7, .int (iI (e8)), .int (iI (e9)), .int (iI (e10)), .ref a11, .int (iI (e12)), .int (iI (e13)), .int (iI (e14)), .ref a15])), (a0, fA cyI 54 m)]) hx hb hK hP 1 rfl (by omega) (by decide) dX8_lotsIn_10 ?_
      refine fp_icmp_ge (tgt := 63) hx hb (by omega) dX8_lotsIn_11 (by decide) (fun q11 => ?_) (fun q11 => ?_)
      · skip
        refine lv_iload_n hx hb dX8_lotsIn_63 rfl (lv_at hl 2 rfl) ?_
        have hret : (lcI (ownC (cM m)) (j * cM m (49 + 0)) (cM m (49 + 0)).toNat : Int) = x := (by rw [lots_in hC hj, ix, cM_0]; congr 2; omega)
        exact fp_ret hx hb hr hlocks dX8_lotsIn_64 (congrArg (fun z : Int => Value.int (iI z)) hret)
      · skip
        refine lv_aload_n hx hb dX8_lotsIn_14 rfl (lv_at hl 0 rfl) ?_
        refine lv_iload_n hx hb dX8_lotsIn_15 rfl (lv_at hl 3 rfl) ?_
        have hp := pp_b hC (k := k) (by rw [cM_0]; omega)
        have hln := len_rg hC (k := k) (by rw [cM_0]; omega)
        have hi := its_rg hC (k := k) (by rw [cM_0]; omega)
        have hs := pgC_s (c := cM m) ik.1
        have hf : fpC (cM m) k + lenC (cM m) k - 1 = pgC (cM m) (k + 1) := by unfold fpC; omega
        have hg1 := gd_rg (q := fpC (cM m) k) hX.1 (by omega)
        have hg2 := gd_rg (q := fpC (cM m) k + lenC (cM m) k - 1) hX.1 (by omega)
        refine fp_pV (As := [.int (iI (k))]) (rest := []) (wsC := [(v, .inr (8, [.ref a0, .ref a1, .ref a2, .ref a3, .int (iI (e4)), .ref a5, .int (iI (e6)), .ref a7, .int (iI (e8)), .int (iI (e9)), .int (iI (e10)), .ref a11, .int (iI (e12)), .int (iI (e13)), .int (iI (e14)), .ref a15])), (a0, fA cyI 54 m)]) ⟨hx, hb, hml, hown, hts⟩ (c_X8_firstPage l D cyI v a0 a1 a2 a3 e4 a5 e6 a7 e8 e9 e10 a11 e12 e13 e14 a15 m k hC (by omega)) (cwV 1 hts gX8_lotsIn_X8_firstPage rfl rfl rfl (by decide +kernel) ⟨Nat.le_of_ble_eq_true rfl, Nat.le_of_ble_eq_true rfl⟩) hK hP hD [0, 1] (by decide) rfl rfl rfl rfl hl.1 rfl (Nat.le_of_ble_eq_true rfl) dX8_lotsIn_16 ⟨Nat.zero_le _, Nat.zero_le _⟩ ?_
        refine lv_istore (lv' := [(4, .int (iI (fpC (cM m) k))), (0, .ref v), (1, .int (iI (j))), (2, .int (iI (x))), (3, .int (iI (k)))]) hx hb dX8_lotsIn_19 hl (by decide) rfl (fun ls hl => ?_)
        refine lv_iload_n hx hb dX8_lotsIn_21 rfl (lv_at hl 3 rfl) ?_
        refine lv_aload_n hx hb dX8_lotsIn_22 rfl (lv_at hl 1 rfl) ?_
        refine lv_iload hx hb dX8_lotsIn_23 (lv_at hl 0 rfl) ?_
        refine fp_pV (As := [.int (iI (fpC (cM m) k))]) (rest := [.int (iI (x))]) (wsC := [(v, .inr (8, [.ref a0, .ref a1, .ref a2, .ref a3, .int (iI (e4)), .ref a5, .int (iI (e6)), .ref a7, .int (iI (e8)), .int (iI (e9)), .int (iI (e10)), .ref a11, .int (iI (e12)), .int (iI (e13)), .int (iI (e14)), .ref a15])), (a0, fA cyI 54 m)]) ⟨hx, hb, hml, hown, hts⟩ (c_X8_gatheringOf l D cyI v a0 a1 a2 a3 e4 a5 e6 a7 e8 e9 e10 a11 e12 e13 e14 a15 m (fpC (cM m) k) hC (by omega)) (cwV 1 hts gX8_lotsIn_X8_gatheringOf rfl rfl rfl (by decide +kernel) ⟨Nat.le_of_ble_eq_true rfl, Nat.le_of_ble_eq_true rfl⟩) hK hP hD [0, 1] (by decide) rfl rfl rfl rfl hl.1 rfl (Nat.le_of_ble_eq_true rfl) dX8_lotsIn_25 ⟨Nat.zero_le _, Nat.zero_le _⟩ ?_
        refine lv_iload_n hx hb dX8_lotsIn_28 rfl (lv_at hl 2 rfl) ?_
        refine fp_icmp_gt (tgt := 54) hx hb (by omega) dX8_lotsIn_29 (by decide) (fun q29 => ?_) (fun q29 => ?_)
        · skip
          refine fp_iconst hx hb dX8_lotsIn_54 ?_
          refine fp_iadd hx hb dX8_lotsIn_55 ?_
          refine lv_istore_n (lv' := [(2, .int (iI (x + 0))), (4, .int (iI (fpC (cM m) k))), (0, .ref v), (1, .int (iI (j))), (3, .int (iI (k)))]) hx hb dX8_lotsIn_56 rfl hl (by decide) rfl (fun ls hl => ?_)
          refine fp_iinc (k := 4) (lv' := [(3, .int (iI (k + 1))), (2, .int (iI (x + 0))), (4, .int (iI (fpC (cM m) k))), (0, .ref v), (1, .int (iI (j)))]) hx hb dX8_lotsIn_57 hl rfl (by decide) rfl (fun ls hl => ?_)
          refine lv_goto (tgt := 4) hx hb dX8_lotsIn_60 (by decide) ?_
          exact ih0 (x + 0) (k + 1) (by omega) (by rw [ix, sumI_s _ ik.1]; congr 1; unfold lgC lsC; first | rw [bI_t (by omega)] | rw [bI_f (by omega)]) (by omega) ls (lv_sub hl [3, 4, 1, 0] rfl)
        · skip
          refine lv_aload_n hx hb dX8_lotsIn_32 rfl (lv_at hl 1 rfl) ?_
          refine lv_iload hx hb dX8_lotsIn_33 (lv_at hl 0 rfl) ?_
          refine lv_aload_n hx hb dX8_lotsIn_35 rfl (lv_at hl 1 rfl) ?_
          refine lv_iload_n hx hb dX8_lotsIn_36 rfl (lv_at hl 4 rfl) ?_
          refine fp_pV (As := [.int (iI (k))]) (rest := [.int (iI (fpC (cM m) k)), .ref v, .int (iI (x))]) (wsC := [(v, .inr (8, [.ref a0, .ref a1, .ref a2, .ref a3, .int (iI (e4)), .ref a5, .int (iI (e6)), .ref a7, .int (iI (e8)), .int (iI (e9)), .int (iI (e10)), .ref a11, .int (iI (e12)), .int (iI (e13)), .int (iI (e14)), .ref a15])), (a0, fA cyI 54 m)]) ⟨hx, hb, hml, hown, hts⟩ (c_X8_lengthOf l D cyI v a0 a1 a2 a3 e4 a5 e6 a7 e8 e9 e10 a11 e12 e13 e14 a15 m k hC (by omega)) (cwV 1 hts gX8_lotsIn_X8_lengthOf rfl rfl rfl (by decide +kernel) ⟨Nat.le_of_ble_eq_true rfl, Nat.le_of_ble_eq_true rfl⟩) hK hP hD [0, 1] (by decide) rfl rfl rfl rfl hl.1 rfl (Nat.le_of_ble_eq_true rfl) dX8_lotsIn_37 ⟨Nat.zero_le _, Nat.zero_le _⟩ ?_
          refine fp_iadd hx hb dX8_lotsIn_40 ?_
          refine fp_iconst hx hb dX8_lotsIn_41 ?_
          refine fp_isub hx hb dX8_lotsIn_42 ?_
          refine fp_pV (As := [.int (iI (((fpC (cM m) k) + (lenC (cM m) k)) - 1))]) (rest := [.int (iI (x))]) (wsC := [(v, .inr (8, [.ref a0, .ref a1, .ref a2, .ref a3, .int (iI (e4)), .ref a5, .int (iI (e6)), .ref a7, .int (iI (e8)), .int (iI (e9)), .int (iI (e10)), .ref a11, .int (iI (e12)), .int (iI (e13)), .int (iI (e14)), .ref a15])), (a0, fA cyI 54 m)]) ⟨hx, hb, hml, hown, hts⟩ (c_X8_gatheringOf l D cyI v a0 a1 a2 a3 e4 a5 e6 a7 e8 e9 e10 a11 e12 e13 e14 a15 m (((fpC (cM m) k) + (lenC (cM m) k)) - 1) hC (by omega)) (cwV 1 hts gX8_lotsIn_X8_gatheringOf rfl rfl rfl (by decide +kernel) ⟨Nat.le_of_ble_eq_true rfl, Nat.le_of_ble_eq_true rfl⟩) hK hP hD [0, 1] (by decide) rfl rfl rfl rfl hl.1 rfl (Nat.le_of_ble_eq_true rfl) dX8_lotsIn_43 ⟨Nat.zero_le _, Nat.zero_le _⟩ ?_
          refine lv_iload_n hx hb dX8_lotsIn_46 rfl (lv_at hl 2 rfl) ?_
          refine fp_icmp_lt (tgt := 54) hx hb (by omega) dX8_lotsIn_47 (by decide) (fun q47 => ?_) (fun q47 => ?_)
          · skip
            refine fp_iconst hx hb dX8_lotsIn_54 ?_
            refine fp_iadd hx hb dX8_lotsIn_55 ?_
            refine lv_istore_n (lv' := [(2, .int (iI (x + 0))), (4, .int (iI (fpC (cM m) k))), (0, .ref v), (1, .int (iI (j))), (3, .int (iI (k)))]) hx hb dX8_lotsIn_56 rfl hl (by decide) rfl (fun ls hl => ?_)
            refine fp_iinc (k := 4) (lv' := [(3, .int (iI (k + 1))), (2, .int (iI (x + 0))), (4, .int (iI (fpC (cM m) k))), (0, .ref v), (1, .int (iI (j)))]) hx hb dX8_lotsIn_57 hl rfl (by decide) rfl (fun ls hl => ?_)
            refine lv_goto (tgt := 4) hx hb dX8_lotsIn_60 (by decide) ?_
            exact ih0 (x + 0) (k + 1) (by omega) (by rw [ix, sumI_s _ ik.1]; congr 1; unfold lgC lsC; first | rw [bI_t (by omega)] | rw [bI_f (by omega)]) (by omega) ls (lv_sub hl [3, 4, 1, 0] rfl)
          · skip
            refine fp_iconst hx hb dX8_lotsIn_50 ?_
            refine lv_goto (tgt := 55) hx hb dX8_lotsIn_51 (by decide) ?_
            refine fp_iadd hx hb dX8_lotsIn_55 ?_
            refine lv_istore_n (lv' := [(2, .int (iI (x + 1))), (4, .int (iI (fpC (cM m) k))), (0, .ref v), (1, .int (iI (j))), (3, .int (iI (k)))]) hx hb dX8_lotsIn_56 rfl hl (by decide) rfl (fun ls hl => ?_)
            refine fp_iinc (k := 4) (lv' := [(3, .int (iI (k + 1))), (2, .int (iI (x + 1))), (4, .int (iI (fpC (cM m) k))), (0, .ref v), (1, .int (iI (j)))]) hx hb dX8_lotsIn_57 hl rfl (by decide) rfl (fun ls hl => ?_)
            refine lv_goto (tgt := 4) hx hb dX8_lotsIn_60 (by decide) ?_
            exact ih0 (x + 1) (k + 1) (by omega) (by rw [ix, sumI_s _ ik.1]; congr 1; unfold lgC lsC; first | rw [bI_t (by omega)] | rw [bI_f (by omega)]) (by omega) ls (lv_sub hl [3, 4, 1, 0] rfl)
  exact lp0 (((m 5 : Int) + 1 - (0)).toNat) 0 0 (by omega) rfl (by omega) ls hl
theorem fl_X8_pagesIn_7 : Cond.fieldLink RX8 7 "FacingPlatesModel" "all" "[I" ∈ wsX8_pagesIn := by decide +kernel
set_option maxHeartbeats 4000000 in
set_option maxRecDepth 100000 in
theorem c_X8_pagesIn (l : Launch) (D : va_G) (cyI : ClassId) (v : Nat) (a0 : Nat) (a1 : Nat) (a2 : Nat) (a3 : Nat) (e4 : Int) (a5 : Nat) (e6 : Int) (a7 : Nat) (e8 : Int) (e9 : Int) (e10 : Int) (a11 : Nat) (e12 : Int) (e13 : Int) (e14 : Int) (a15 : Nat) (m : Int → Int) (j : Int) (z : Int) (hC : CatOK (cM m)) (hj : 0 ≤ j ∧ j < gaC (cM m)) (hz : 0 ≤ z ∧ z ≤ 1) : fp_M l yX8_pagesIn wsX8_pagesIn ({ frames := 5, cells := 0, slots := 0, locals := 108 } : Room) D cyI [(v, .inr (8, [.ref a0, .ref a1, .ref a2, .ref a3, .int (iI (e4)), .ref a5, .int (iI (e6)), .ref a7, .int (iI (e8)), .int (iI (e9)), .int (iI (e10)), .ref a11, .int (iI (e12)), .int (iI (e13)), .int (iI (e14)), .ref a15])), (a0, fA cyI 54 m)] [.ref v, .int (iI (j)), .int (iI (z))] (some (.int (iI (sumI (cM m (49 + 0)).toNat (fun i9 => if z = 0 then plkI (kindC (cM m) (j * cM m (49 + 0) + (i9 + 1))) else blkI (kindC (cM m) (j * cM m (49 + 0) + (i9 + 1)))))))) := by
  refine fp_start (cc := cX8_pagesIn) (maxL := 6) (ret := (some .int)) (by decide) rfl (Nat.le_of_ble_eq_true rfl) ?_
  intro pg en sx mi ar bl mt cd ls hx hb hr hts hown hlocks hml hnm hP hK hD hl
  have hown : sx.vm.findClass RX8 = some mi.cls := hown
  have hl : lv_has ls 6 [(0, .ref v), (1, .int (iI (j))), (2, .int (iI (z)))] := hl
  have hN := hC.1
  rw [cM_0] at hN
  have hX := hC.2.2
  unfold SetOK at hX
  have eG : cM m (49 + 0) = m 0 := cM_s (by omega)
  rw [eG] at hX
  have hX0 := hX.1
  have hl5 := la_b hC
  refine fp_iconst hx hb dX8_pagesIn_0 ?_
  refine lv_istore_n (lv' := [(3, .int (iI (0))), (0, .ref v), (1, .int (iI (j))), (2, .int (iI (z)))]) hx hb dX8_pagesIn_1 rfl hl (by decide) rfl (fun ls hl => ?_)
  refine fp_iconst hx hb dX8_pagesIn_2 ?_
  refine lv_istore (lv' := [(4, .int (iI (1))), (3, .int (iI (0))), (0, .ref v), (1, .int (iI (j))), (2, .int (iI (z)))]) hx hb dX8_pagesIn_3 hl (by decide) rfl (fun ls hl => ?_)
  have hl := lv_sub hl (l' := [(0, .ref v), (1, .int (iI (j))), (2, .int (iI (z))), (3, .int (iI (0))), (4, .int (iI (1)))]) [2, 3, 4, 1, 0] rfl
  have lp0 : ∀ (nf : Nat) (x : Int) (i : Int), (1 ≤ i ∧ i ≤ m 0 + 1) → (x = sumI (i - 1).toNat (fun i9 => if z = 0 then plkI (kindC (cM m) (j * cM m (49 + 0) + (i9 + 1))) else blkI (kindC (cM m) (j * cM m (49 + 0) + (i9 + 1))))) → (m 0 + 1 + 1 ≤ i + (nf : Int)) → ∀ (ls : Array Slot), lv_has ls 6 [(0, .ref v), (1, .int (iI (j))), (2, .int (iI (z))), (3, .int (iI (x))), (4, .int (iI (i)))] → W pg l en ({ frames := 5, cells := 0, slots := 0, locals := 108 } : Room) sx mi ar bl mt cd sx.heap [] 0 0 (MQ bl (fp_Qp (some (.int (iI (sumI (cM m (49 + 0)).toNat (fun i9 => if z = 0 then plkI (kindC (cM m) (j * cM m (49 + 0) + (i9 + 1))) else blkI (kindC (cM m) (j * cM m (49 + 0) + (i9 + 1))))))))) ar sx 0 0 (fun _ => False)) (F0 mi 5 ls []) := by
    intro nf
    induction nf with
    | zero =>
      intro x i ii ix hfuel
      exact absurd hfuel (by omega)
    | succ nf ih0 =>
      intro x i ii ix hfuel ls hl
      refine lv_iload hx hb dX8_pagesIn_5 (lv_at hl 4 rfl) ?_
      refine lv_aload_n hx hb dX8_pagesIn_7 rfl (lv_at hl 0 rfl) ?_
      refine va_get (D := D) (ci := 8) (ws := [(v, .inr (8, [.ref a0, .ref a1, .ref a2, .ref a3, .int (iI (e4)), .ref a5, .int (iI (e6)), .ref a7, .int (iI (e8)), .int (iI (e9)), .int (iI (e10)), .ref a11, .int (iI (e12)), .int (iI (e13)), .int (iI (e14)), .ref a15])), (a0, fA cyI 54 m)]) (v := .ref a0) (C := RX8) (T := TX8) (N := 16) hx hb hts (fun _ h => List.mem_cons_of_mem _ (List.mem_append_right _ h)) hown hK.1 hP 0 rfl rfl 0 (by decide) (hts _ fl_X8_pagesIn_7) (fun _ h9 => h9) rfl dX8_pagesIn_8 ?_
      refine fp_iconst hx hb dX8_pagesIn_11 ?_
      refine fp_iald (wsC := [(v, .inr (8, [.ref a0, .ref a1, .ref a2, .ref a3, .int (iI (e4)), .ref a5, .int (iI (e6)), .ref a7, .int (iI (e8)), .int (iI (e9)), .int (iI (e10)), .ref a11, .int (iI (e12)), .int (iI (e13)), .int (iI (e14)), .ref a15])), (a0, fA cyI 54 m)]) hx hb hK hP 1 rfl (by omega) (by decide) dX8_pagesIn_12 ?_
      refine fp_icmp_gt (tgt := 79) hx hb (by omega) dX8_pagesIn_13 (by decide) (fun q13 => ?_) (fun q13 => ?_)
      · skip
        refine lv_iload_n hx hb dX8_pagesIn_79 rfl (lv_at hl 3 rfl) ?_
        have hret : (sumI (cM m (49 + 0)).toNat (fun i9 => if z = 0 then plkI (kindC (cM m) (j * cM m (49 + 0) + (i9 + 1))) else blkI (kindC (cM m) (j * cM m (49 + 0) + (i9 + 1)))) : Int) = x := (by rw [ix, eG]; congr 1; omega)
        exact fp_ret hx hb hr hlocks dX8_pagesIn_80 (congrArg (fun z : Int => Value.int (iI z)) hret)
      · skip
        have hin := ga_in hC hj (i := i) (by rw [eG]; omega)
        have hkr := kind_rg hC hin.1
        rw [eG] at hin hkr
        refine lv_aload_n hx hb dX8_pagesIn_16 rfl (lv_at hl 0 rfl) ?_
        refine lv_aload_n hx hb dX8_pagesIn_17 rfl (lv_at hl 0 rfl) ?_
        refine va_get (D := D) (ci := 8) (ws := [(v, .inr (8, [.ref a0, .ref a1, .ref a2, .ref a3, .int (iI (e4)), .ref a5, .int (iI (e6)), .ref a7, .int (iI (e8)), .int (iI (e9)), .int (iI (e10)), .ref a11, .int (iI (e12)), .int (iI (e13)), .int (iI (e14)), .ref a15])), (a0, fA cyI 54 m)]) (v := .ref a0) (C := RX8) (T := TX8) (N := 16) hx hb hts (fun _ h => List.mem_cons_of_mem _ (List.mem_append_right _ h)) hown hK.1 hP 0 rfl rfl 0 (by decide) (hts _ fl_X8_pagesIn_7) (fun _ h9 => h9) rfl dX8_pagesIn_18 ?_
        refine fp_iconst hx hb dX8_pagesIn_21 ?_
        refine fp_iald (wsC := [(v, .inr (8, [.ref a0, .ref a1, .ref a2, .ref a3, .int (iI (e4)), .ref a5, .int (iI (e6)), .ref a7, .int (iI (e8)), .int (iI (e9)), .int (iI (e10)), .ref a11, .int (iI (e12)), .int (iI (e13)), .int (iI (e14)), .ref a15])), (a0, fA cyI 54 m)]) hx hb hK hP 1 rfl (by omega) (by decide) dX8_pagesIn_22 ?_
        refine lv_iload_n hx hb dX8_pagesIn_23 rfl (lv_at hl 1 rfl) ?_
        refine fp_imul hx hb dX8_pagesIn_24 ?_
        refine lv_iload hx hb dX8_pagesIn_25 (lv_at hl 4 rfl) ?_
        refine fp_iadd hx hb dX8_pagesIn_27 ?_
        refine fp_pV (As := [.int (iI (((m 0) * j) + i))]) (rest := []) (wsC := [(v, .inr (8, [.ref a0, .ref a1, .ref a2, .ref a3, .int (iI (e4)), .ref a5, .int (iI (e6)), .ref a7, .int (iI (e8)), .int (iI (e9)), .int (iI (e10)), .ref a11, .int (iI (e12)), .int (iI (e13)), .int (iI (e14)), .ref a15])), (a0, fA cyI 54 m)]) ⟨hx, hb, hml, hown, hts⟩ (c_X8_kindAt l D cyI v a0 a1 a2 a3 e4 a5 e6 a7 e8 e9 e10 a11 e12 e13 e14 a15 m (((m 0) * j) + i) hC (by rw [Int.mul_comm]; omega)) (cwV 1 hts gX8_pagesIn_X8_kindAt rfl rfl rfl (by decide +kernel) ⟨Nat.le_of_ble_eq_true rfl, Nat.le_of_ble_eq_true rfl⟩) hK hP hD [0, 1] (by decide) rfl rfl rfl rfl hl.1 rfl (Nat.le_of_ble_eq_true rfl) dX8_pagesIn_28 ⟨Nat.zero_le _, Nat.zero_le _⟩ ?_
        rw [show (kindC (cM m) (((m 0) * j) + i) : Int) = kindC (cM m) (j * cM m (49 + 0) + i) from (by rw [eG, Int.mul_comm])]
        refine lv_istore (lv' := [(5, .int (iI (kindC (cM m) (j * cM m (49 + 0) + i)))), (0, .ref v), (1, .int (iI (j))), (2, .int (iI (z))), (3, .int (iI (x))), (4, .int (iI (i)))]) hx hb dX8_pagesIn_31 hl (by decide) rfl (fun ls hl => ?_)
        rw [← eG] at hkr
        refine lv_iload_n hx hb dX8_pagesIn_33 rfl (lv_at hl 4 rfl) ?_
        have jn2 : ∀ (pz : Int), (pz = if z = 0 then plkI (kindC (cM m) (j * cM m (49 + 0) + i)) else blkI (kindC (cM m) (j * cM m (49 + 0) + i))) → ∀ (ls : Array Slot), lv_has ls 6 [(0, .ref v), (1, .int (iI (j))), (2, .int (iI (z))), (3, .int (iI (x))), (4, .int (iI (i))), (5, .int (iI (kindC (cM m) (j * cM m (49 + 0) + i))))] → W pg l en ({ frames := 5, cells := 0, slots := 0, locals := 108 } : Room) sx mi ar bl mt cd sx.heap [] 0 0 (MQ bl (fp_Qp (some (.int (iI (sumI (cM m (49 + 0)).toNat (fun i9 => if z = 0 then plkI (kindC (cM m) (j * cM m (49 + 0) + (i9 + 1))) else blkI (kindC (cM m) (j * cM m (49 + 0) + (i9 + 1))))))))) ar sx 0 0 (fun _ => False)) (F0 mi 71 ls [.int (iI (pz)), .int (iI (x))]) := by
          intro pz jz ls hl
          refine fp_iadd hx hb dX8_pagesIn_71 ?_
          have hix : x + pz = sumI (i + 1 - 1).toNat (fun i9 => if z = 0 then plkI (kindC (cM m) (j * cM m (49 + 0) + (i9 + 1))) else blkI (kindC (cM m) (j * cM m (49 + 0) + (i9 + 1)))) := by
            rw [show i + 1 - 1 = (i - 1) + 1 by omega, sumI_s _ (show 0 ≤ i - 1 by omega), ← ix, show i - 1 + 1 = i by omega, jz]
          refine lv_istore_n (lv' := [(3, .int (iI (x + pz))), (0, .ref v), (1, .int (iI (j))), (2, .int (iI (z))), (4, .int (iI (i))), (5, .int (iI (kindC (cM m) (j * cM m (49 + 0) + i))))]) hx hb dX8_pagesIn_72 rfl hl (by decide) rfl (fun ls hl => ?_)
          refine fp_iinc (k := 4) (lv' := [(4, .int (iI (i + 1))), (3, .int (iI (x + pz))), (0, .ref v), (1, .int (iI (j))), (2, .int (iI (z))), (5, .int (iI (kindC (cM m) (j * cM m (49 + 0) + i))))]) hx hb dX8_pagesIn_73 hl rfl (by decide) rfl (fun ls hl => ?_)
          refine lv_goto (tgt := 5) hx hb dX8_pagesIn_76 (by decide) ?_
          exact ih0 (x + pz) (i + 1) (by omega) hix (by omega) ls (lv_sub hl [2, 3, 4, 1, 0] rfl)
        refine lv_iload_n hx hb dX8_pagesIn_34 rfl (lv_at hl 3 rfl) ?_
        refine fp_if_eq (tgt := 54) hx hb (by omega) dX8_pagesIn_35 (by decide) (fun q35 => ?_) (fun q35 => ?_)
        · skip
          refine lv_iload hx hb dX8_pagesIn_54 (lv_at hl 0 rfl) ?_
          refine fp_iconst hx hb dX8_pagesIn_56 ?_
          refine fp_icmp_eq (tgt := 66) hx hb (by omega) dX8_pagesIn_57 (by decide) (fun q57 => ?_) (fun q57 => ?_)
          · skip
            refine fp_iconst hx hb dX8_pagesIn_66 ?_
            refine lv_goto (tgt := 71) hx hb dX8_pagesIn_67 (by decide) ?_
            exact jn2 1 (by first | (rw [if_neg (by omega)]; unfold blkI; first | rw [bI_t c43] | rw [bI_f c43]) | (rw [if_pos (by omega)]; unfold plkI; first | rw [bI_t (by omega)] | rw [bI_f (by omega)])) ls (lv_sub hl [1, 2, 3, 4, 5, 0] rfl)
          · skip
            refine lv_iload hx hb dX8_pagesIn_60 (lv_at hl 0 rfl) ?_
            refine fp_iconst hx hb dX8_pagesIn_62 ?_
            refine fp_icmp_ne (tgt := 70) hx hb (by omega) dX8_pagesIn_63 (by decide) (fun q63 => ?_) (fun q63 => ?_)
            · skip
              refine fp_iconst hx hb dX8_pagesIn_70 ?_
              exact jn2 0 (by first | (rw [if_neg (by omega)]; unfold blkI; first | rw [bI_t c43] | rw [bI_f c43]) | (rw [if_pos (by omega)]; unfold plkI; first | rw [bI_t (by omega)] | rw [bI_f (by omega)])) ls (lv_sub hl [1, 2, 3, 4, 5, 0] rfl)
            · skip
              refine fp_iconst hx hb dX8_pagesIn_66 ?_
              refine lv_goto (tgt := 71) hx hb dX8_pagesIn_67 (by decide) ?_
              exact jn2 1 (by first | (rw [if_neg (by omega)]; unfold blkI; first | rw [bI_t c43] | rw [bI_f c43]) | (rw [if_pos (by omega)]; unfold plkI; first | rw [bI_t (by omega)] | rw [bI_f (by omega)])) ls (lv_sub hl [1, 2, 3, 4, 5, 0] rfl)
        · skip
          refine lv_iload hx hb dX8_pagesIn_38 (lv_at hl 0 rfl) ?_
          refine fp_pS (As := [.int (iI (kindC (cM m) (j * cM m (49 + 0) + i)))]) (rest := [.int (iI (x))]) (wsC := [(v, .inr (8, [.ref a0, .ref a1, .ref a2, .ref a3, .int (iI (e4)), .ref a5, .int (iI (e6)), .ref a7, .int (iI (e8)), .int (iI (e9)), .int (iI (e10)), .ref a11, .int (iI (e12)), .int (iI (e13)), .int (iI (e14)), .ref a15])), (a0, fA cyI 54 m)]) ⟨hx, hb, hml, hown, hts⟩ (c_X8_isBlank l D cyI (kindC (cM m) (j * cM m (49 + 0) + i)) (by omega)) (va_cwS 1 hts gX8_pagesIn_X8_isBlank rfl rfl rfl (by decide +kernel) ⟨Nat.le_of_ble_eq_true rfl, Nat.le_of_ble_eq_true rfl⟩) hK hP hD [] (by decide) rfl rfl hl.1 rfl (Nat.le_of_ble_eq_true rfl) dX8_pagesIn_40 ⟨Nat.zero_le _, Nat.zero_le _⟩ ?_
          refine fp_if_eq (tgt := 50) hx hb (bI_r32 _) dX8_pagesIn_43 (by decide) (fun q43 => ?_) (fun q43 => ?_)
          · skip
            have c43 := bI_e q43
            refine fp_iconst hx hb dX8_pagesIn_50 ?_
            refine lv_goto (tgt := 71) hx hb dX8_pagesIn_51 (by decide) ?_
            exact jn2 0 (by first | (rw [if_neg (by omega)]; unfold blkI; first | rw [bI_t c43] | rw [bI_f c43]) | (rw [if_pos (by omega)]; unfold plkI; first | rw [bI_t (by omega)] | rw [bI_f (by omega)])) ls (lv_sub hl [1, 2, 3, 4, 5, 0] rfl)
          · skip
            have c43 := bI_ne q43
            refine fp_iconst hx hb dX8_pagesIn_46 ?_
            refine lv_goto (tgt := 71) hx hb dX8_pagesIn_47 (by decide) ?_
            exact jn2 1 (by first | (rw [if_neg (by omega)]; unfold blkI; first | rw [bI_t c43] | rw [bI_f c43]) | (rw [if_pos (by omega)]; unfold plkI; first | rw [bI_t (by omega)] | rw [bI_f (by omega)])) ls (lv_sub hl [1, 2, 3, 4, 5, 0] rfl)
  exact lp0 (((m 0 + 1 : Int) + 1 - (1)).toNat) 0 1 (by omega) rfl (by omega) ls hl
theorem fl_X8_lot_7 : Cond.fieldLink RX8 7 "FacingPlatesModel" "all" "[I" ∈ wsX8_lot := by decide +kernel
set_option maxHeartbeats 4000000 in
set_option maxRecDepth 100000 in
theorem c_X8_lot (l : Launch) (D : va_G) (cyI : ClassId) (v : Nat) (a0 : Nat) (a1 : Nat) (a2 : Nat) (a3 : Nat) (e4 : Int) (a5 : Nat) (e6 : Int) (a7 : Nat) (e8 : Int) (e9 : Int) (e10 : Int) (a11 : Nat) (e12 : Int) (e13 : Int) (e14 : Int) (a15 : Nat) (m : Int → Int) (k : Int) (w : Int) (hC : CatOK (cM m)) (hk9 : -2147483648 ≤ k ∧ k ≤ 2147483647) (hw9 : -2147483648 ≤ w ∧ w ≤ 2147483647) : fp_M l yX8_lot wsX8_lot ({ frames := 6, cells := 0, slots := 0, locals := 130 } : Room) D cyI [(v, .inr (8, [.ref a0, .ref a1, .ref a2, .ref a3, .int (iI (e4)), .ref a5, .int (iI (e6)), .ref a7, .int (iI (e8)), .int (iI (e9)), .int (iI (e10)), .ref a11, .int (iI (e12)), .int (iI (e13)), .int (iI (e14)), .ref a15])), (a0, fA cyI 54 m)] [.ref v, .int (iI (k)), .int (iI (w))] (some (.int (iI (ltR (cM m) k w)))) := by
  refine fp_start (cc := cX8_lot) (maxL := 3) (ret := (some .int)) (by decide) rfl (Nat.le_of_ble_eq_true rfl) ?_
  intro pg en sx mi ar bl mt cd ls hx hb hr hts hown hlocks hml hnm hP hK hD hl
  have hown : sx.vm.findClass RX8 = some mi.cls := hown
  have hl : lv_has ls 3 [(0, .ref v), (1, .int (iI (k))), (2, .int (iI (w)))] := hl
  have hN := hC.1
  rw [cM_0] at hN
  have hl5 := la_b hC
  refine lv_aload_n hx hb dX8_lot_0 rfl (lv_at hl 0 rfl) ?_
  refine lv_iload_n hx hb dX8_lot_1 rfl (lv_at hl 1 rfl) ?_
  refine fp_pV (As := [.int (iI (k))]) (rest := []) (wsC := [(v, .inr (8, [.ref a0, .ref a1, .ref a2, .ref a3, .int (iI (e4)), .ref a5, .int (iI (e6)), .ref a7, .int (iI (e8)), .int (iI (e9)), .int (iI (e10)), .ref a11, .int (iI (e12)), .int (iI (e13)), .int (iI (e14)), .ref a15])), (a0, fA cyI 54 m)]) ⟨hx, hb, hml, hown, hts⟩ (c_X8_isLot l D cyI v a0 a1 a2 a3 e4 a5 e6 a7 e8 e9 e10 a11 e12 e13 e14 a15 m k hk9 hN) (cwV 1 hts gX8_lot_X8_isLot rfl rfl rfl (by decide +kernel) ⟨Nat.le_of_ble_eq_true rfl, Nat.le_of_ble_eq_true rfl⟩) hK hP hD [0, 1] (by decide) rfl rfl rfl rfl hl.1 rfl (Nat.le_of_ble_eq_true rfl) dX8_lot_2 ⟨Nat.zero_le _, Nat.zero_le _⟩ ?_
  refine fp_if_ne (tgt := 10) hx hb (bI_r32 _) dX8_lot_5 (by decide) (fun q5 => ?_) (fun q5 => ?_)
  · skip
    have w5 := bI_ne q5
    have hk := w5
    have e0 : cM m 0 = m 5 := cM_0 m
    have e1 : cM m (k * 4 + 2) = m (18 + k) := cM_p (by omega)
    have e2 : cM m (k * 4 + 3) = m (30 + k) := cM_b (by omega)
    have e3 : cM m (k * 4 + 4) = m (42 + k) := cM_q (by omega)
    refine lv_iload_n hx hb dX8_lot_10 rfl (lv_at hl 2 rfl) ?_
    rcases Decidable.em (w < 0 ∨ 7 < w) with hsw | hsw
    · skip
      refine lv_tableOut (tgt := 150) hx hb dX8_lot_11 (by rw [iI_toInt hw9]; exact hsw) (by decide) ?_
      refine fp_bipush hx hb dX8_lot_150 (by decide) ?_
      have hret : (ltR (cM m) k w : Int) = (-2) := (by unfold ltR; repeat (first | rw [if_pos (by omega)] | rw [if_neg (by omega)]); try omega)
      exact fp_ret hx hb hr hlocks dX8_lot_152 (congrArg (fun z : Int => Value.int (iI z)) hret)
    · skip
      have hsv : w = 0 ∨ w = 1 ∨ w = 2 ∨ w = 3 ∨ w = 4 ∨ w = 5 ∨ w = 6 ∨ w = 7 := by omega
      rcases hsv with hsv | hsv | hsv | hsv | hsv | hsv | hsv | hsv
      · skip
        refine lv_tableIn (off := 45) (tgt := 56) hx hb dX8_lot_11 (by rw [hsv]; decide) (by rw [hsv]; decide) (by rw [hsv]; decide) (by decide) ?_
        refine lv_aload_n hx hb dX8_lot_56 rfl (lv_at hl 0 rfl) ?_
        refine lv_iload_n hx hb dX8_lot_57 rfl (lv_at hl 1 rfl) ?_
        refine fp_pV (As := [.int (iI (k))]) (rest := []) (wsC := [(v, .inr (8, [.ref a0, .ref a1, .ref a2, .ref a3, .int (iI (e4)), .ref a5, .int (iI (e6)), .ref a7, .int (iI (e8)), .int (iI (e9)), .int (iI (e10)), .ref a11, .int (iI (e12)), .int (iI (e13)), .int (iI (e14)), .ref a15])), (a0, fA cyI 54 m)]) ⟨hx, hb, hml, hown, hts⟩ (c_X8_textOf l D cyI v a0 a1 a2 a3 e4 a5 e6 a7 e8 e9 e10 a11 e12 e13 e14 a15 m k (by omega)) (cwV 1 hts gX8_lot_X8_textOf rfl rfl rfl (by decide +kernel) ⟨Nat.le_of_ble_eq_true rfl, Nat.le_of_ble_eq_true rfl⟩) hK hP hD [0, 1] (by decide) rfl rfl rfl rfl hl.1 rfl (Nat.le_of_ble_eq_true rfl) dX8_lot_58 ⟨Nat.zero_le _, Nat.zero_le _⟩ ?_
        have hret : (ltR (cM m) k w : Int) = cM m (k * 4 + 1) := (by unfold ltR; repeat (first | rw [if_pos (by omega)] | rw [if_neg (by omega)]); try omega)
        exact fp_ret hx hb hr hlocks dX8_lot_61 (congrArg (fun z : Int => Value.int (iI z)) hret)
      · skip
        refine lv_tableIn (off := 51) (tgt := 62) hx hb dX8_lot_11 (by rw [hsv]; decide) (by rw [hsv]; decide) (by rw [hsv]; decide) (by decide) ?_
        refine lv_aload_n hx hb dX8_lot_62 rfl (lv_at hl 0 rfl) ?_
        refine va_get (D := D) (ci := 8) (ws := [(v, .inr (8, [.ref a0, .ref a1, .ref a2, .ref a3, .int (iI (e4)), .ref a5, .int (iI (e6)), .ref a7, .int (iI (e8)), .int (iI (e9)), .int (iI (e10)), .ref a11, .int (iI (e12)), .int (iI (e13)), .int (iI (e14)), .ref a15])), (a0, fA cyI 54 m)]) (v := .ref a0) (C := RX8) (T := TX8) (N := 16) hx hb hts (fun _ h => List.mem_cons_of_mem _ (List.mem_append_right _ h)) hown hK.1 hP 0 rfl rfl 0 (by decide) (hts _ fl_X8_lot_7) (fun _ h9 => h9) rfl dX8_lot_63 ?_
        refine fp_bipush hx hb dX8_lot_66 (by decide) ?_
        refine lv_iload_n hx hb dX8_lot_68 rfl (lv_at hl 1 rfl) ?_
        refine fp_iadd hx hb dX8_lot_69 ?_
        refine fp_iald (wsC := [(v, .inr (8, [.ref a0, .ref a1, .ref a2, .ref a3, .int (iI (e4)), .ref a5, .int (iI (e6)), .ref a7, .int (iI (e8)), .int (iI (e9)), .int (iI (e10)), .ref a11, .int (iI (e12)), .int (iI (e13)), .int (iI (e14)), .ref a15])), (a0, fA cyI 54 m)]) hx hb hK hP 1 rfl (by omega) (by decide) dX8_lot_70 ?_
        have hret : (ltR (cM m) k w : Int) = m (18 + k) := (by unfold ltR; repeat (first | rw [if_pos (by omega)] | rw [if_neg (by omega)]); try omega)
        exact fp_ret hx hb hr hlocks dX8_lot_71 (congrArg (fun z : Int => Value.int (iI z)) hret)
      · skip
        refine lv_tableIn (off := 61) (tgt := 72) hx hb dX8_lot_11 (by rw [hsv]; decide) (by rw [hsv]; decide) (by rw [hsv]; decide) (by decide) ?_
        refine lv_aload_n hx hb dX8_lot_72 rfl (lv_at hl 0 rfl) ?_
        refine va_get (D := D) (ci := 8) (ws := [(v, .inr (8, [.ref a0, .ref a1, .ref a2, .ref a3, .int (iI (e4)), .ref a5, .int (iI (e6)), .ref a7, .int (iI (e8)), .int (iI (e9)), .int (iI (e10)), .ref a11, .int (iI (e12)), .int (iI (e13)), .int (iI (e14)), .ref a15])), (a0, fA cyI 54 m)]) (v := .ref a0) (C := RX8) (T := TX8) (N := 16) hx hb hts (fun _ h => List.mem_cons_of_mem _ (List.mem_append_right _ h)) hown hK.1 hP 0 rfl rfl 0 (by decide) (hts _ fl_X8_lot_7) (fun _ h9 => h9) rfl dX8_lot_73 ?_
        refine fp_bipush hx hb dX8_lot_76 (by decide) ?_
        refine lv_iload_n hx hb dX8_lot_78 rfl (lv_at hl 1 rfl) ?_
        refine fp_iadd hx hb dX8_lot_79 ?_
        refine fp_iald (wsC := [(v, .inr (8, [.ref a0, .ref a1, .ref a2, .ref a3, .int (iI (e4)), .ref a5, .int (iI (e6)), .ref a7, .int (iI (e8)), .int (iI (e9)), .int (iI (e10)), .ref a11, .int (iI (e12)), .int (iI (e13)), .int (iI (e14)), .ref a15])), (a0, fA cyI 54 m)]) hx hb hK hP 1 rfl (by omega) (by decide) dX8_lot_80 ?_
        have hret : (ltR (cM m) k w : Int) = m (30 + k) := (by unfold ltR; repeat (first | rw [if_pos (by omega)] | rw [if_neg (by omega)]); try omega)
        exact fp_ret hx hb hr hlocks dX8_lot_81 (congrArg (fun z : Int => Value.int (iI z)) hret)
      · skip
        refine lv_tableIn (off := 71) (tgt := 82) hx hb dX8_lot_11 (by rw [hsv]; decide) (by rw [hsv]; decide) (by rw [hsv]; decide) (by decide) ?_
        refine lv_aload_n hx hb dX8_lot_82 rfl (lv_at hl 0 rfl) ?_
        refine lv_iload_n hx hb dX8_lot_83 rfl (lv_at hl 1 rfl) ?_
        refine fp_pV (As := [.int (iI (k))]) (rest := []) (wsC := [(v, .inr (8, [.ref a0, .ref a1, .ref a2, .ref a3, .int (iI (e4)), .ref a5, .int (iI (e6)), .ref a7, .int (iI (e8)), .int (iI (e9)), .int (iI (e10)), .ref a11, .int (iI (e12)), .int (iI (e13)), .int (iI (e14)), .ref a15])), (a0, fA cyI 54 m)]) ⟨hx, hb, hml, hown, hts⟩ (c_X8_hasPlate l D cyI v a0 a1 a2 a3 e4 a5 e6 a7 e8 e9 e10 a11 e12 e13 e14 a15 m k hC (by omega)) (cwV 1 hts gX8_lot_X8_hasPlate rfl rfl rfl (by decide +kernel) ⟨Nat.le_of_ble_eq_true rfl, Nat.le_of_ble_eq_true rfl⟩) hK hP hD [0, 1] (by decide) rfl rfl rfl rfl hl.1 rfl (Nat.le_of_ble_eq_true rfl) dX8_lot_84 ⟨Nat.zero_le _, Nat.zero_le _⟩ ?_
        refine fp_if_eq (tgt := 102) hx hb (bI_r32 _) dX8_lot_87 (by decide) (fun q87 => ?_) (fun q87 => ?_)
        · skip
          have w87 := bI_e q87
          refine fp_bipush hx hb dX8_lot_102 (by decide) ?_
          have hret : (ltR (cM m) k w : Int) = (-5) := (by unfold ltR; repeat (first | rw [if_pos (by omega)] | rw [if_neg (by omega)]); try omega)
          exact fp_ret hx hb hr hlocks dX8_lot_104 (congrArg (fun z : Int => Value.int (iI z)) hret)
        · skip
          have w87 := bI_ne q87
          refine lv_aload_n hx hb dX8_lot_90 rfl (lv_at hl 0 rfl) ?_
          refine va_get (D := D) (ci := 8) (ws := [(v, .inr (8, [.ref a0, .ref a1, .ref a2, .ref a3, .int (iI (e4)), .ref a5, .int (iI (e6)), .ref a7, .int (iI (e8)), .int (iI (e9)), .int (iI (e10)), .ref a11, .int (iI (e12)), .int (iI (e13)), .int (iI (e14)), .ref a15])), (a0, fA cyI 54 m)]) (v := .ref a0) (C := RX8) (T := TX8) (N := 16) hx hb hts (fun _ h => List.mem_cons_of_mem _ (List.mem_append_right _ h)) hown hK.1 hP 0 rfl rfl 0 (by decide) (hts _ fl_X8_lot_7) (fun _ h9 => h9) rfl dX8_lot_91 ?_
          refine fp_bipush hx hb dX8_lot_94 (by decide) ?_
          refine lv_iload_n hx hb dX8_lot_96 rfl (lv_at hl 1 rfl) ?_
          refine fp_iadd hx hb dX8_lot_97 ?_
          refine fp_iald (wsC := [(v, .inr (8, [.ref a0, .ref a1, .ref a2, .ref a3, .int (iI (e4)), .ref a5, .int (iI (e6)), .ref a7, .int (iI (e8)), .int (iI (e9)), .int (iI (e10)), .ref a11, .int (iI (e12)), .int (iI (e13)), .int (iI (e14)), .ref a15])), (a0, fA cyI 54 m)]) hx hb hK hP 1 rfl (by omega) (by decide) dX8_lot_98 ?_
          refine lv_goto (tgt := 104) hx hb dX8_lot_99 (by decide) ?_
          have hret : (ltR (cM m) k w : Int) = m (42 + k) := (by unfold ltR; repeat (first | rw [if_pos (by omega)] | rw [if_neg (by omega)]); try omega)
          exact fp_ret hx hb hr hlocks dX8_lot_104 (congrArg (fun z : Int => Value.int (iI z)) hret)
      · skip
        refine lv_tableIn (off := 94) (tgt := 105) hx hb dX8_lot_11 (by rw [hsv]; decide) (by rw [hsv]; decide) (by rw [hsv]; decide) (by decide) ?_
        refine lv_aload_n hx hb dX8_lot_105 rfl (lv_at hl 0 rfl) ?_
        refine lv_iload_n hx hb dX8_lot_106 rfl (lv_at hl 1 rfl) ?_
        refine fp_pV (As := [.int (iI (k))]) (rest := []) (wsC := [(v, .inr (8, [.ref a0, .ref a1, .ref a2, .ref a3, .int (iI (e4)), .ref a5, .int (iI (e6)), .ref a7, .int (iI (e8)), .int (iI (e9)), .int (iI (e10)), .ref a11, .int (iI (e12)), .int (iI (e13)), .int (iI (e14)), .ref a15])), (a0, fA cyI 54 m)]) ⟨hx, hb, hml, hown, hts⟩ (c_X8_firstPage l D cyI v a0 a1 a2 a3 e4 a5 e6 a7 e8 e9 e10 a11 e12 e13 e14 a15 m k hC (by omega)) (cwV 1 hts gX8_lot_X8_firstPage rfl rfl rfl (by decide +kernel) ⟨Nat.le_of_ble_eq_true rfl, Nat.le_of_ble_eq_true rfl⟩) hK hP hD [0, 1] (by decide) rfl rfl rfl rfl hl.1 rfl (Nat.le_of_ble_eq_true rfl) dX8_lot_107 ⟨Nat.zero_le _, Nat.zero_le _⟩ ?_
        have hret : (ltR (cM m) k w : Int) = fpC (cM m) k := (by unfold ltR; repeat (first | rw [if_pos (by omega)] | rw [if_neg (by omega)]); try omega)
        exact fp_ret hx hb hr hlocks dX8_lot_110 (congrArg (fun z : Int => Value.int (iI z)) hret)
      · skip
        refine lv_tableIn (off := 100) (tgt := 111) hx hb dX8_lot_11 (by rw [hsv]; decide) (by rw [hsv]; decide) (by rw [hsv]; decide) (by decide) ?_
        refine lv_aload_n hx hb dX8_lot_111 rfl (lv_at hl 0 rfl) ?_
        refine lv_iload_n hx hb dX8_lot_112 rfl (lv_at hl 1 rfl) ?_
        refine fp_pV (As := [.int (iI (k))]) (rest := []) (wsC := [(v, .inr (8, [.ref a0, .ref a1, .ref a2, .ref a3, .int (iI (e4)), .ref a5, .int (iI (e6)), .ref a7, .int (iI (e8)), .int (iI (e9)), .int (iI (e10)), .ref a11, .int (iI (e12)), .int (iI (e13)), .int (iI (e14)), .ref a15])), (a0, fA cyI 54 m)]) ⟨hx, hb, hml, hown, hts⟩ (c_X8_hasPlate l D cyI v a0 a1 a2 a3 e4 a5 e6 a7 e8 e9 e10 a11 e12 e13 e14 a15 m k hC (by omega)) (cwV 1 hts gX8_lot_X8_hasPlate rfl rfl rfl (by decide +kernel) ⟨Nat.le_of_ble_eq_true rfl, Nat.le_of_ble_eq_true rfl⟩) hK hP hD [0, 1] (by decide) rfl rfl rfl rfl hl.1 rfl (Nat.le_of_ble_eq_true rfl) dX8_lot_113 ⟨Nat.zero_le _, Nat.zero_le _⟩ ?_
        refine fp_if_eq (tgt := 127) hx hb (bI_r32 _) dX8_lot_116 (by decide) (fun q116 => ?_) (fun q116 => ?_)
        · skip
          have w116 := bI_e q116
          refine fp_bipush hx hb dX8_lot_127 (by decide) ?_
          have hret : (ltR (cM m) k w : Int) = (-5) := (by unfold ltR; repeat (first | rw [if_pos (by omega)] | rw [if_neg (by omega)]); try omega)
          exact fp_ret hx hb hr hlocks dX8_lot_129 (congrArg (fun z : Int => Value.int (iI z)) hret)
        · skip
          have w116 := bI_ne q116
          refine lv_aload_n hx hb dX8_lot_119 rfl (lv_at hl 0 rfl) ?_
          refine lv_iload_n hx hb dX8_lot_120 rfl (lv_at hl 1 rfl) ?_
          refine fp_pV (As := [.int (iI (k))]) (rest := []) (wsC := [(v, .inr (8, [.ref a0, .ref a1, .ref a2, .ref a3, .int (iI (e4)), .ref a5, .int (iI (e6)), .ref a7, .int (iI (e8)), .int (iI (e9)), .int (iI (e10)), .ref a11, .int (iI (e12)), .int (iI (e13)), .int (iI (e14)), .ref a15])), (a0, fA cyI 54 m)]) ⟨hx, hb, hml, hown, hts⟩ (c_X8_platePage l D cyI v a0 a1 a2 a3 e4 a5 e6 a7 e8 e9 e10 a11 e12 e13 e14 a15 m k hC (by omega)) (cwV 1 hts gX8_lot_X8_platePage rfl rfl rfl (by decide +kernel) ⟨Nat.le_of_ble_eq_true rfl, Nat.le_of_ble_eq_true rfl⟩) hK hP hD [0, 1] (by decide) rfl rfl rfl rfl hl.1 rfl (Nat.le_of_ble_eq_true rfl) dX8_lot_121 ⟨Nat.zero_le _, Nat.zero_le _⟩ ?_
          refine lv_goto (tgt := 129) hx hb dX8_lot_124 (by decide) ?_
          have hret : (ltR (cM m) k w : Int) = ppC (cM m) k := (by unfold ltR; repeat (first | rw [if_pos (by omega)] | rw [if_neg (by omega)]); try omega)
          exact fp_ret hx hb hr hlocks dX8_lot_129 (congrArg (fun z : Int => Value.int (iI z)) hret)
      · skip
        refine lv_tableIn (off := 119) (tgt := 130) hx hb dX8_lot_11 (by rw [hsv]; decide) (by rw [hsv]; decide) (by rw [hsv]; decide) (by decide) ?_
        refine lv_aload_n hx hb dX8_lot_130 rfl (lv_at hl 0 rfl) ?_
        refine lv_iload_n hx hb dX8_lot_131 rfl (lv_at hl 1 rfl) ?_
        refine fp_pV (As := [.int (iI (k))]) (rest := []) (wsC := [(v, .inr (8, [.ref a0, .ref a1, .ref a2, .ref a3, .int (iI (e4)), .ref a5, .int (iI (e6)), .ref a7, .int (iI (e8)), .int (iI (e9)), .int (iI (e10)), .ref a11, .int (iI (e12)), .int (iI (e13)), .int (iI (e14)), .ref a15])), (a0, fA cyI 54 m)]) ⟨hx, hb, hml, hown, hts⟩ (c_X8_whyNot l D cyI v a0 a1 a2 a3 e4 a5 e6 a7 e8 e9 e10 a11 e12 e13 e14 a15 m k hC (by omega)) (cwV 1 hts gX8_lot_X8_whyNot rfl rfl rfl (by decide +kernel) ⟨Nat.le_of_ble_eq_true rfl, Nat.le_of_ble_eq_true rfl⟩) hK hP hD [0, 1] (by decide) rfl rfl rfl rfl hl.1 rfl (Nat.le_of_ble_eq_true rfl) dX8_lot_132 ⟨Nat.zero_le _, Nat.zero_le _⟩ ?_
        refine fp_if_ne (tgt := 142) hx hb (by have := whC_rg (cM m) k; omega) dX8_lot_135 (by decide) (fun q135 => ?_) (fun q135 => ?_)
        · skip
          refine fp_iconst hx hb dX8_lot_142 ?_
          have hret : (ltR (cM m) k w : Int) = 0 := (by unfold ltR; rw [if_neg (by omega), if_neg (by omega), if_neg (by omega), if_neg (by omega), if_neg (by omega), if_neg (by omega), if_neg (by omega), if_pos (by omega)]; first | rw [bI_t (by omega)] | rw [bI_f (by omega)])
          exact fp_ret hx hb hr hlocks dX8_lot_143 (congrArg (fun z : Int => Value.int (iI z)) hret)
        · skip
          refine fp_iconst hx hb dX8_lot_138 ?_
          refine lv_goto (tgt := 143) hx hb dX8_lot_139 (by decide) ?_
          have hret : (ltR (cM m) k w : Int) = 1 := (by unfold ltR; rw [if_neg (by omega), if_neg (by omega), if_neg (by omega), if_neg (by omega), if_neg (by omega), if_neg (by omega), if_neg (by omega), if_pos (by omega)]; first | rw [bI_t (by omega)] | rw [bI_f (by omega)])
          exact fp_ret hx hb hr hlocks dX8_lot_143 (congrArg (fun z : Int => Value.int (iI z)) hret)
      · skip
        refine lv_tableIn (off := 133) (tgt := 144) hx hb dX8_lot_11 (by rw [hsv]; decide) (by rw [hsv]; decide) (by rw [hsv]; decide) (by decide) ?_
        refine lv_aload_n hx hb dX8_lot_144 rfl (lv_at hl 0 rfl) ?_
        refine lv_iload_n hx hb dX8_lot_145 rfl (lv_at hl 1 rfl) ?_
        refine fp_pV (As := [.int (iI (k))]) (rest := []) (wsC := [(v, .inr (8, [.ref a0, .ref a1, .ref a2, .ref a3, .int (iI (e4)), .ref a5, .int (iI (e6)), .ref a7, .int (iI (e8)), .int (iI (e9)), .int (iI (e10)), .ref a11, .int (iI (e12)), .int (iI (e13)), .int (iI (e14)), .ref a15])), (a0, fA cyI 54 m)]) ⟨hx, hb, hml, hown, hts⟩ (c_X8_whyNot l D cyI v a0 a1 a2 a3 e4 a5 e6 a7 e8 e9 e10 a11 e12 e13 e14 a15 m k hC (by omega)) (cwV 1 hts gX8_lot_X8_whyNot rfl rfl rfl (by decide +kernel) ⟨Nat.le_of_ble_eq_true rfl, Nat.le_of_ble_eq_true rfl⟩) hK hP hD [0, 1] (by decide) rfl rfl rfl rfl hl.1 rfl (Nat.le_of_ble_eq_true rfl) dX8_lot_146 ⟨Nat.zero_le _, Nat.zero_le _⟩ ?_
        have hret : (ltR (cM m) k w : Int) = whC (cM m) k := (by unfold ltR; repeat (first | rw [if_pos (by omega)] | rw [if_neg (by omega)]); try omega)
        exact fp_ret hx hb hr hlocks dX8_lot_149 (congrArg (fun z : Int => Value.int (iI z)) hret)
  · skip
    have w5 := bI_e q5
    have e0 : cM m 0 = m 5 := cM_0 m
    refine fp_iconst hx hb dX8_lot_8 ?_
    have hret : (ltR (cM m) k w : Int) = (-1) := (by unfold ltR; repeat (first | rw [if_pos (by omega)] | rw [if_neg (by omega)]); try omega)
    exact fp_ret hx hb hr hlocks dX8_lot_9 (congrArg (fun z : Int => Value.int (iI z)) hret)
theorem fl_X8_page_7 : Cond.fieldLink RX8 7 "FacingPlatesModel" "all" "[I" ∈ wsX8_page := by decide +kernel
set_option maxHeartbeats 4000000 in
set_option maxRecDepth 100000 in
theorem c_X8_page (l : Launch) (D : va_G) (cyI : ClassId) (v : Nat) (a0 : Nat) (a1 : Nat) (a2 : Nat) (a3 : Nat) (e4 : Int) (a5 : Nat) (e6 : Int) (a7 : Nat) (e8 : Int) (e9 : Int) (e10 : Int) (a11 : Nat) (e12 : Int) (e13 : Int) (e14 : Int) (a15 : Nat) (m : Int → Int) (q : Int) (w : Int) (hC : CatOK (cM m)) (hq9 : -2147483648 ≤ q ∧ q ≤ 2147483647) (hw9 : -2147483648 ≤ w ∧ w ≤ 2147483647) : fp_M l yX8_page wsX8_page ({ frames := 5, cells := 0, slots := 0, locals := 108 } : Room) D cyI [(v, .inr (8, [.ref a0, .ref a1, .ref a2, .ref a3, .int (iI (e4)), .ref a5, .int (iI (e6)), .ref a7, .int (iI (e8)), .int (iI (e9)), .int (iI (e10)), .ref a11, .int (iI (e12)), .int (iI (e13)), .int (iI (e14)), .ref a15])), (a0, fA cyI 54 m)] [.ref v, .int (iI (q)), .int (iI (w))] (some (.int (iI (pgR (cM m) q w)))) := by
  refine fp_start (cc := cX8_page) (maxL := 4) (ret := (some .int)) (by decide) rfl (Nat.le_of_ble_eq_true rfl) ?_
  intro pg en sx mi ar bl mt cd ls hx hb hr hts hown hlocks hml hnm hP hK hD hl
  have hown : sx.vm.findClass RX8 = some mi.cls := hown
  have hl : lv_has ls 4 [(0, .ref v), (1, .int (iI (q))), (2, .int (iI (w)))] := hl
  have hN := hC.1
  rw [cM_0] at hN
  have hX := hC.2.2
  unfold SetOK at hX
  have eG : cM m (49 + 0) = m 0 := cM_s (by omega)
  rw [eG] at hX
  have hX0 := hX.1
  have hl5 := la_b hC
  have eL : gaC (cM m) * m 0 = laC (cM m) := by rw [hl5.2.2.1, eG]
  refine lv_iload_n hx hb dX8_page_0 rfl (lv_at hl 1 rfl) ?_
  refine fp_i2l hx hb (by omega) dX8_page_1 ?_
  refine fp_lconst hx hb 1 dX8_page_2 rfl ?_
  refine lv_aload_n hx hb dX8_page_3 rfl (lv_at hl 0 rfl) ?_
  refine fp_pV (As := []) (rest := [.long (lI (1)), .long (lI (q))]) (wsC := [(v, .inr (8, [.ref a0, .ref a1, .ref a2, .ref a3, .int (iI (e4)), .ref a5, .int (iI (e6)), .ref a7, .int (iI (e8)), .int (iI (e9)), .int (iI (e10)), .ref a11, .int (iI (e12)), .int (iI (e13)), .int (iI (e14)), .ref a15])), (a0, fA cyI 54 m)]) ⟨hx, hb, hml, hown, hts⟩ (c_X8_gatherings l D cyI v a0 a1 a2 a3 e4 a5 e6 a7 e8 e9 e10 a11 e12 e13 e14 a15 m hC) (cwV 0 hts gX8_page_X8_gatherings rfl rfl rfl (by decide +kernel) ⟨Nat.le_of_ble_eq_true rfl, Nat.le_of_ble_eq_true rfl⟩) hK hP hD [0, 1] (by decide) rfl rfl rfl rfl hl.1 rfl (Nat.le_of_ble_eq_true rfl) dX8_page_4 ⟨Nat.zero_le _, Nat.zero_le _⟩ ?_
  refine lv_aload_n hx hb dX8_page_7 rfl (lv_at hl 0 rfl) ?_
  refine va_get (D := D) (ci := 8) (ws := [(v, .inr (8, [.ref a0, .ref a1, .ref a2, .ref a3, .int (iI (e4)), .ref a5, .int (iI (e6)), .ref a7, .int (iI (e8)), .int (iI (e9)), .int (iI (e10)), .ref a11, .int (iI (e12)), .int (iI (e13)), .int (iI (e14)), .ref a15])), (a0, fA cyI 54 m)]) (v := .ref a0) (C := RX8) (T := TX8) (N := 16) hx hb hts (fun _ h => List.mem_cons_of_mem _ (List.mem_append_right _ h)) hown hK.1 hP 0 rfl rfl 0 (by decide) (hts _ fl_X8_page_7) (fun _ h9 => h9) rfl dX8_page_8 ?_
  refine fp_iconst hx hb dX8_page_11 ?_
  refine fp_iald (wsC := [(v, .inr (8, [.ref a0, .ref a1, .ref a2, .ref a3, .int (iI (e4)), .ref a5, .int (iI (e6)), .ref a7, .int (iI (e8)), .int (iI (e9)), .int (iI (e10)), .ref a11, .int (iI (e12)), .int (iI (e13)), .int (iI (e14)), .ref a15])), (a0, fA cyI 54 m)]) hx hb hK hP 1 rfl (by omega) (by decide) dX8_page_12 ?_
  refine fp_imul hx hb dX8_page_13 ?_
  refine fp_i2l hx hb (by omega) dX8_page_14 ?_
  refine fp_pS (As := [.long (lI (q)), .long (lI (1)), .long (lI ((gaC (cM m)) * (m 0)))]) (rest := []) (wsC := [(v, .inr (8, [.ref a0, .ref a1, .ref a2, .ref a3, .int (iI (e4)), .ref a5, .int (iI (e6)), .ref a7, .int (iI (e8)), .int (iI (e9)), .int (iI (e10)), .ref a11, .int (iI (e12)), .int (iI (e13)), .int (iI (e14)), .ref a15])), (a0, fA cyI 54 m)]) ⟨hx, hb, hml, hown, hts⟩ (c_X8_in l D cyI q 1 ((gaC (cM m)) * (m 0)) (by omega)) (va_cwS 3 hts gX8_page_X8_in rfl rfl rfl (by decide +kernel) ⟨Nat.le_of_ble_eq_true rfl, Nat.le_of_ble_eq_true rfl⟩) hK hP hD [] (by decide) rfl rfl hl.1 rfl (Nat.le_of_ble_eq_true rfl) dX8_page_15 ⟨Nat.zero_le _, Nat.zero_le _⟩ ?_
  refine fp_if_ne (tgt := 23) hx hb (bI_r32 _) dX8_page_18 (by decide) (fun q18 => ?_) (fun q18 => ?_)
  · skip
    have w18 := bI_ne q18
    have hq1 : 1 ≤ q ∧ q ≤ laC (cM m) := by omega
    have hkr := kind_rg hC hq1.1
    refine lv_aload_n hx hb dX8_page_23 rfl (lv_at hl 0 rfl) ?_
    refine lv_iload_n hx hb dX8_page_24 rfl (lv_at hl 1 rfl) ?_
    refine fp_pV (As := [.int (iI (q))]) (rest := []) (wsC := [(v, .inr (8, [.ref a0, .ref a1, .ref a2, .ref a3, .int (iI (e4)), .ref a5, .int (iI (e6)), .ref a7, .int (iI (e8)), .int (iI (e9)), .int (iI (e10)), .ref a11, .int (iI (e12)), .int (iI (e13)), .int (iI (e14)), .ref a15])), (a0, fA cyI 54 m)]) ⟨hx, hb, hml, hown, hts⟩ (c_X8_kindAt l D cyI v a0 a1 a2 a3 e4 a5 e6 a7 e8 e9 e10 a11 e12 e13 e14 a15 m q hC (by omega)) (cwV 1 hts gX8_page_X8_kindAt rfl rfl rfl (by decide +kernel) ⟨Nat.le_of_ble_eq_true rfl, Nat.le_of_ble_eq_true rfl⟩) hK hP hD [0, 1] (by decide) rfl rfl rfl rfl hl.1 rfl (Nat.le_of_ble_eq_true rfl) dX8_page_25 ⟨Nat.zero_le _, Nat.zero_le _⟩ ?_
    refine lv_istore_n (lv' := [(3, .int (iI (kindC (cM m) q))), (0, .ref v), (1, .int (iI (q))), (2, .int (iI (w)))]) hx hb dX8_page_28 rfl hl (by decide) rfl (fun ls hl => ?_)
    refine lv_iload_n hx hb dX8_page_29 rfl (lv_at hl 3 rfl) ?_
    rcases Decidable.em (w < 0 ∨ 4 < w) with hsw | hsw
    · skip
      refine lv_tableOut (tgt := 102) hx hb dX8_page_30 (by rw [iI_toInt hw9]; exact hsw) (by decide) ?_
      refine fp_bipush hx hb dX8_page_102 (by decide) ?_
      have hret : (pgR (cM m) q w : Int) = (-2) := (by unfold pgR; repeat (first | rw [if_pos (by omega)] | rw [if_neg (by omega)]); try omega)
      exact fp_ret hx hb hr hlocks dX8_page_104 (congrArg (fun z : Int => Value.int (iI z)) hret)
    · skip
      have hsv : w = 0 ∨ w = 1 ∨ w = 2 ∨ w = 3 ∨ w = 4 := by omega
      rcases hsv with hsv | hsv | hsv | hsv | hsv
      · skip
        refine lv_tableIn (off := 34) (tgt := 64) hx hb dX8_page_30 (by rw [hsv]; decide) (by rw [hsv]; decide) (by rw [hsv]; decide) (by decide) ?_
        refine lv_iload_n hx hb dX8_page_64 rfl (lv_at hl 0 rfl) ?_
        refine fp_pS (As := [.int (iI (kindC (cM m) q))]) (rest := []) (wsC := [(v, .inr (8, [.ref a0, .ref a1, .ref a2, .ref a3, .int (iI (e4)), .ref a5, .int (iI (e6)), .ref a7, .int (iI (e8)), .int (iI (e9)), .int (iI (e10)), .ref a11, .int (iI (e12)), .int (iI (e13)), .int (iI (e14)), .ref a15])), (a0, fA cyI 54 m)]) ⟨hx, hb, hml, hown, hts⟩ (c_X8_isBlank l D cyI (kindC (cM m) q) (by omega)) (va_cwS 1 hts gX8_page_X8_isBlank rfl rfl rfl (by decide +kernel) ⟨Nat.le_of_ble_eq_true rfl, Nat.le_of_ble_eq_true rfl⟩) hK hP hD [] (by decide) rfl rfl hl.1 rfl (Nat.le_of_ble_eq_true rfl) dX8_page_65 ⟨Nat.zero_le _, Nat.zero_le _⟩ ?_
        refine fp_if_eq (tgt := 76) hx hb (bI_r32 _) dX8_page_68 (by decide) (fun q68 => ?_) (fun q68 => ?_)
        · skip
          have c68 := bI_e q68
          have hwn : ownC (cM m) q = lotC (cM m) q := if_neg c68
          refine lv_aload_n hx hb dX8_page_76 rfl (lv_at hl 1 rfl) ?_
          refine lv_iload_n hx hb dX8_page_77 rfl (lv_at hl 2 rfl) ?_
          refine fp_pV (As := [.int (iI (q))]) (rest := []) (wsC := [(v, .inr (8, [.ref a0, .ref a1, .ref a2, .ref a3, .int (iI (e4)), .ref a5, .int (iI (e6)), .ref a7, .int (iI (e8)), .int (iI (e9)), .int (iI (e10)), .ref a11, .int (iI (e12)), .int (iI (e13)), .int (iI (e14)), .ref a15])), (a0, fA cyI 54 m)]) ⟨hx, hb, hml, hown, hts⟩ (c_X8_lotAt l D cyI v a0 a1 a2 a3 e4 a5 e6 a7 e8 e9 e10 a11 e12 e13 e14 a15 m q hC (by omega)) (cwV 1 hts gX8_page_X8_lotAt rfl rfl rfl (by decide +kernel) ⟨Nat.le_of_ble_eq_true rfl, Nat.le_of_ble_eq_true rfl⟩) hK hP hD [0, 1] (by decide) rfl rfl rfl rfl hl.1 rfl (Nat.le_of_ble_eq_true rfl) dX8_page_78 ⟨Nat.zero_le _, Nat.zero_le _⟩ ?_
          have hret : (pgR (cM m) q w : Int) = lotC (cM m) q := (by unfold pgR; repeat (first | rw [if_pos (by omega)] | rw [if_neg (by omega)]); try omega)
          exact fp_ret hx hb hr hlocks dX8_page_81 (congrArg (fun z : Int => Value.int (iI z)) hret)
        · skip
          have c68 := bI_ne q68
          have hwn : ownC (cM m) q = -5 := if_pos c68
          refine fp_bipush hx hb dX8_page_71 (by decide) ?_
          refine lv_goto (tgt := 81) hx hb dX8_page_73 (by decide) ?_
          have hret : (pgR (cM m) q w : Int) = (-5) := (by unfold pgR; repeat (first | rw [if_pos (by omega)] | rw [if_neg (by omega)]); try omega)
          exact fp_ret hx hb hr hlocks dX8_page_81 (congrArg (fun z : Int => Value.int (iI z)) hret)
      · skip
        refine lv_tableIn (off := 52) (tgt := 82) hx hb dX8_page_30 (by rw [hsv]; decide) (by rw [hsv]; decide) (by rw [hsv]; decide) (by decide) ?_
        refine lv_iload_n hx hb dX8_page_82 rfl (lv_at hl 0 rfl) ?_
        have hret : (pgR (cM m) q w : Int) = kindC (cM m) q := (by unfold pgR; repeat (first | rw [if_pos (by omega)] | rw [if_neg (by omega)]); try omega)
        exact fp_ret hx hb hr hlocks dX8_page_83 (congrArg (fun z : Int => Value.int (iI z)) hret)
      · skip
        refine lv_tableIn (off := 54) (tgt := 84) hx hb dX8_page_30 (by rw [hsv]; decide) (by rw [hsv]; decide) (by rw [hsv]; decide) (by decide) ?_
        refine lv_aload_n hx hb dX8_page_84 rfl (lv_at hl 1 rfl) ?_
        refine lv_iload_n hx hb dX8_page_85 rfl (lv_at hl 2 rfl) ?_
        refine fp_pV (As := [.int (iI (q))]) (rest := []) (wsC := [(v, .inr (8, [.ref a0, .ref a1, .ref a2, .ref a3, .int (iI (e4)), .ref a5, .int (iI (e6)), .ref a7, .int (iI (e8)), .int (iI (e9)), .int (iI (e10)), .ref a11, .int (iI (e12)), .int (iI (e13)), .int (iI (e14)), .ref a15])), (a0, fA cyI 54 m)]) ⟨hx, hb, hml, hown, hts⟩ (c_X8_gatheringOf l D cyI v a0 a1 a2 a3 e4 a5 e6 a7 e8 e9 e10 a11 e12 e13 e14 a15 m q hC (by omega)) (cwV 1 hts gX8_page_X8_gatheringOf rfl rfl rfl (by decide +kernel) ⟨Nat.le_of_ble_eq_true rfl, Nat.le_of_ble_eq_true rfl⟩) hK hP hD [0, 1] (by decide) rfl rfl rfl rfl hl.1 rfl (Nat.le_of_ble_eq_true rfl) dX8_page_86 ⟨Nat.zero_le _, Nat.zero_le _⟩ ?_
        have hret : (pgR (cM m) q w : Int) = (q - 1) / cM m (49 + 0) := (by unfold pgR; repeat (first | rw [if_pos (by omega)] | rw [if_neg (by omega)]); try omega)
        exact fp_ret hx hb hr hlocks dX8_page_89 (congrArg (fun z : Int => Value.int (iI z)) hret)
      · skip
        refine lv_tableIn (off := 60) (tgt := 90) hx hb dX8_page_30 (by rw [hsv]; decide) (by rw [hsv]; decide) (by rw [hsv]; decide) (by decide) ?_
        refine lv_aload_n hx hb dX8_page_90 rfl (lv_at hl 1 rfl) ?_
        refine lv_iload_n hx hb dX8_page_91 rfl (lv_at hl 2 rfl) ?_
        refine fp_pV (As := [.int (iI (q))]) (rest := []) (wsC := [(v, .inr (8, [.ref a0, .ref a1, .ref a2, .ref a3, .int (iI (e4)), .ref a5, .int (iI (e6)), .ref a7, .int (iI (e8)), .int (iI (e9)), .int (iI (e10)), .ref a11, .int (iI (e12)), .int (iI (e13)), .int (iI (e14)), .ref a15])), (a0, fA cyI 54 m)]) ⟨hx, hb, hml, hown, hts⟩ (c_X8_sideOf l D cyI v a0 a1 a2 a3 e4 a5 e6 a7 e8 e9 e10 a11 e12 e13 e14 a15 m q hC (by omega)) (cwV 1 hts gX8_page_X8_sideOf rfl rfl rfl (by decide +kernel) ⟨Nat.le_of_ble_eq_true rfl, Nat.le_of_ble_eq_true rfl⟩) hK hP hD [0, 1] (by decide) rfl rfl rfl rfl hl.1 rfl (Nat.le_of_ble_eq_true rfl) dX8_page_92 ⟨Nat.zero_le _, Nat.zero_le _⟩ ?_
        have hret : (pgR (cM m) q w : Int) = bI (2 ≤ q % 4) := (by unfold pgR; repeat (first | rw [if_pos (by omega)] | rw [if_neg (by omega)]); try omega)
        exact fp_ret hx hb hr hlocks dX8_page_95 (congrArg (fun z : Int => Value.int (iI z)) hret)
      · skip
        refine lv_tableIn (off := 66) (tgt := 96) hx hb dX8_page_30 (by rw [hsv]; decide) (by rw [hsv]; decide) (by rw [hsv]; decide) (by decide) ?_
        refine lv_aload_n hx hb dX8_page_96 rfl (lv_at hl 1 rfl) ?_
        refine lv_iload_n hx hb dX8_page_97 rfl (lv_at hl 2 rfl) ?_
        refine fp_pV (As := [.int (iI (q))]) (rest := []) (wsC := [(v, .inr (8, [.ref a0, .ref a1, .ref a2, .ref a3, .int (iI (e4)), .ref a5, .int (iI (e6)), .ref a7, .int (iI (e8)), .int (iI (e9)), .int (iI (e10)), .ref a11, .int (iI (e12)), .int (iI (e13)), .int (iI (e14)), .ref a15])), (a0, fA cyI 54 m)]) ⟨hx, hb, hml, hown, hts⟩ (c_X8_beside l D cyI v a0 a1 a2 a3 e4 a5 e6 a7 e8 e9 e10 a11 e12 e13 e14 a15 m q hC (by omega)) (cwV 1 hts gX8_page_X8_beside rfl rfl rfl (by decide +kernel) ⟨Nat.le_of_ble_eq_true rfl, Nat.le_of_ble_eq_true rfl⟩) hK hP hD [0, 1] (by decide) rfl rfl rfl rfl hl.1 rfl (Nat.le_of_ble_eq_true rfl) dX8_page_98 ⟨Nat.zero_le _, Nat.zero_le _⟩ ?_
        have hret : (pgR (cM m) q w : Int) = othI q (laC (cM m)) := (by unfold pgR; repeat (first | rw [if_pos (by omega)] | rw [if_neg (by omega)]); try omega)
        exact fp_ret hx hb hr hlocks dX8_page_101 (congrArg (fun z : Int => Value.int (iI z)) hret)
  · skip
    have w18 := bI_e q18
    refine fp_iconst hx hb dX8_page_21 ?_
    have hret : (pgR (cM m) q w : Int) = (-1) := (by unfold pgR; repeat (first | rw [if_pos (by omega)] | rw [if_neg (by omega)]); try omega)
    exact fp_ret hx hb hr hlocks dX8_page_22 (congrArg (fun z : Int => Value.int (iI z)) hret)
set_option maxHeartbeats 4000000 in
set_option maxRecDepth 100000 in
theorem c_X8_gathering (l : Launch) (D : va_G) (cyI : ClassId) (v : Nat) (a0 : Nat) (a1 : Nat) (a2 : Nat) (a3 : Nat) (e4 : Int) (a5 : Nat) (e6 : Int) (a7 : Nat) (e8 : Int) (e9 : Int) (e10 : Int) (a11 : Nat) (e12 : Int) (e13 : Int) (e14 : Int) (a15 : Nat) (m : Int → Int) (j : Int) (w : Int) (hC : CatOK (cM m)) (hj9 : -2147483648 ≤ j ∧ j ≤ 2147483647) (hw9 : -2147483648 ≤ w ∧ w ≤ 2147483647) : fp_M l yX8_gathering wsX8_gathering ({ frames := 6, cells := 0, slots := 0, locals := 133 } : Room) D cyI [(v, .inr (8, [.ref a0, .ref a1, .ref a2, .ref a3, .int (iI (e4)), .ref a5, .int (iI (e6)), .ref a7, .int (iI (e8)), .int (iI (e9)), .int (iI (e10)), .ref a11, .int (iI (e12)), .int (iI (e13)), .int (iI (e14)), .ref a15])), (a0, fA cyI 54 m)] [.ref v, .int (iI (j)), .int (iI (w))] (some (.int (iI (gaR (cM m) j w)))) := by
  refine fp_start (cc := cX8_gathering) (maxL := 3) (ret := (some .int)) (by decide) rfl (Nat.le_of_ble_eq_true rfl) ?_
  intro pg en sx mi ar bl mt cd ls hx hb hr hts hown hlocks hml hnm hP hK hD hl
  have hown : sx.vm.findClass RX8 = some mi.cls := hown
  have hl : lv_has ls 3 [(0, .ref v), (1, .int (iI (j))), (2, .int (iI (w)))] := hl
  have hN := hC.1
  rw [cM_0] at hN
  have hX := hC.2.2
  unfold SetOK at hX
  have eG : cM m (49 + 0) = m 0 := cM_s (by omega)
  rw [eG] at hX
  have hX0 := hX.1
  have hl5 := la_b hC
  refine lv_iload_n hx hb dX8_gathering_0 rfl (lv_at hl 1 rfl) ?_
  refine fp_i2l hx hb (by omega) dX8_gathering_1 ?_
  refine fp_lconst hx hb 0 dX8_gathering_2 rfl ?_
  refine lv_aload_n hx hb dX8_gathering_3 rfl (lv_at hl 0 rfl) ?_
  refine fp_pV (As := []) (rest := [.long (lI (0)), .long (lI (j))]) (wsC := [(v, .inr (8, [.ref a0, .ref a1, .ref a2, .ref a3, .int (iI (e4)), .ref a5, .int (iI (e6)), .ref a7, .int (iI (e8)), .int (iI (e9)), .int (iI (e10)), .ref a11, .int (iI (e12)), .int (iI (e13)), .int (iI (e14)), .ref a15])), (a0, fA cyI 54 m)]) ⟨hx, hb, hml, hown, hts⟩ (c_X8_gatherings l D cyI v a0 a1 a2 a3 e4 a5 e6 a7 e8 e9 e10 a11 e12 e13 e14 a15 m hC) (cwV 0 hts gX8_gathering_X8_gatherings rfl rfl rfl (by decide +kernel) ⟨Nat.le_of_ble_eq_true rfl, Nat.le_of_ble_eq_true rfl⟩) hK hP hD [0, 1] (by decide) rfl rfl rfl rfl hl.1 rfl (Nat.le_of_ble_eq_true rfl) dX8_gathering_4 ⟨Nat.zero_le _, Nat.zero_le _⟩ ?_
  refine fp_i2l hx hb (by omega) dX8_gathering_7 ?_
  refine fp_lconst hx hb 1 dX8_gathering_8 rfl ?_
  refine fp_lsub hx hb dX8_gathering_9 ?_
  refine fp_pS (As := [.long (lI (j)), .long (lI (0)), .long (lI ((gaC (cM m)) - 1))]) (rest := []) (wsC := [(v, .inr (8, [.ref a0, .ref a1, .ref a2, .ref a3, .int (iI (e4)), .ref a5, .int (iI (e6)), .ref a7, .int (iI (e8)), .int (iI (e9)), .int (iI (e10)), .ref a11, .int (iI (e12)), .int (iI (e13)), .int (iI (e14)), .ref a15])), (a0, fA cyI 54 m)]) ⟨hx, hb, hml, hown, hts⟩ (c_X8_in l D cyI j 0 ((gaC (cM m)) - 1) (by omega)) (va_cwS 3 hts gX8_gathering_X8_in rfl rfl rfl (by decide +kernel) ⟨Nat.le_of_ble_eq_true rfl, Nat.le_of_ble_eq_true rfl⟩) hK hP hD [] (by decide) rfl rfl hl.1 rfl (Nat.le_of_ble_eq_true rfl) dX8_gathering_10 ⟨Nat.zero_le _, Nat.zero_le _⟩ ?_
  refine fp_if_ne (tgt := 18) hx hb (bI_r32 _) dX8_gathering_13 (by decide) (fun q13 => ?_) (fun q13 => ?_)
  · skip
    have w13 := bI_ne q13
    have hjg : 0 ≤ j ∧ j < gaC (cM m) := by omega
    refine lv_iload_n hx hb dX8_gathering_18 rfl (lv_at hl 2 rfl) ?_
    rcases Decidable.em (w < 0 ∨ 5 < w) with hsw | hsw
    · skip
      refine lv_tableOut (tgt := 101) hx hb dX8_gathering_19 (by rw [iI_toInt hw9]; exact hsw) (by decide) ?_
      refine fp_bipush hx hb dX8_gathering_101 (by decide) ?_
      have hret : (gaR (cM m) j w : Int) = (-2) := (by unfold gaR; repeat (first | rw [if_pos (by omega)] | rw [if_neg (by omega)]))
      exact fp_ret hx hb hr hlocks dX8_gathering_103 (congrArg (fun z : Int => Value.int (iI z)) hret)
    · skip
      have hsv : w = 0 ∨ w = 1 ∨ w = 2 ∨ w = 3 ∨ w = 4 ∨ w = 5 := by omega
      rcases hsv with hsv | hsv | hsv | hsv | hsv | hsv
      · skip
        refine lv_tableIn (off := 37) (tgt := 56) hx hb dX8_gathering_19 (by rw [hsv]; decide) (by rw [hsv]; decide) (by rw [hsv]; decide) (by decide) ?_
        refine lv_aload_n hx hb dX8_gathering_56 rfl (lv_at hl 0 rfl) ?_
        refine lv_iload_n hx hb dX8_gathering_57 rfl (lv_at hl 1 rfl) ?_
        refine fp_pV (As := [.int (iI (j))]) (rest := []) (wsC := [(v, .inr (8, [.ref a0, .ref a1, .ref a2, .ref a3, .int (iI (e4)), .ref a5, .int (iI (e6)), .ref a7, .int (iI (e8)), .int (iI (e9)), .int (iI (e10)), .ref a11, .int (iI (e12)), .int (iI (e13)), .int (iI (e14)), .ref a15])), (a0, fA cyI 54 m)]) ⟨hx, hb, hml, hown, hts⟩ (c_X8_lotsIn l D cyI v a0 a1 a2 a3 e4 a5 e6 a7 e8 e9 e10 a11 e12 e13 e14 a15 m j hC (by omega)) (cwV 1 hts gX8_gathering_X8_lotsIn rfl rfl rfl (by decide +kernel) ⟨Nat.le_of_ble_eq_true rfl, Nat.le_of_ble_eq_true rfl⟩) hK hP hD [0, 1] (by decide) rfl rfl rfl rfl hl.1 rfl (Nat.le_of_ble_eq_true rfl) dX8_gathering_58 ⟨Nat.zero_le _, Nat.zero_le _⟩ ?_
        have hret : (gaR (cM m) j w : Int) = lcI (ownC (cM m)) (j * cM m (49 + 0)) (cM m (49 + 0)).toNat := (by unfold gaR; repeat (first | rw [if_pos (by omega)] | rw [if_neg (by omega)]))
        exact fp_ret hx hb hr hlocks dX8_gathering_61 (congrArg (fun z : Int => Value.int (iI z)) hret)
      · skip
        refine lv_tableIn (off := 43) (tgt := 62) hx hb dX8_gathering_19 (by rw [hsv]; decide) (by rw [hsv]; decide) (by rw [hsv]; decide) (by decide) ?_
        refine lv_aload_n hx hb dX8_gathering_62 rfl (lv_at hl 0 rfl) ?_
        refine lv_iload_n hx hb dX8_gathering_63 rfl (lv_at hl 1 rfl) ?_
        have jn1 : ∀ (bw : Int), (bw = bI (w = 2)) → ∀ (ls : Array Slot), lv_has ls 3 [(0, .ref v), (1, .int (iI (j))), (2, .int (iI (w)))] → W pg l en ({ frames := 6, cells := 0, slots := 0, locals := 133 } : Room) sx mi ar bl mt cd sx.heap [] 0 0 (MQ bl (fp_Qp (some (.int (iI (gaR (cM m) j w))))) ar sx 0 0 (fun _ => False)) (F0 mi 74 ls [.int (iI (bw)), .int (iI (j)), .ref v]) := by
          intro bw jw ls hl
          have hbw := bI_rg (w = 2)
          have hbw1 : w = 2 → bI (w = 2) = 1 := fun z => bI_t z
          have hbw0 : ¬ w = 2 → bI (w = 2) = 0 := fun z => bI_f z
          refine fp_pV (As := [.int (iI (j)), .int (iI (bw))]) (rest := []) (wsC := [(v, .inr (8, [.ref a0, .ref a1, .ref a2, .ref a3, .int (iI (e4)), .ref a5, .int (iI (e6)), .ref a7, .int (iI (e8)), .int (iI (e9)), .int (iI (e10)), .ref a11, .int (iI (e12)), .int (iI (e13)), .int (iI (e14)), .ref a15])), (a0, fA cyI 54 m)]) ⟨hx, hb, hml, hown, hts⟩ (c_X8_pagesIn l D cyI v a0 a1 a2 a3 e4 a5 e6 a7 e8 e9 e10 a11 e12 e13 e14 a15 m j bw hC (by omega) (by omega)) (cwV 2 hts gX8_gathering_X8_pagesIn rfl rfl rfl (by decide +kernel) ⟨Nat.le_of_ble_eq_true rfl, Nat.le_of_ble_eq_true rfl⟩) hK hP hD [0, 1] (by decide) rfl rfl rfl rfl hl.1 rfl (Nat.le_of_ble_eq_true rfl) dX8_gathering_74 ⟨Nat.zero_le _, Nat.zero_le _⟩ ?_
          have hret : (gaR (cM m) j w : Int) = sumI (cM m (49 + 0)).toNat (fun i9 => if bw = 0 then plkI (kindC (cM m) (j * cM m (49 + 0) + (i9 + 1))) else blkI (kindC (cM m) (j * cM m (49 + 0) + (i9 + 1)))) := (by unfold gaR; rw [if_neg (by omega), if_neg (by omega)]; first | (rw [if_pos (by omega)]; refine sumI_c _ (fun i9 a1 a2 => ?_); rw [if_pos (by omega)]) | (rw [if_neg (by omega), if_pos (by omega)]; refine sumI_c _ (fun i9 a1 a2 => ?_); rw [if_neg (by omega)]))
          exact fp_ret hx hb hr hlocks dX8_gathering_77 (congrArg (fun z : Int => Value.int (iI z)) hret)
        refine lv_iload_n hx hb dX8_gathering_64 rfl (lv_at hl 2 rfl) ?_
        refine fp_iconst hx hb dX8_gathering_65 ?_
        refine fp_icmp_ne (tgt := 73) hx hb (by omega) dX8_gathering_66 (by decide) (fun q66 => ?_) (fun q66 => ?_)
        · skip
          refine fp_iconst hx hb dX8_gathering_73 ?_
          exact jn1 0 (by first | rw [bI_t q66] | rw [bI_f q66]) ls (lv_sub hl [0, 1, 2] rfl)
        · skip
          refine fp_iconst hx hb dX8_gathering_69 ?_
          refine lv_goto (tgt := 74) hx hb dX8_gathering_70 (by decide) ?_
          exact jn1 1 (by first | rw [bI_t q66] | rw [bI_f q66]) ls (lv_sub hl [0, 1, 2] rfl)
      · skip
        refine lv_tableIn (off := 43) (tgt := 62) hx hb dX8_gathering_19 (by rw [hsv]; decide) (by rw [hsv]; decide) (by rw [hsv]; decide) (by decide) ?_
        refine lv_aload_n hx hb dX8_gathering_62 rfl (lv_at hl 0 rfl) ?_
        refine lv_iload_n hx hb dX8_gathering_63 rfl (lv_at hl 1 rfl) ?_
        have jn3 : ∀ (bw : Int), (bw = bI (w = 2)) → ∀ (ls : Array Slot), lv_has ls 3 [(0, .ref v), (1, .int (iI (j))), (2, .int (iI (w)))] → W pg l en ({ frames := 6, cells := 0, slots := 0, locals := 133 } : Room) sx mi ar bl mt cd sx.heap [] 0 0 (MQ bl (fp_Qp (some (.int (iI (gaR (cM m) j w))))) ar sx 0 0 (fun _ => False)) (F0 mi 74 ls [.int (iI (bw)), .int (iI (j)), .ref v]) := by
          intro bw jw ls hl
          have hbw := bI_rg (w = 2)
          have hbw1 : w = 2 → bI (w = 2) = 1 := fun z => bI_t z
          have hbw0 : ¬ w = 2 → bI (w = 2) = 0 := fun z => bI_f z
          refine fp_pV (As := [.int (iI (j)), .int (iI (bw))]) (rest := []) (wsC := [(v, .inr (8, [.ref a0, .ref a1, .ref a2, .ref a3, .int (iI (e4)), .ref a5, .int (iI (e6)), .ref a7, .int (iI (e8)), .int (iI (e9)), .int (iI (e10)), .ref a11, .int (iI (e12)), .int (iI (e13)), .int (iI (e14)), .ref a15])), (a0, fA cyI 54 m)]) ⟨hx, hb, hml, hown, hts⟩ (c_X8_pagesIn l D cyI v a0 a1 a2 a3 e4 a5 e6 a7 e8 e9 e10 a11 e12 e13 e14 a15 m j bw hC (by omega) (by omega)) (cwV 2 hts gX8_gathering_X8_pagesIn rfl rfl rfl (by decide +kernel) ⟨Nat.le_of_ble_eq_true rfl, Nat.le_of_ble_eq_true rfl⟩) hK hP hD [0, 1] (by decide) rfl rfl rfl rfl hl.1 rfl (Nat.le_of_ble_eq_true rfl) dX8_gathering_74 ⟨Nat.zero_le _, Nat.zero_le _⟩ ?_
          have hret : (gaR (cM m) j w : Int) = sumI (cM m (49 + 0)).toNat (fun i9 => if bw = 0 then plkI (kindC (cM m) (j * cM m (49 + 0) + (i9 + 1))) else blkI (kindC (cM m) (j * cM m (49 + 0) + (i9 + 1)))) := (by unfold gaR; rw [if_neg (by omega), if_neg (by omega)]; first | (rw [if_pos (by omega)]; refine sumI_c _ (fun i9 a1 a2 => ?_); rw [if_pos (by omega)]) | (rw [if_neg (by omega), if_pos (by omega)]; refine sumI_c _ (fun i9 a1 a2 => ?_); rw [if_neg (by omega)]))
          exact fp_ret hx hb hr hlocks dX8_gathering_77 (congrArg (fun z : Int => Value.int (iI z)) hret)
        refine lv_iload_n hx hb dX8_gathering_64 rfl (lv_at hl 2 rfl) ?_
        refine fp_iconst hx hb dX8_gathering_65 ?_
        refine fp_icmp_ne (tgt := 73) hx hb (by omega) dX8_gathering_66 (by decide) (fun q66 => ?_) (fun q66 => ?_)
        · skip
          refine fp_iconst hx hb dX8_gathering_73 ?_
          exact jn3 0 (by first | rw [bI_t q66] | rw [bI_f q66]) ls (lv_sub hl [0, 1, 2] rfl)
        · skip
          refine fp_iconst hx hb dX8_gathering_69 ?_
          refine lv_goto (tgt := 74) hx hb dX8_gathering_70 (by decide) ?_
          exact jn3 1 (by first | rw [bI_t q66] | rw [bI_f q66]) ls (lv_sub hl [0, 1, 2] rfl)
      · skip
        refine lv_tableIn (off := 59) (tgt := 78) hx hb dX8_gathering_19 (by rw [hsv]; decide) (by rw [hsv]; decide) (by rw [hsv]; decide) (by decide) ?_
        refine lv_aload_n hx hb dX8_gathering_78 rfl (lv_at hl 0 rfl) ?_
        refine lv_iload_n hx hb dX8_gathering_79 rfl (lv_at hl 1 rfl) ?_
        refine fp_pV (As := [.int (iI (j))]) (rest := []) (wsC := [(v, .inr (8, [.ref a0, .ref a1, .ref a2, .ref a3, .int (iI (e4)), .ref a5, .int (iI (e6)), .ref a7, .int (iI (e8)), .int (iI (e9)), .int (iI (e10)), .ref a11, .int (iI (e12)), .int (iI (e13)), .int (iI (e14)), .ref a15])), (a0, fA cyI 54 m)]) ⟨hx, hb, hml, hown, hts⟩ (c_X8_colouredIn l D cyI v a0 a1 a2 a3 e4 a5 e6 a7 e8 e9 e10 a11 e12 e13 e14 a15 m j hC (by omega)) (cwV 1 hts gX8_gathering_X8_colouredIn rfl rfl rfl (by decide +kernel) ⟨Nat.le_of_ble_eq_true rfl, Nat.le_of_ble_eq_true rfl⟩) hK hP hD [0, 1] (by decide) rfl rfl rfl rfl hl.1 rfl (Nat.le_of_ble_eq_true rfl) dX8_gathering_80 ⟨Nat.zero_le _, Nat.zero_le _⟩ ?_
        have hret : (gaR (cM m) j w : Int) = inC (cM m) j 0 (cM m 0).toNat + inC (cM m) j 1 (cM m 0).toNat := (by unfold gaR; rw [if_neg (by omega), if_neg (by omega), if_neg (by omega), if_neg (by omega), if_pos (by omega), in_col hC hjg, in_col hC hjg])
        exact fp_ret hx hb hr hlocks dX8_gathering_83 (congrArg (fun z : Int => Value.int (iI z)) hret)
      · skip
        refine lv_tableIn (off := 65) (tgt := 84) hx hb dX8_gathering_19 (by rw [hsv]; decide) (by rw [hsv]; decide) (by rw [hsv]; decide) (by decide) ?_
        have h010 := inC_01 (cM m) j 0 (cM m 0).toNat
        have h011 := inC_01 (cM m) j 1 (cM m 0).toNat
        refine lv_aload_n hx hb dX8_gathering_84 rfl (lv_at hl 0 rfl) ?_
        refine lv_iload_n hx hb dX8_gathering_85 rfl (lv_at hl 1 rfl) ?_
        refine lv_iload_n hx hb dX8_gathering_86 rfl (lv_at hl 2 rfl) ?_
        refine fp_iconst hx hb dX8_gathering_87 ?_
        refine fp_isub hx hb dX8_gathering_88 ?_
        refine fp_pV (As := [.int (iI (j)), .int (iI (w - 4))]) (rest := []) (wsC := [(v, .inr (8, [.ref a0, .ref a1, .ref a2, .ref a3, .int (iI (e4)), .ref a5, .int (iI (e6)), .ref a7, .int (iI (e8)), .int (iI (e9)), .int (iI (e10)), .ref a11, .int (iI (e12)), .int (iI (e13)), .int (iI (e14)), .ref a15])), (a0, fA cyI 54 m)]) ⟨hx, hb, hml, hown, hts⟩ (c_X8_isColoured l D cyI v a0 a1 a2 a3 e4 a5 e6 a7 e8 e9 e10 a11 e12 e13 e14 a15 m j (w - 4) hC (by omega) (by omega)) (cwV 2 hts gX8_gathering_X8_isColoured rfl rfl rfl (by decide +kernel) ⟨Nat.le_of_ble_eq_true rfl, Nat.le_of_ble_eq_true rfl⟩) hK hP hD [0, 1] (by decide) rfl rfl rfl rfl hl.1 rfl (Nat.le_of_ble_eq_true rfl) dX8_gathering_89 ⟨Nat.zero_le _, Nat.zero_le _⟩ ?_
        have h01w := inC_01 (cM m) j (w - 4) (cM m 0).toNat
        have ew := in_col hC (g := j) (s := w - 4) hjg
        refine fp_if_eq (tgt := 99) hx hb (by omega) dX8_gathering_92 (by decide) (fun q92 => ?_) (fun q92 => ?_)
        · skip
          refine fp_iconst hx hb dX8_gathering_99 ?_
          have hret : (gaR (cM m) j w : Int) = 0 := (by rw [hsv] at ew h01w q92; first | (rw [show (4 - 4 : Int) = 0 from rfl] at ew h01w q92; unfold gaR; rw [if_neg (by omega), if_neg (by omega), if_neg (by omega), if_neg (by omega), if_neg (by omega), if_pos (by omega)]; omega) | (rw [show (5 - 4 : Int) = 1 from rfl] at ew h01w q92; unfold gaR; rw [if_neg (by omega), if_neg (by omega), if_neg (by omega), if_neg (by omega), if_neg (by omega), if_neg (by omega), if_pos (by omega)]; omega))
          exact fp_ret hx hb hr hlocks dX8_gathering_100 (congrArg (fun z : Int => Value.int (iI z)) hret)
        · skip
          refine fp_iconst hx hb dX8_gathering_95 ?_
          refine lv_goto (tgt := 100) hx hb dX8_gathering_96 (by decide) ?_
          have hret : (gaR (cM m) j w : Int) = 1 := (by rw [hsv] at ew h01w q92; first | (rw [show (4 - 4 : Int) = 0 from rfl] at ew h01w q92; unfold gaR; rw [if_neg (by omega), if_neg (by omega), if_neg (by omega), if_neg (by omega), if_neg (by omega), if_pos (by omega)]; omega) | (rw [show (5 - 4 : Int) = 1 from rfl] at ew h01w q92; unfold gaR; rw [if_neg (by omega), if_neg (by omega), if_neg (by omega), if_neg (by omega), if_neg (by omega), if_neg (by omega), if_pos (by omega)]; omega))
          exact fp_ret hx hb hr hlocks dX8_gathering_100 (congrArg (fun z : Int => Value.int (iI z)) hret)
      · skip
        refine lv_tableIn (off := 65) (tgt := 84) hx hb dX8_gathering_19 (by rw [hsv]; decide) (by rw [hsv]; decide) (by rw [hsv]; decide) (by decide) ?_
        have h010 := inC_01 (cM m) j 0 (cM m 0).toNat
        have h011 := inC_01 (cM m) j 1 (cM m 0).toNat
        refine lv_aload_n hx hb dX8_gathering_84 rfl (lv_at hl 0 rfl) ?_
        refine lv_iload_n hx hb dX8_gathering_85 rfl (lv_at hl 1 rfl) ?_
        refine lv_iload_n hx hb dX8_gathering_86 rfl (lv_at hl 2 rfl) ?_
        refine fp_iconst hx hb dX8_gathering_87 ?_
        refine fp_isub hx hb dX8_gathering_88 ?_
        refine fp_pV (As := [.int (iI (j)), .int (iI (w - 4))]) (rest := []) (wsC := [(v, .inr (8, [.ref a0, .ref a1, .ref a2, .ref a3, .int (iI (e4)), .ref a5, .int (iI (e6)), .ref a7, .int (iI (e8)), .int (iI (e9)), .int (iI (e10)), .ref a11, .int (iI (e12)), .int (iI (e13)), .int (iI (e14)), .ref a15])), (a0, fA cyI 54 m)]) ⟨hx, hb, hml, hown, hts⟩ (c_X8_isColoured l D cyI v a0 a1 a2 a3 e4 a5 e6 a7 e8 e9 e10 a11 e12 e13 e14 a15 m j (w - 4) hC (by omega) (by omega)) (cwV 2 hts gX8_gathering_X8_isColoured rfl rfl rfl (by decide +kernel) ⟨Nat.le_of_ble_eq_true rfl, Nat.le_of_ble_eq_true rfl⟩) hK hP hD [0, 1] (by decide) rfl rfl rfl rfl hl.1 rfl (Nat.le_of_ble_eq_true rfl) dX8_gathering_89 ⟨Nat.zero_le _, Nat.zero_le _⟩ ?_
        have h01w := inC_01 (cM m) j (w - 4) (cM m 0).toNat
        have ew := in_col hC (g := j) (s := w - 4) hjg
        refine fp_if_eq (tgt := 99) hx hb (by omega) dX8_gathering_92 (by decide) (fun q92 => ?_) (fun q92 => ?_)
        · skip
          refine fp_iconst hx hb dX8_gathering_99 ?_
          have hret : (gaR (cM m) j w : Int) = 0 := (by rw [hsv] at ew h01w q92; first | (rw [show (4 - 4 : Int) = 0 from rfl] at ew h01w q92; unfold gaR; rw [if_neg (by omega), if_neg (by omega), if_neg (by omega), if_neg (by omega), if_neg (by omega), if_pos (by omega)]; omega) | (rw [show (5 - 4 : Int) = 1 from rfl] at ew h01w q92; unfold gaR; rw [if_neg (by omega), if_neg (by omega), if_neg (by omega), if_neg (by omega), if_neg (by omega), if_neg (by omega), if_pos (by omega)]; omega))
          exact fp_ret hx hb hr hlocks dX8_gathering_100 (congrArg (fun z : Int => Value.int (iI z)) hret)
        · skip
          refine fp_iconst hx hb dX8_gathering_95 ?_
          refine lv_goto (tgt := 100) hx hb dX8_gathering_96 (by decide) ?_
          have hret : (gaR (cM m) j w : Int) = 1 := (by rw [hsv] at ew h01w q92; first | (rw [show (4 - 4 : Int) = 0 from rfl] at ew h01w q92; unfold gaR; rw [if_neg (by omega), if_neg (by omega), if_neg (by omega), if_neg (by omega), if_neg (by omega), if_pos (by omega)]; omega) | (rw [show (5 - 4 : Int) = 1 from rfl] at ew h01w q92; unfold gaR; rw [if_neg (by omega), if_neg (by omega), if_neg (by omega), if_neg (by omega), if_neg (by omega), if_neg (by omega), if_pos (by omega)]; omega))
          exact fp_ret hx hb hr hlocks dX8_gathering_100 (congrArg (fun z : Int => Value.int (iI z)) hret)
  · skip
    have w13 := bI_e q13
    refine fp_iconst hx hb dX8_gathering_16 ?_
    have hret : (gaR (cM m) j w : Int) = (-1) := (by unfold gaR; repeat (first | rw [if_pos (by omega)] | rw [if_neg (by omega)]))
    exact fp_ret hx hb hr hlocks dX8_gathering_17 (congrArg (fun z : Int => Value.int (iI z)) hret)
theorem pl_m {c : Int → Int} (hC : CatOK c) : sumI (c 0).toNat (fun k9 => bI (1 ≤ c (k9 * 4 + 2))) = plC c 1 + plC c 2 ∧ sumI (c 0).toNat (fun k9 => bI (2 ≤ c (k9 * 4 + 2))) = plC c 2 := by
  have hN := hC.1
  have key : ∀ n : Nat, (n : Int) ≤ c 0 → sumI n (fun k9 => bI (1 ≤ c (k9 * 4 + 2))) = sumI n (fun k => bI (c (k * 4 + 2) = 1)) + sumI n (fun k => bI (c (k * 4 + 2) = 2)) ∧ sumI n (fun k9 => bI (2 ≤ c (k9 * 4 + 2))) = sumI n (fun k => bI (c (k * 4 + 2) = 2)) := by
    intro n
    induction n with
    | zero => intro _; exact ⟨rfl, rfl⟩
    | succ n ih =>
      intro h
      have h1 := ih (by omega)
      have hL := lot_f hC (k := n) (by omega)
      unfold LotOK at hL
      have e : ∀ f : Int → Int, sumI (n + 1) f = sumI n f + f n := fun _ => rfl
      rw [e, e, e, e, h1.1, h1.2]
      have h3 : c ((n : Int) * 4 + 2) = 0 ∨ c ((n : Int) * 4 + 2) = 1 ∨ c ((n : Int) * 4 + 2) = 2 := by omega
      rcases h3 with h3 | h3 | h3
      · rw [bI_f (by omega), bI_f (by omega), bI_f (by omega), bI_f (by omega)]; omega
      · rw [bI_t (by omega), bI_t (by omega), bI_f (by omega), bI_f (by omega)]; omega
      · rw [bI_t (by omega), bI_f (by omega), bI_t (by omega), bI_t (by omega)]; omega
  exact key (c 0).toNat (by omega)
theorem fl_X8_count_7 : Cond.fieldLink RX8 7 "FacingPlatesModel" "all" "[I" ∈ wsX8_count := by decide +kernel
theorem fl_X8_count_38 : Cond.fieldLink RX8 38 "FacingPlatesModel" "historyLong" "I" ∈ wsX8_count := by decide +kernel
theorem fl_X8_count_187 : Cond.fieldLink RX8 187 "FacingPlatesModel" "textLong" "I" ∈ wsX8_count := by decide +kernel
set_option maxHeartbeats 4000000 in
set_option maxRecDepth 100000 in
theorem c_X8_count (l : Launch) (D : va_G) (cyI : ClassId) (v : Nat) (a0 : Nat) (a1 : Nat) (a2 : Nat) (a3 : Nat) (e4 : Int) (a5 : Nat) (e6 : Int) (a7 : Nat) (e8 : Int) (e9 : Int) (e10 : Int) (a11 : Nat) (e12 : Int) (e13 : Int) (e14 : Int) (a15 : Nat) (m : Int → Int) (w : Int) (hC : CatOK (cM m)) (hw9 : -2147483648 ≤ w ∧ w ≤ 2147483647) : fp_M l yX8_count wsX8_count ({ frames := 8, cells := 0, slots := 0, locals := 174 } : Room) D cyI [(v, .inr (8, [.ref a0, .ref a1, .ref a2, .ref a3, .int (iI (e4)), .ref a5, .int (iI (e6)), .ref a7, .int (iI (e8)), .int (iI (e9)), .int (iI (e10)), .ref a11, .int (iI (e12)), .int (iI (e13)), .int (iI (e14)), .ref a15])), (a0, fA cyI 54 m)] [.ref v, .int (iI (w))] (some (.int (iI (cnR (cM m) e4 e12 w)))) := by
  refine fp_start (cc := cX8_count) (maxL := 2) (ret := (some .int)) (by decide) rfl (Nat.le_of_ble_eq_true rfl) ?_
  intro pg en sx mi ar bl mt cd ls hx hb hr hts hown hlocks hml hnm hP hK hD hl
  have hown : sx.vm.findClass RX8 = some mi.cls := hown
  have hl : lv_has ls 2 [(0, .ref v), (1, .int (iI (w)))] := hl
  have hN := hC.1
  rw [cM_0] at hN
  have hX := hC.2.2
  unfold SetOK at hX
  have eG : cM m (49 + 0) = m 0 := cM_s (by omega)
  rw [eG] at hX
  have hX0 := hX.1
  have hl5 := la_b hC
  have eL : gaC (cM m) * m 0 = laC (cM m) := by rw [hl5.2.2.1, eG]
  have e0 : cM m 0 = m 5 := cM_0 m
  have hpm := pl_m hC
  refine lv_iload_n hx hb dX8_count_0 rfl (lv_at hl 1 rfl) ?_
  rcases Decidable.em (w < 0 ∨ 16 < w) with hsw | hsw
  · skip
    refine lv_tableOut (tgt := 159) hx hb dX8_count_1 (by rw [iI_toInt hw9]; exact hsw) (by decide) ?_
    refine fp_bipush hx hb dX8_count_159 (by decide) ?_
    have hret : (cnR (cM m) e4 e12 w : Int) = (-2) := (by first | (rw [hsv]; rfl) | (unfold cnR; repeat (first | rw [if_pos (by omega)] | rw [if_neg (by omega)])))
    exact fp_ret hx hb hr hlocks dX8_count_161 (congrArg (fun z : Int => Value.int (iI z)) hret)
  · skip
    have hsv : w = 0 ∨ w = 1 ∨ w = 2 ∨ w = 3 ∨ w = 4 ∨ w = 5 ∨ w = 6 ∨ w = 7 ∨ w = 8 ∨ w = 9 ∨ w = 10 ∨ w = 11 ∨ w = 12 ∨ w = 13 ∨ w = 14 ∨ w = 15 ∨ w = 16 := by omega
    rcases hsv with hsv | hsv | hsv | hsv | hsv | hsv | hsv | hsv | hsv | hsv | hsv | hsv | hsv | hsv | hsv | hsv | hsv
    · skip
      refine lv_tableIn (off := 83) (tgt := 84) hx hb dX8_count_1 (by rw [hsv]; decide) (by rw [hsv]; decide) (by rw [hsv]; decide) (by decide) ?_
      refine lv_aload_n hx hb dX8_count_84 rfl (lv_at hl 0 rfl) ?_
      refine va_get (D := D) (ci := 8) (ws := [(v, .inr (8, [.ref a0, .ref a1, .ref a2, .ref a3, .int (iI (e4)), .ref a5, .int (iI (e6)), .ref a7, .int (iI (e8)), .int (iI (e9)), .int (iI (e10)), .ref a11, .int (iI (e12)), .int (iI (e13)), .int (iI (e14)), .ref a15])), (a0, fA cyI 54 m)]) (v := .ref a0) (C := RX8) (T := TX8) (N := 16) hx hb hts (fun _ h => List.mem_cons_of_mem _ (List.mem_append_right _ h)) hown hK.1 hP 0 rfl rfl 0 (by decide) (hts _ fl_X8_count_7) (fun _ h9 => h9) rfl dX8_count_85 ?_
      refine fp_iconst hx hb dX8_count_88 ?_
      refine fp_iald (wsC := [(v, .inr (8, [.ref a0, .ref a1, .ref a2, .ref a3, .int (iI (e4)), .ref a5, .int (iI (e6)), .ref a7, .int (iI (e8)), .int (iI (e9)), .int (iI (e10)), .ref a11, .int (iI (e12)), .int (iI (e13)), .int (iI (e14)), .ref a15])), (a0, fA cyI 54 m)]) hx hb hK hP 1 rfl (by omega) (by decide) dX8_count_89 ?_
      have hret : (cnR (cM m) e4 e12 w : Int) = m 5 := (by rw [hsv]; exact e0)
      exact fp_ret hx hb hr hlocks dX8_count_90 (congrArg (fun z : Int => Value.int (iI z)) hret)
    · skip
      refine lv_tableIn (off := 90) (tgt := 91) hx hb dX8_count_1 (by rw [hsv]; decide) (by rw [hsv]; decide) (by rw [hsv]; decide) (by decide) ?_
      refine lv_aload_n hx hb dX8_count_91 rfl (lv_at hl 0 rfl) ?_
      refine lv_iload_n hx hb dX8_count_92 rfl (lv_at hl 1 rfl) ?_
      refine fp_pV (As := [.int (iI (w))]) (rest := []) (wsC := [(v, .inr (8, [.ref a0, .ref a1, .ref a2, .ref a3, .int (iI (e4)), .ref a5, .int (iI (e6)), .ref a7, .int (iI (e8)), .int (iI (e9)), .int (iI (e10)), .ref a11, .int (iI (e12)), .int (iI (e13)), .int (iI (e14)), .ref a15])), (a0, fA cyI 54 m)]) ⟨hx, hb, hml, hown, hts⟩ (c_X8_plates l D cyI v a0 a1 a2 a3 e4 a5 e6 a7 e8 e9 e10 a11 e12 e13 e14 a15 m w hC (by omega)) (cwV 1 hts gX8_count_X8_plates rfl rfl rfl (by decide +kernel) ⟨Nat.le_of_ble_eq_true rfl, Nat.le_of_ble_eq_true rfl⟩) hK hP hD [0, 1] (by decide) rfl rfl rfl rfl hl.1 rfl (Nat.le_of_ble_eq_true rfl) dX8_count_93 ⟨Nat.zero_le _, Nat.zero_le _⟩ ?_
      have hret : (cnR (cM m) e4 e12 w : Int) = sumI (cM m 0).toNat (fun k9 => bI (w ≤ cM m (k9 * 4 + 2))) := (by first | (rw [hsv, hpm.1]; rfl) | (rw [hsv, hpm.2]; rfl))
      exact fp_ret hx hb hr hlocks dX8_count_96 (congrArg (fun z : Int => Value.int (iI z)) hret)
    · skip
      refine lv_tableIn (off := 90) (tgt := 91) hx hb dX8_count_1 (by rw [hsv]; decide) (by rw [hsv]; decide) (by rw [hsv]; decide) (by decide) ?_
      refine lv_aload_n hx hb dX8_count_91 rfl (lv_at hl 0 rfl) ?_
      refine lv_iload_n hx hb dX8_count_92 rfl (lv_at hl 1 rfl) ?_
      refine fp_pV (As := [.int (iI (w))]) (rest := []) (wsC := [(v, .inr (8, [.ref a0, .ref a1, .ref a2, .ref a3, .int (iI (e4)), .ref a5, .int (iI (e6)), .ref a7, .int (iI (e8)), .int (iI (e9)), .int (iI (e10)), .ref a11, .int (iI (e12)), .int (iI (e13)), .int (iI (e14)), .ref a15])), (a0, fA cyI 54 m)]) ⟨hx, hb, hml, hown, hts⟩ (c_X8_plates l D cyI v a0 a1 a2 a3 e4 a5 e6 a7 e8 e9 e10 a11 e12 e13 e14 a15 m w hC (by omega)) (cwV 1 hts gX8_count_X8_plates rfl rfl rfl (by decide +kernel) ⟨Nat.le_of_ble_eq_true rfl, Nat.le_of_ble_eq_true rfl⟩) hK hP hD [0, 1] (by decide) rfl rfl rfl rfl hl.1 rfl (Nat.le_of_ble_eq_true rfl) dX8_count_93 ⟨Nat.zero_le _, Nat.zero_le _⟩ ?_
      have hret : (cnR (cM m) e4 e12 w : Int) = sumI (cM m 0).toNat (fun k9 => bI (w ≤ cM m (k9 * 4 + 2))) := (by first | (rw [hsv, hpm.1]; rfl) | (rw [hsv, hpm.2]; rfl))
      exact fp_ret hx hb hr hlocks dX8_count_96 (congrArg (fun z : Int => Value.int (iI z)) hret)
    · skip
      refine lv_tableIn (off := 96) (tgt := 97) hx hb dX8_count_1 (by rw [hsv]; decide) (by rw [hsv]; decide) (by rw [hsv]; decide) (by decide) ?_
      refine lv_aload_n hx hb dX8_count_97 rfl (lv_at hl 0 rfl) ?_
      refine fp_pV (As := []) (rest := []) (wsC := [(v, .inr (8, [.ref a0, .ref a1, .ref a2, .ref a3, .int (iI (e4)), .ref a5, .int (iI (e6)), .ref a7, .int (iI (e8)), .int (iI (e9)), .int (iI (e10)), .ref a11, .int (iI (e12)), .int (iI (e13)), .int (iI (e14)), .ref a15])), (a0, fA cyI 54 m)]) ⟨hx, hb, hml, hown, hts⟩ (c_X8_platesThatFace l D cyI v a0 a1 a2 a3 e4 a5 e6 a7 e8 e9 e10 a11 e12 e13 e14 a15 m hC) (cwV 0 hts gX8_count_X8_platesThatFace rfl rfl rfl (by decide +kernel) ⟨Nat.le_of_ble_eq_true rfl, Nat.le_of_ble_eq_true rfl⟩) hK hP hD [0, 1] (by decide) rfl rfl rfl rfl hl.1 rfl (Nat.le_of_ble_eq_true rfl) dX8_count_98 ⟨Nat.zero_le _, Nat.zero_le _⟩ ?_
      have hret : (cnR (cM m) e4 e12 w : Int) = fcC (cM m) := (by first | (rw [hsv]; rfl) | (unfold cnR; repeat (first | rw [if_pos (by omega)] | rw [if_neg (by omega)])))
      exact fp_ret hx hb hr hlocks dX8_count_101 (congrArg (fun z : Int => Value.int (iI z)) hret)
    · skip
      refine lv_tableIn (off := 101) (tgt := 102) hx hb dX8_count_1 (by rw [hsv]; decide) (by rw [hsv]; decide) (by rw [hsv]; decide) (by decide) ?_
      refine lv_aload_n hx hb dX8_count_102 rfl (lv_at hl 0 rfl) ?_
      refine fp_pV (As := []) (rest := []) (wsC := [(v, .inr (8, [.ref a0, .ref a1, .ref a2, .ref a3, .int (iI (e4)), .ref a5, .int (iI (e6)), .ref a7, .int (iI (e8)), .int (iI (e9)), .int (iI (e10)), .ref a11, .int (iI (e12)), .int (iI (e13)), .int (iI (e14)), .ref a15])), (a0, fA cyI 54 m)]) ⟨hx, hb, hml, hown, hts⟩ (c_X8_pagesOfLots l D cyI v a0 a1 a2 a3 e4 a5 e6 a7 e8 e9 e10 a11 e12 e13 e14 a15 m hC) (cwV 0 hts gX8_count_X8_pagesOfLots rfl rfl rfl (by decide +kernel) ⟨Nat.le_of_ble_eq_true rfl, Nat.le_of_ble_eq_true rfl⟩) hK hP hD [0, 1] (by decide) rfl rfl rfl rfl hl.1 rfl (Nat.le_of_ble_eq_true rfl) dX8_count_103 ⟨Nat.zero_le _, Nat.zero_le _⟩ ?_
      have hret : (cnR (cM m) e4 e12 w : Int) = pgC (cM m) (cM m 0) := (by first | (rw [hsv]; rfl) | (unfold cnR; repeat (first | rw [if_pos (by omega)] | rw [if_neg (by omega)])))
      exact fp_ret hx hb hr hlocks dX8_count_106 (congrArg (fun z : Int => Value.int (iI z)) hret)
    · skip
      refine lv_tableIn (off := 106) (tgt := 107) hx hb dX8_count_1 (by rw [hsv]; decide) (by rw [hsv]; decide) (by rw [hsv]; decide) (by decide) ?_
      refine lv_aload_n hx hb dX8_count_107 rfl (lv_at hl 0 rfl) ?_
      refine fp_pV (As := []) (rest := []) (wsC := [(v, .inr (8, [.ref a0, .ref a1, .ref a2, .ref a3, .int (iI (e4)), .ref a5, .int (iI (e6)), .ref a7, .int (iI (e8)), .int (iI (e9)), .int (iI (e10)), .ref a11, .int (iI (e12)), .int (iI (e13)), .int (iI (e14)), .ref a15])), (a0, fA cyI 54 m)]) ⟨hx, hb, hml, hown, hts⟩ (c_X8_gatherings l D cyI v a0 a1 a2 a3 e4 a5 e6 a7 e8 e9 e10 a11 e12 e13 e14 a15 m hC) (cwV 0 hts gX8_count_X8_gatherings rfl rfl rfl (by decide +kernel) ⟨Nat.le_of_ble_eq_true rfl, Nat.le_of_ble_eq_true rfl⟩) hK hP hD [0, 1] (by decide) rfl rfl rfl rfl hl.1 rfl (Nat.le_of_ble_eq_true rfl) dX8_count_108 ⟨Nat.zero_le _, Nat.zero_le _⟩ ?_
      have hret : (cnR (cM m) e4 e12 w : Int) = gaC (cM m) := (by first | (rw [hsv]; rfl) | (unfold cnR; repeat (first | rw [if_pos (by omega)] | rw [if_neg (by omega)])))
      exact fp_ret hx hb hr hlocks dX8_count_111 (congrArg (fun z : Int => Value.int (iI z)) hret)
    · skip
      refine lv_tableIn (off := 111) (tgt := 112) hx hb dX8_count_1 (by rw [hsv]; decide) (by rw [hsv]; decide) (by rw [hsv]; decide) (by decide) ?_
      refine lv_aload_n hx hb dX8_count_112 rfl (lv_at hl 0 rfl) ?_
      refine fp_pV (As := []) (rest := []) (wsC := [(v, .inr (8, [.ref a0, .ref a1, .ref a2, .ref a3, .int (iI (e4)), .ref a5, .int (iI (e6)), .ref a7, .int (iI (e8)), .int (iI (e9)), .int (iI (e10)), .ref a11, .int (iI (e12)), .int (iI (e13)), .int (iI (e14)), .ref a15])), (a0, fA cyI 54 m)]) ⟨hx, hb, hml, hown, hts⟩ (c_X8_gatherings l D cyI v a0 a1 a2 a3 e4 a5 e6 a7 e8 e9 e10 a11 e12 e13 e14 a15 m hC) (cwV 0 hts gX8_count_X8_gatherings rfl rfl rfl (by decide +kernel) ⟨Nat.le_of_ble_eq_true rfl, Nat.le_of_ble_eq_true rfl⟩) hK hP hD [0, 1] (by decide) rfl rfl rfl rfl hl.1 rfl (Nat.le_of_ble_eq_true rfl) dX8_count_113 ⟨Nat.zero_le _, Nat.zero_le _⟩ ?_
      refine lv_aload_n hx hb dX8_count_116 rfl (lv_at hl 0 rfl) ?_
      refine va_get (D := D) (ci := 8) (ws := [(v, .inr (8, [.ref a0, .ref a1, .ref a2, .ref a3, .int (iI (e4)), .ref a5, .int (iI (e6)), .ref a7, .int (iI (e8)), .int (iI (e9)), .int (iI (e10)), .ref a11, .int (iI (e12)), .int (iI (e13)), .int (iI (e14)), .ref a15])), (a0, fA cyI 54 m)]) (v := .ref a0) (C := RX8) (T := TX8) (N := 16) hx hb hts (fun _ h => List.mem_cons_of_mem _ (List.mem_append_right _ h)) hown hK.1 hP 0 rfl rfl 0 (by decide) (hts _ fl_X8_count_7) (fun _ h9 => h9) rfl dX8_count_117 ?_
      refine fp_iconst hx hb dX8_count_120 ?_
      refine fp_iald (wsC := [(v, .inr (8, [.ref a0, .ref a1, .ref a2, .ref a3, .int (iI (e4)), .ref a5, .int (iI (e6)), .ref a7, .int (iI (e8)), .int (iI (e9)), .int (iI (e10)), .ref a11, .int (iI (e12)), .int (iI (e13)), .int (iI (e14)), .ref a15])), (a0, fA cyI 54 m)]) hx hb hK hP 1 rfl (by omega) (by decide) dX8_count_121 ?_
      refine fp_imul hx hb dX8_count_122 ?_
      have hret : (cnR (cM m) e4 e12 w : Int) = (gaC (cM m)) * (m 0) := (by rw [hsv, eL]; rfl)
      exact fp_ret hx hb hr hlocks dX8_count_123 (congrArg (fun z : Int => Value.int (iI z)) hret)
    · skip
      refine lv_tableIn (off := 123) (tgt := 124) hx hb dX8_count_1 (by rw [hsv]; decide) (by rw [hsv]; decide) (by rw [hsv]; decide) (by decide) ?_
      refine lv_aload_n hx hb dX8_count_124 rfl (lv_at hl 0 rfl) ?_
      refine fp_pV (As := []) (rest := []) (wsC := [(v, .inr (8, [.ref a0, .ref a1, .ref a2, .ref a3, .int (iI (e4)), .ref a5, .int (iI (e6)), .ref a7, .int (iI (e8)), .int (iI (e9)), .int (iI (e10)), .ref a11, .int (iI (e12)), .int (iI (e13)), .int (iI (e14)), .ref a15])), (a0, fA cyI 54 m)]) ⟨hx, hb, hml, hown, hts⟩ (c_X8_colouredSides l D cyI v a0 a1 a2 a3 e4 a5 e6 a7 e8 e9 e10 a11 e12 e13 e14 a15 m hC) (cwV 0 hts gX8_count_X8_colouredSides rfl rfl rfl (by decide +kernel) ⟨Nat.le_of_ble_eq_true rfl, Nat.le_of_ble_eq_true rfl⟩) hK hP hD [0, 1] (by decide) rfl rfl rfl rfl hl.1 rfl (Nat.le_of_ble_eq_true rfl) dX8_count_125 ⟨Nat.zero_le _, Nat.zero_le _⟩ ?_
      have hret : (cnR (cM m) e4 e12 w : Int) = coC (cM m) := (by first | (rw [hsv]; rfl) | (unfold cnR; repeat (first | rw [if_pos (by omega)] | rw [if_neg (by omega)])))
      exact fp_ret hx hb hr hlocks dX8_count_128 (congrArg (fun z : Int => Value.int (iI z)) hret)
    · skip
      refine lv_tableIn (off := 128) (tgt := 129) hx hb dX8_count_1 (by rw [hsv]; decide) (by rw [hsv]; decide) (by rw [hsv]; decide) (by decide) ?_
      refine lv_aload_n hx hb dX8_count_129 rfl (lv_at hl 0 rfl) ?_
      refine fp_pV (As := []) (rest := []) (wsC := [(v, .inr (8, [.ref a0, .ref a1, .ref a2, .ref a3, .int (iI (e4)), .ref a5, .int (iI (e6)), .ref a7, .int (iI (e8)), .int (iI (e9)), .int (iI (e10)), .ref a11, .int (iI (e12)), .int (iI (e13)), .int (iI (e14)), .ref a15])), (a0, fA cyI 54 m)]) ⟨hx, hb, hml, hown, hts⟩ (c_X8_blanksPut l D cyI v a0 a1 a2 a3 e4 a5 e6 a7 e8 e9 e10 a11 e12 e13 e14 a15 m hC) (cwV 0 hts gX8_count_X8_blanksPut rfl rfl rfl (by decide +kernel) ⟨Nat.le_of_ble_eq_true rfl, Nat.le_of_ble_eq_true rfl⟩) hK hP hD [0, 1] (by decide) rfl rfl rfl rfl hl.1 rfl (Nat.le_of_ble_eq_true rfl) dX8_count_130 ⟨Nat.zero_le _, Nat.zero_le _⟩ ?_
      have hret : (cnR (cM m) e4 e12 w : Int) = blC (cM m) := (by first | (rw [hsv]; rfl) | (unfold cnR; repeat (first | rw [if_pos (by omega)] | rw [if_neg (by omega)])))
      exact fp_ret hx hb hr hlocks dX8_count_133 (congrArg (fun z : Int => Value.int (iI z)) hret)
    · skip
      refine lv_tableIn (off := 133) (tgt := 134) hx hb dX8_count_1 (by rw [hsv]; decide) (by rw [hsv]; decide) (by rw [hsv]; decide) (by decide) ?_
      refine lv_aload_n hx hb dX8_count_134 rfl (lv_at hl 0 rfl) ?_
      refine fp_pV (As := []) (rest := []) (wsC := [(v, .inr (8, [.ref a0, .ref a1, .ref a2, .ref a3, .int (iI (e4)), .ref a5, .int (iI (e6)), .ref a7, .int (iI (e8)), .int (iI (e9)), .int (iI (e10)), .ref a11, .int (iI (e12)), .int (iI (e13)), .int (iI (e14)), .ref a15])), (a0, fA cyI 54 m)]) ⟨hx, hb, hml, hown, hts⟩ (c_X8_cost l D cyI v a0 a1 a2 a3 e4 a5 e6 a7 e8 e9 e10 a11 e12 e13 e14 a15 m hC) (cwV 0 hts gX8_count_X8_cost rfl rfl rfl (by decide +kernel) ⟨Nat.le_of_ble_eq_true rfl, Nat.le_of_ble_eq_true rfl⟩) hK hP hD [0, 1] (by decide) rfl rfl rfl rfl hl.1 rfl (Nat.le_of_ble_eq_true rfl) dX8_count_135 ⟨Nat.zero_le _, Nat.zero_le _⟩ ?_
      have hret : (cnR (cM m) e4 e12 w : Int) = csC (cM m) := (by first | (rw [hsv]; rfl) | (unfold cnR; repeat (first | rw [if_pos (by omega)] | rw [if_neg (by omega)])))
      exact fp_ret hx hb hr hlocks dX8_count_138 (congrArg (fun z : Int => Value.int (iI z)) hret)
    · skip
      refine lv_tableIn (off := 138) (tgt := 139) hx hb dX8_count_1 (by rw [hsv]; decide) (by rw [hsv]; decide) (by rw [hsv]; decide) (by decide) ?_
      refine lv_aload_n hx hb dX8_count_139 rfl (lv_at hl 0 rfl) ?_
      refine va_get (D := D) (ci := 8) (ws := [(v, .inr (8, [.ref a0, .ref a1, .ref a2, .ref a3, .int (iI (e4)), .ref a5, .int (iI (e6)), .ref a7, .int (iI (e8)), .int (iI (e9)), .int (iI (e10)), .ref a11, .int (iI (e12)), .int (iI (e13)), .int (iI (e14)), .ref a15])), (a0, fA cyI 54 m)]) (v := .ref a0) (C := RX8) (T := TX8) (N := 16) hx hb hts (fun _ h => List.mem_cons_of_mem _ (List.mem_append_right _ h)) hown hK.1 hP 0 rfl rfl 0 (by decide) (hts _ fl_X8_count_7) (fun _ h9 => h9) rfl dX8_count_140 ?_
      refine lv_iload_n hx hb dX8_count_143 rfl (lv_at hl 1 rfl) ?_
      refine fp_bipush hx hb dX8_count_144 (by decide) ?_
      refine fp_isub hx hb dX8_count_146 ?_
      refine fp_iald (wsC := [(v, .inr (8, [.ref a0, .ref a1, .ref a2, .ref a3, .int (iI (e4)), .ref a5, .int (iI (e6)), .ref a7, .int (iI (e8)), .int (iI (e9)), .int (iI (e10)), .ref a11, .int (iI (e12)), .int (iI (e13)), .int (iI (e14)), .ref a15])), (a0, fA cyI 54 m)]) hx hb hK hP 1 rfl (by omega) (by decide) dX8_count_147 ?_
      have es : cM m (49 + (w - 10)) = m (w - 10) := cM_s (by omega)
      have hret : (cnR (cM m) e4 e12 w : Int) = m (w - 10) := (by rw [← es, hsv]; rfl)
      exact fp_ret hx hb hr hlocks dX8_count_148 (congrArg (fun z : Int => Value.int (iI z)) hret)
    · skip
      refine lv_tableIn (off := 138) (tgt := 139) hx hb dX8_count_1 (by rw [hsv]; decide) (by rw [hsv]; decide) (by rw [hsv]; decide) (by decide) ?_
      refine lv_aload_n hx hb dX8_count_139 rfl (lv_at hl 0 rfl) ?_
      refine va_get (D := D) (ci := 8) (ws := [(v, .inr (8, [.ref a0, .ref a1, .ref a2, .ref a3, .int (iI (e4)), .ref a5, .int (iI (e6)), .ref a7, .int (iI (e8)), .int (iI (e9)), .int (iI (e10)), .ref a11, .int (iI (e12)), .int (iI (e13)), .int (iI (e14)), .ref a15])), (a0, fA cyI 54 m)]) (v := .ref a0) (C := RX8) (T := TX8) (N := 16) hx hb hts (fun _ h => List.mem_cons_of_mem _ (List.mem_append_right _ h)) hown hK.1 hP 0 rfl rfl 0 (by decide) (hts _ fl_X8_count_7) (fun _ h9 => h9) rfl dX8_count_140 ?_
      refine lv_iload_n hx hb dX8_count_143 rfl (lv_at hl 1 rfl) ?_
      refine fp_bipush hx hb dX8_count_144 (by decide) ?_
      refine fp_isub hx hb dX8_count_146 ?_
      refine fp_iald (wsC := [(v, .inr (8, [.ref a0, .ref a1, .ref a2, .ref a3, .int (iI (e4)), .ref a5, .int (iI (e6)), .ref a7, .int (iI (e8)), .int (iI (e9)), .int (iI (e10)), .ref a11, .int (iI (e12)), .int (iI (e13)), .int (iI (e14)), .ref a15])), (a0, fA cyI 54 m)]) hx hb hK hP 1 rfl (by omega) (by decide) dX8_count_147 ?_
      have es : cM m (49 + (w - 10)) = m (w - 10) := cM_s (by omega)
      have hret : (cnR (cM m) e4 e12 w : Int) = m (w - 10) := (by rw [← es, hsv]; rfl)
      exact fp_ret hx hb hr hlocks dX8_count_148 (congrArg (fun z : Int => Value.int (iI z)) hret)
    · skip
      refine lv_tableIn (off := 138) (tgt := 139) hx hb dX8_count_1 (by rw [hsv]; decide) (by rw [hsv]; decide) (by rw [hsv]; decide) (by decide) ?_
      refine lv_aload_n hx hb dX8_count_139 rfl (lv_at hl 0 rfl) ?_
      refine va_get (D := D) (ci := 8) (ws := [(v, .inr (8, [.ref a0, .ref a1, .ref a2, .ref a3, .int (iI (e4)), .ref a5, .int (iI (e6)), .ref a7, .int (iI (e8)), .int (iI (e9)), .int (iI (e10)), .ref a11, .int (iI (e12)), .int (iI (e13)), .int (iI (e14)), .ref a15])), (a0, fA cyI 54 m)]) (v := .ref a0) (C := RX8) (T := TX8) (N := 16) hx hb hts (fun _ h => List.mem_cons_of_mem _ (List.mem_append_right _ h)) hown hK.1 hP 0 rfl rfl 0 (by decide) (hts _ fl_X8_count_7) (fun _ h9 => h9) rfl dX8_count_140 ?_
      refine lv_iload_n hx hb dX8_count_143 rfl (lv_at hl 1 rfl) ?_
      refine fp_bipush hx hb dX8_count_144 (by decide) ?_
      refine fp_isub hx hb dX8_count_146 ?_
      refine fp_iald (wsC := [(v, .inr (8, [.ref a0, .ref a1, .ref a2, .ref a3, .int (iI (e4)), .ref a5, .int (iI (e6)), .ref a7, .int (iI (e8)), .int (iI (e9)), .int (iI (e10)), .ref a11, .int (iI (e12)), .int (iI (e13)), .int (iI (e14)), .ref a15])), (a0, fA cyI 54 m)]) hx hb hK hP 1 rfl (by omega) (by decide) dX8_count_147 ?_
      have es : cM m (49 + (w - 10)) = m (w - 10) := cM_s (by omega)
      have hret : (cnR (cM m) e4 e12 w : Int) = m (w - 10) := (by rw [← es, hsv]; rfl)
      exact fp_ret hx hb hr hlocks dX8_count_148 (congrArg (fun z : Int => Value.int (iI z)) hret)
    · skip
      refine lv_tableIn (off := 138) (tgt := 139) hx hb dX8_count_1 (by rw [hsv]; decide) (by rw [hsv]; decide) (by rw [hsv]; decide) (by decide) ?_
      refine lv_aload_n hx hb dX8_count_139 rfl (lv_at hl 0 rfl) ?_
      refine va_get (D := D) (ci := 8) (ws := [(v, .inr (8, [.ref a0, .ref a1, .ref a2, .ref a3, .int (iI (e4)), .ref a5, .int (iI (e6)), .ref a7, .int (iI (e8)), .int (iI (e9)), .int (iI (e10)), .ref a11, .int (iI (e12)), .int (iI (e13)), .int (iI (e14)), .ref a15])), (a0, fA cyI 54 m)]) (v := .ref a0) (C := RX8) (T := TX8) (N := 16) hx hb hts (fun _ h => List.mem_cons_of_mem _ (List.mem_append_right _ h)) hown hK.1 hP 0 rfl rfl 0 (by decide) (hts _ fl_X8_count_7) (fun _ h9 => h9) rfl dX8_count_140 ?_
      refine lv_iload_n hx hb dX8_count_143 rfl (lv_at hl 1 rfl) ?_
      refine fp_bipush hx hb dX8_count_144 (by decide) ?_
      refine fp_isub hx hb dX8_count_146 ?_
      refine fp_iald (wsC := [(v, .inr (8, [.ref a0, .ref a1, .ref a2, .ref a3, .int (iI (e4)), .ref a5, .int (iI (e6)), .ref a7, .int (iI (e8)), .int (iI (e9)), .int (iI (e10)), .ref a11, .int (iI (e12)), .int (iI (e13)), .int (iI (e14)), .ref a15])), (a0, fA cyI 54 m)]) hx hb hK hP 1 rfl (by omega) (by decide) dX8_count_147 ?_
      have es : cM m (49 + (w - 10)) = m (w - 10) := cM_s (by omega)
      have hret : (cnR (cM m) e4 e12 w : Int) = m (w - 10) := (by rw [← es, hsv]; rfl)
      exact fp_ret hx hb hr hlocks dX8_count_148 (congrArg (fun z : Int => Value.int (iI z)) hret)
    · skip
      refine lv_tableIn (off := 138) (tgt := 139) hx hb dX8_count_1 (by rw [hsv]; decide) (by rw [hsv]; decide) (by rw [hsv]; decide) (by decide) ?_
      refine lv_aload_n hx hb dX8_count_139 rfl (lv_at hl 0 rfl) ?_
      refine va_get (D := D) (ci := 8) (ws := [(v, .inr (8, [.ref a0, .ref a1, .ref a2, .ref a3, .int (iI (e4)), .ref a5, .int (iI (e6)), .ref a7, .int (iI (e8)), .int (iI (e9)), .int (iI (e10)), .ref a11, .int (iI (e12)), .int (iI (e13)), .int (iI (e14)), .ref a15])), (a0, fA cyI 54 m)]) (v := .ref a0) (C := RX8) (T := TX8) (N := 16) hx hb hts (fun _ h => List.mem_cons_of_mem _ (List.mem_append_right _ h)) hown hK.1 hP 0 rfl rfl 0 (by decide) (hts _ fl_X8_count_7) (fun _ h9 => h9) rfl dX8_count_140 ?_
      refine lv_iload_n hx hb dX8_count_143 rfl (lv_at hl 1 rfl) ?_
      refine fp_bipush hx hb dX8_count_144 (by decide) ?_
      refine fp_isub hx hb dX8_count_146 ?_
      refine fp_iald (wsC := [(v, .inr (8, [.ref a0, .ref a1, .ref a2, .ref a3, .int (iI (e4)), .ref a5, .int (iI (e6)), .ref a7, .int (iI (e8)), .int (iI (e9)), .int (iI (e10)), .ref a11, .int (iI (e12)), .int (iI (e13)), .int (iI (e14)), .ref a15])), (a0, fA cyI 54 m)]) hx hb hK hP 1 rfl (by omega) (by decide) dX8_count_147 ?_
      have es : cM m (49 + (w - 10)) = m (w - 10) := cM_s (by omega)
      have hret : (cnR (cM m) e4 e12 w : Int) = m (w - 10) := (by rw [← es, hsv]; rfl)
      exact fp_ret hx hb hr hlocks dX8_count_148 (congrArg (fun z : Int => Value.int (iI z)) hret)
    · skip
      refine lv_tableIn (off := 148) (tgt := 149) hx hb dX8_count_1 (by rw [hsv]; decide) (by rw [hsv]; decide) (by rw [hsv]; decide) (by decide) ?_
      refine lv_aload_n hx hb dX8_count_149 rfl (lv_at hl 0 rfl) ?_
      refine va_get (D := D) (ci := 8) (ws := [(v, .inr (8, [.ref a0, .ref a1, .ref a2, .ref a3, .int (iI (e4)), .ref a5, .int (iI (e6)), .ref a7, .int (iI (e8)), .int (iI (e9)), .int (iI (e10)), .ref a11, .int (iI (e12)), .int (iI (e13)), .int (iI (e14)), .ref a15])), (a0, fA cyI 54 m)]) (v := .int (iI (e4))) (C := RX8) (T := TX8) (N := 16) hx hb hts (fun _ h => List.mem_cons_of_mem _ (List.mem_append_right _ h)) hown hK.1 hP 0 rfl rfl 4 (by decide) (hts _ fl_X8_count_38) (fun _ h9 => h9) rfl dX8_count_150 ?_
      have hret : (cnR (cM m) e4 e12 w : Int) = e4 := (by first | (rw [hsv]; rfl) | (unfold cnR; repeat (first | rw [if_pos (by omega)] | rw [if_neg (by omega)])))
      exact fp_ret hx hb hr hlocks dX8_count_153 (congrArg (fun z : Int => Value.int (iI z)) hret)
    · skip
      refine lv_tableIn (off := 153) (tgt := 154) hx hb dX8_count_1 (by rw [hsv]; decide) (by rw [hsv]; decide) (by rw [hsv]; decide) (by decide) ?_
      refine lv_aload_n hx hb dX8_count_154 rfl (lv_at hl 0 rfl) ?_
      refine va_get (D := D) (ci := 8) (ws := [(v, .inr (8, [.ref a0, .ref a1, .ref a2, .ref a3, .int (iI (e4)), .ref a5, .int (iI (e6)), .ref a7, .int (iI (e8)), .int (iI (e9)), .int (iI (e10)), .ref a11, .int (iI (e12)), .int (iI (e13)), .int (iI (e14)), .ref a15])), (a0, fA cyI 54 m)]) (v := .int (iI (e12))) (C := RX8) (T := TX8) (N := 16) hx hb hts (fun _ h => List.mem_cons_of_mem _ (List.mem_append_right _ h)) hown hK.1 hP 0 rfl rfl 12 (by decide) (hts _ fl_X8_count_187) (fun _ h9 => h9) rfl dX8_count_155 ?_
      have hret : (cnR (cM m) e4 e12 w : Int) = e12 := (by first | (rw [hsv]; rfl) | (unfold cnR; repeat (first | rw [if_pos (by omega)] | rw [if_neg (by omega)])))
      exact fp_ret hx hb hr hlocks dX8_count_158 (congrArg (fun z : Int => Value.int (iI z)) hret)
