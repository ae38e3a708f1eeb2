set_option maxHeartbeats 8000000 in
set_option maxRecDepth 100000 in
theorem c_L_areSettings (l : Launch) (D : va_G) (cyI : ClassId) (A B : Nat → Nat) {c : Int → Int} {ny : Int} {tx : Int → Int} {tn : Int} {e : Int → Int} {my : Int} {ux : Int → Int} {un : Int} (hsz : c (49 + 0) = e (49 + 0)) (hd3 : e (49 + 1) % 3 = 0 ∧ e (49 + 2) % 3 = 0 ∧ e (49 + 3) % 3 = 0) (hd4 : e (49 + 4) = 0) : LC2 l yL_areSettings wsL_areSettings ({ frames := 6, cells := 0, slots := 0, locals := 132 } : Room) D cyI A B [] (c, ny, tx, tn) (e, my, ux, un) (fun q r : OS => TrS (q.1) (r.1) ∧ (r.1, r.2.1, r.2.2.1, r.2.2.2) = (e, my, ux, un)) := by
  intro I C J E g1 g2
  refine fp_start (cc := cL_areSettings) (maxL := 4) (ret := (some .boolean)) (by decide) rfl (Nat.le_of_ble_eq_true rfl) ?_
  intro pg en sx mi ar bl mt cd ls hx hb hr hts hown hlocks hml hnm hP hK hD hl
  have hown : sx.vm.findClass RL = some mi.cls := hown
  have hl : lv_has ls 4 [(0, .ref (A 0)), (1, .ref (B 0))] := hl
  have hT : ST D cyI A B (fp_A (OB cyI A I C ++ (OB cyI B J E ++ []))) sx.heap (c, ny, tx, tn) (e, my, ux, un) sx.heap [] := ST.in g1 g2 hP hD
  have hg := hT.go
  dsimp only at hg
  have hC0 := hg.1.1.1
  have hN0 := hC0.1
  have h90 := hg.1.1.2
  have hE0 := hg.2.1.1
  have hny0 := hg.1.2.1
  have hA0 : c (49 + 0) = e (49 + 0) := hsz
  refine fp_iconst hx hb dL_areSettings_0 ?_
  refine lv_istore_n (lv' := [(2, .int (iI (1))), (0, .ref (A 0)), (1, .ref (B 0))]) hx hb dL_areSettings_1 rfl hl (by decide) rfl (fun ls hl => ?_)
  refine fp_iconst hx hb dL_areSettings_2 ?_
  refine lv_istore_n (lv' := [(3, .int (iI (1))), (2, .int (iI (1))), (0, .ref (A 0)), (1, .ref (B 0))]) hx hb dL_areSettings_3 rfl hl (by decide) rfl (fun ls hl => ?_)
  have hl := lv_sub hl (l' := [(0, .ref (A 0)), (1, .ref (B 0)), (2, .int (iI (1))), (3, .int (iI (1)))]) [2, 3, 1, 0] rfl
  have lp0 : ∀ (nf : Nat) (w : Int) (c2 : Int → Int) (n2 : Int), (1 ≤ w ∧ w ≤ 5) → (∀ i : Int, 1 ≤ i → i < w → c2 (49 + i) = e (49 + i) / 3) → (c2 (49 + 0) = e (49 + 0)) → (5 + 1 ≤ w + (nf : Int)) → ∀ (H : Heap) (locs : List Loc), ST D cyI A B (fp_A (OB cyI A I C ++ (OB cyI B J E ++ []))) sx.heap (c2, n2, tx, tn) (e, my, ux, un) H locs → ∀ (ls : Array Slot), lv_has ls 4 [(0, .ref (A 0)), (1, .ref (B 0)), (2, .int (iI (1))), (3, .int (iI (w)))] → W pg l en ({ frames := 6, cells := 0, slots := 0, locals := 132 } : Room) sx mi ar bl mt cd H locs 0 0 (MQ bl (fp_Qw D (OB cyI A I C ++ (OB cyI B J E ++ [])) (fun u : SS2 => (GO u.1 u.2.1 u.2.2.2.2.1 ∧ GO u.2.2.1 u.2.2.2.1 u.2.2.2.2.2) ∧ (fun q r : OS => TrS (q.1) (r.1) ∧ (r.1, r.2.1, r.2.2.1, r.2.2.2) = (e, my, ux, un)) u.2.2.2.2.1 u.2.2.2.2.2) (fun _ : SS2 => some (.int (iI 1))) (fun u : SS2 => OB cyI A u.1 u.2.1 ++ (OB cyI B u.2.2.1 u.2.2.2.1 ++ []))) ar sx 0 0 (fp_A (OB cyI A I C ++ (OB cyI B J E ++ [])))) (F0 mi 4 ls []) := by
    intro nf
    induction nf with
    | zero =>
      intro w c2 n2 iw jc j0 hfuel
      exact absurd hfuel (by omega)
    | succ nf ih0 =>
      intro w c2 n2 iw jc j0 hfuel H locs hT ls hl
      have hg := hT.go
      dsimp only at hg
      have hC2 := hg.1.1.1
      refine lv_iload_n hx hb dL_areSettings_4 rfl (lv_at hl 3 rfl) ?_
      refine fp_iconst hx hb dL_areSettings_5 ?_
      refine fp_icmp_ge (tgt := 45) hx hb (by omega) dL_areSettings_6 (by decide) (fun q6 => ?_) (fun q6 => ?_)
      · skip
        refine lv_iload_n hx hb dL_areSettings_45 rfl (lv_at hl 2 rfl) ?_
        exact fq_ret2 (Po := (fun q r : OS => TrS (q.1) (r.1) ∧ (r.1, r.2.1, r.2.2.1, r.2.2.2) = (e, my, ux, un))) hx hb hr hlocks hT ⟨by have h1 := jc 1 (by omega) (by omega); have h2 := jc 2 (by omega) (by omega); have h3 := jc 3 (by omega) (by omega); have h4 := jc 4 (by omega) (by omega); unfold TrS; dsimp only; omega, rfl⟩ dL_areSettings_46
      · skip
        refine lv_iload_n hx hb dL_areSettings_9 rfl (lv_at hl 2 rfl) ?_
        refine fp_if_eq (tgt := 37) hx hb (by omega) dL_areSettings_10 (by decide) (fun q10 => ?_) (fun q10 => ?_)
        · skip
          exfalso; omega
        · skip
          refine lv_aload_n hx hb dL_areSettings_13 rfl (lv_at hl 0 rfl) ?_
          refine lv_iload_n hx hb dL_areSettings_14 rfl (lv_at hl 3 rfl) ?_
          refine lv_aload_n hx hb dL_areSettings_15 rfl (lv_at hl 1 rfl) ?_
          refine fp_bipush hx hb dL_areSettings_16 (by decide) ?_
          refine lv_iload_n hx hb dL_areSettings_18 rfl (lv_at hl 3 rfl) ?_
          refine fp_iadd hx hb dL_areSettings_19 ?_
          refine fq_R (As := [.int (iI (10 + w))]) (rest := [.int (iI (w)), .ref (A 0)]) ⟨hx, hb, hml, hown, hts⟩ (oc_count l D cyI B (c := e) (ny := my) (x := ux) (n := un) (w := 10 + w) (by omega)) (cwV 1 hts gL_areSettings_X7_count rfl rfl rfl (by decide +kernel) ⟨Nat.le_of_ble_eq_true rfl, Nat.le_of_ble_eq_true rfl⟩) hK hT rfl hl.1 rfl (Nat.le_of_ble_eq_true rfl) dL_areSettings_20 ⟨Nat.zero_le _, Nat.zero_le _⟩ (fun z20 q20_ hq20_ H locs hT => ?_)
          obtain ⟨hz20, hr20⟩ := hq20_
          have hz20 : z20 = cnR e my un (10 + w) := hz20
          subst hr20
          have hz20 := hz20.trans (cn_s (by omega))
          have hrg := set_rg hE0 (w := w) (by omega)
          have hv9 : e (49 + w) / 3 ≤ 99 := by
            by_cases q : w = 4
            · rw [q, hd4]; decide
            · have := hE0.2.2; unfold SetOK at this
              have h : w = 1 ∨ w = 2 ∨ w = 3 := by omega
              rcases h with rfl | rfl | rfl <;> omega
          refine fp_iconst hx hb dL_areSettings_23 ?_
          refine fp_idiv hx hb (by omega) dL_areSettings_24 ?_
          refine fq_L (As := [.int (iI (w)), .int (iI (z20 / 3))]) (rest := []) ⟨hx, hb, hml, hown, hts⟩ (oc_set l D cyI A (c := c2) (ny := n2) (x := tx) (n := tn) (w := w) (v := z20 / 3) (by omega) (by omega)) (cwV 2 hts gL_areSettings_X7_set rfl rfl rfl (by decide +kernel) ⟨Nat.le_of_ble_eq_true rfl, Nat.le_of_ble_eq_true rfl⟩) hK hT rfl hl.1 rfl (Nat.le_of_ble_eq_true rfl) dL_areSettings_25 ⟨Nat.zero_le _, Nat.zero_le _⟩ (fun z25 q25_ hq25_ H locs hT => ?_)
          obtain ⟨hz25, hr25⟩ := hq25_
          have hz25 : z25 = stR c2 w (z20 / 3) := hz25
          obtain ⟨c25, n25, x25_, n25_⟩ := q25_
          have hc25 : c25 = if 0 ≤ stR c2 w (z20 / 3) then upI c2 (49 + w) (z20 / 3) else c2 := congrArg (fun z : OS => z.1) hr25
          have hn25 : n25 = if 0 ≤ stR c2 w (z20 / 3) then recN n2 else n2 := congrArg (fun z : OS => z.2.1) hr25
          rw [show x25_ = tx from congrArg (fun z : OS => z.2.2.1) hr25, show n25_ = tn from congrArg (fun z : OS => z.2.2.2) hr25] at hT
          have hg := hT.go
          dsimp only at hg
          have hso := st_ok hC2 (w := w) (v := z20 / 3) (by omega) (by rw [hz20]; omega) hc25
          have hr25 := set_rg hC2 (w := w) (by omega)
          have hz25b : z25 = -5 ∨ 0 ≤ z25 ∧ z25 ≤ 999 := by
            rw [hz25, hso.2.2.1]
            split <;> omega
          have hJ : ∀ i : Int, 1 ≤ i → i < w + 1 → c25 (49 + i) = e (49 + i) / 3 := fun i a b => by
            by_cases q : i = w
            · rw [q, hso.1, hz20]
            · rw [hso.2.1 _ (by omega)]; exact jc i a (by omega)
          have hJ0 : c25 (49 + 0) = e (49 + 0) := by rw [hso.2.1 _ (by omega)]; exact j0
          refine fp_bipush hx hb dL_areSettings_28 (by decide) ?_
          refine fp_icmp_eq (tgt := 37) hx hb (by omega) dL_areSettings_30 (by decide) (fun q30 => ?_) (fun q30 => ?_)
          · skip
            exfalso; omega
          · skip
            refine fp_iconst hx hb dL_areSettings_33 ?_
            refine lv_goto (tgt := 38) hx hb dL_areSettings_34 (by decide) ?_
            refine lv_istore_n (lv' := [(2, .int (iI (1))), (0, .ref (A 0)), (1, .ref (B 0)), (3, .int (iI (w)))]) hx hb dL_areSettings_38 rfl hl (by decide) rfl (fun ls hl => ?_)
            refine fp_iinc (k := 3) (lv' := [(3, .int (iI (w + 1))), (2, .int (iI (1))), (0, .ref (A 0)), (1, .ref (B 0))]) hx hb dL_areSettings_39 hl rfl (by decide) rfl (fun ls hl => ?_)
            refine lv_goto (tgt := 4) hx hb dL_areSettings_42 (by decide) ?_
            exact ih0 (w + 1) c25 n25 (by omega) hJ hJ0 (by omega) H locs hT ls (lv_sub hl [2, 3, 1, 0] rfl)
  exact lp0 (((5 : Int) + 1 - (1)).toNat) 1 c ny (by omega) (fun i a b => by omega) hA0 (by omega) sx.heap [] hT ls hl
