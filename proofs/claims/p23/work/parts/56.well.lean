set_option maxHeartbeats 8000000 in
set_option maxRecDepth 100000 in
theorem c_L_isWell (l : Launch) (D : va_G) (cyI : ClassId) (A : Nat → Nat) {c : Int → Int} {ny : Int} {tx : Int → Int} {tn : Int} : LC1 l yL_isWell wsL_isWell ({ frames := 7, cells := 0, slots := 0, locals := 171 } : Room) D cyI A (c, ny, tx, tn) (fun q : OS => (q.1, q.2.1, q.2.2.1, q.2.2.2) = (c, ny, tx, tn)) := by
  intro I C g1
  refine fp_start (cc := cL_isWell) (maxL := 14) (ret := (some .boolean)) (by decide) rfl (Nat.le_of_ble_eq_true rfl) ?_
  intro pg en sx mi ar bl mt cd ls hx hb hr hts hown hlocks hml hnm hP hK hD hl
  have hown : sx.vm.findClass RL = some mi.cls := hown
  have hl : lv_has ls 14 [(0, .ref (A 0))] := hl
  have hT : ST1 D cyI A (fp_A (OB cyI A I C ++ [])) sx.heap (c, ny, tx, tn) sx.heap [] := ST1.in g1 hP hD
  have hg := hT.go
  dsimp only at hg
  have hC0 := hg.1.1
  have hN0 := hC0.1
  have hla0 := la_b hC0
  have hlu0 := la_up hC0
  have hX0 := hC0.2.2
  unfold SetOK at hX0
  refine lv_aload_n hx hb dL_isWell_0 rfl (lv_at hl 0 rfl) ?_
  refine fp_bipush hx hb dL_isWell_1 (by decide) ?_
  refine fq_1 (As := [.int (iI (10))]) (rest := []) ⟨hx, hb, hml, hown, hts⟩ (oc_count l D cyI A (c := c) (ny := ny) (x := tx) (n := tn) (w := 10) (by omega)) (cwV 1 hts gL_isWell_X7_count rfl rfl rfl (by decide +kernel) ⟨Nat.le_of_ble_eq_true rfl, Nat.le_of_ble_eq_true rfl⟩) hK hT rfl hl.1 rfl (Nat.le_of_ble_eq_true rfl) dL_isWell_3 ⟨Nat.zero_le _, Nat.zero_le _⟩ (fun z3 q3_ hq3_ H locs hT => ?_)
  obtain ⟨hz3, hr3⟩ := hq3_
  have hz3 : z3 = cnR c ny tn 10 := hz3
  subst hr3
  have hz3 : z3 = c (49 + 0) := hz3
  refine lv_istore_n (lv' := [(1, .int (iI (z3))), (0, .ref (A 0))]) hx hb dL_isWell_6 rfl hl (by decide) rfl (fun ls hl => ?_)
  refine lv_aload_n hx hb dL_isWell_7 rfl (lv_at hl 1 rfl) ?_
  refine fp_bipush hx hb dL_isWell_8 (by decide) ?_
  refine fq_1 (As := [.int (iI (6))]) (rest := []) ⟨hx, hb, hml, hown, hts⟩ (oc_count l D cyI A (c := c) (ny := ny) (x := tx) (n := tn) (w := 6) (by omega)) (cwV 1 hts gL_isWell_X7_count rfl rfl rfl (by decide +kernel) ⟨Nat.le_of_ble_eq_true rfl, Nat.le_of_ble_eq_true rfl⟩) hK hT rfl hl.1 rfl (Nat.le_of_ble_eq_true rfl) dL_isWell_10 ⟨Nat.zero_le _, Nat.zero_le _⟩ (fun z10 q10_ hq10_ H locs hT => ?_)
  obtain ⟨hz10, hr10⟩ := hq10_
  have hz10 : z10 = cnR c ny tn 6 := hz10
  subst hr10
  have hz10 : z10 = laC c := hz10
  refine lv_istore_n (lv' := [(2, .int (iI (z10))), (1, .int (iI (z3))), (0, .ref (A 0))]) hx hb dL_isWell_13 rfl hl (by decide) rfl (fun ls hl => ?_)
  refine fp_iconst hx hb dL_isWell_14 ?_
  refine lv_istore_n (lv' := [(3, .int (iI (0))), (2, .int (iI (z10))), (1, .int (iI (z3))), (0, .ref (A 0))]) hx hb dL_isWell_15 rfl hl (by decide) rfl (fun ls hl => ?_)
  refine fp_iconst hx hb dL_isWell_16 ?_
  refine lv_istore (lv' := [(4, .int (iI (0))), (3, .int (iI (0))), (2, .int (iI (z10))), (1, .int (iI (z3))), (0, .ref (A 0))]) hx hb dL_isWell_17 hl (by decide) rfl (fun ls hl => ?_)
  refine fp_iconst hx hb dL_isWell_19 ?_
  refine lv_istore (lv' := [(5, .int (iI (0))), (4, .int (iI (0))), (3, .int (iI (0))), (2, .int (iI (z10))), (1, .int (iI (z3))), (0, .ref (A 0))]) hx hb dL_isWell_20 hl (by decide) rfl (fun ls hl => ?_)
  refine fp_iconst hx hb dL_isWell_22 ?_
  refine lv_istore (lv' := [(6, .int (iI (0))), (5, .int (iI (0))), (4, .int (iI (0))), (3, .int (iI (0))), (2, .int (iI (z10))), (1, .int (iI (z3))), (0, .ref (A 0))]) hx hb dL_isWell_23 hl (by decide) rfl (fun ls hl => ?_)
  refine fp_iconst hx hb dL_isWell_25 ?_
  refine lv_istore (lv' := [(7, .int (iI (0))), (6, .int (iI (0))), (5, .int (iI (0))), (4, .int (iI (0))), (3, .int (iI (0))), (2, .int (iI (z10))), (1, .int (iI (z3))), (0, .ref (A 0))]) hx hb dL_isWell_26 hl (by decide) rfl (fun ls hl => ?_)
  refine lv_iload_n hx hb dL_isWell_28 rfl (lv_at hl 5 rfl) ?_
  refine lv_iload_n hx hb dL_isWell_29 rfl (lv_at hl 6 rfl) ?_
  refine lv_aload_n hx hb dL_isWell_30 rfl (lv_at hl 7 rfl) ?_
  refine fp_iconst hx hb dL_isWell_31 ?_
  refine fq_1 (As := [.int (iI (5))]) (rest := [.int (iI (z3)), .int (iI (z10))]) ⟨hx, hb, hml, hown, hts⟩ (oc_count l D cyI A (c := c) (ny := ny) (x := tx) (n := tn) (w := 5) (by omega)) (cwV 1 hts gL_isWell_X7_count rfl rfl rfl (by decide +kernel) ⟨Nat.le_of_ble_eq_true rfl, Nat.le_of_ble_eq_true rfl⟩) hK hT rfl hl.1 rfl (Nat.le_of_ble_eq_true rfl) dL_isWell_32 ⟨Nat.zero_le _, Nat.zero_le _⟩ (fun z32 q32_ hq32_ H locs hT => ?_)
  obtain ⟨hz32, hr32⟩ := hq32_
  have hz32 : z32 = cnR c ny tn 5 := hz32
  subst hr32
  have hz32 : z32 = gaC c := hz32
  refine fp_imul hx hb dL_isWell_35 ?_
  have hm36 : z3 * z32 = z10 := by rw [hz3, hz32, hz10, hla0.2.2.1, Int.mul_comm]
  refine fp_icmp_ne (tgt := 63) hx hb (by omega) dL_isWell_36 (by decide) (fun q36 => ?_) (fun q36 => ?_)
  · skip
    exfalso; omega
  · skip
    refine lv_aload_n hx hb dL_isWell_39 rfl (lv_at hl 7 rfl) ?_
    refine fp_iconst hx hb dL_isWell_40 ?_
    refine fq_1 (As := [.int (iI (4))]) (rest := []) ⟨hx, hb, hml, hown, hts⟩ (oc_count l D cyI A (c := c) (ny := ny) (x := tx) (n := tn) (w := 4) (by omega)) (cwV 1 hts gL_isWell_X7_count rfl rfl rfl (by decide +kernel) ⟨Nat.le_of_ble_eq_true rfl, Nat.le_of_ble_eq_true rfl⟩) hK hT rfl hl.1 rfl (Nat.le_of_ble_eq_true rfl) dL_isWell_41 ⟨Nat.zero_le _, Nat.zero_le _⟩ (fun z41 q41_ hq41_ H locs hT => ?_)
    obtain ⟨hz41, hr41⟩ := hq41_
    have hz41 : z41 = cnR c ny tn 4 := hz41
    subst hr41
    have hz41 : z41 = pgC c (c 0) := hz41
    refine lv_iload_n hx hb dL_isWell_44 rfl (lv_at hl 5 rfl) ?_
    refine fp_icmp_gt (tgt := 63) hx hb (by omega) dL_isWell_45 (by decide) (fun q45 => ?_) (fun q45 => ?_)
    · skip
      exfalso; omega
    · skip
      refine lv_aload_n hx hb dL_isWell_48 rfl (lv_at hl 7 rfl) ?_
      refine fp_iconst hx hb dL_isWell_49 ?_
      refine fq_1 (As := [.int (iI (4))]) (rest := []) ⟨hx, hb, hml, hown, hts⟩ (oc_count l D cyI A (c := c) (ny := ny) (x := tx) (n := tn) (w := 4) (by omega)) (cwV 1 hts gL_isWell_X7_count rfl rfl rfl (by decide +kernel) ⟨Nat.le_of_ble_eq_true rfl, Nat.le_of_ble_eq_true rfl⟩) hK hT rfl hl.1 rfl (Nat.le_of_ble_eq_true rfl) dL_isWell_50 ⟨Nat.zero_le _, Nat.zero_le _⟩ (fun z50 q50_ hq50_ H locs hT => ?_)
      obtain ⟨hz50, hr50⟩ := hq50_
      have hz50 : z50 = cnR c ny tn 4 := hz50
      subst hr50
      have hz50 : z50 = pgC c (c 0) := hz50
      refine lv_iload_n hx hb dL_isWell_53 rfl (lv_at hl 6 rfl) ?_
      refine fp_iadd hx hb dL_isWell_54 ?_
      refine lv_iload_n hx hb dL_isWell_55 rfl (lv_at hl 5 rfl) ?_
      refine fp_icmp_le (tgt := 63) hx hb (by omega) dL_isWell_56 (by decide) (fun q56 => ?_) (fun q56 => ?_)
      · skip
        exfalso; omega
      · skip
        refine fp_iconst hx hb dL_isWell_59 ?_
        refine lv_goto (tgt := 64) hx hb dL_isWell_60 (by decide) ?_
        refine lv_istore (lv' := [(8, .int (iI (1))), (7, .int (iI (0))), (6, .int (iI (0))), (5, .int (iI (0))), (4, .int (iI (0))), (3, .int (iI (0))), (2, .int (iI (z10))), (1, .int (iI (z3))), (0, .ref (A 0))]) hx hb dL_isWell_64 hl (by decide) rfl (fun ls hl => ?_)
        refine fp_iconst hx hb dL_isWell_66 ?_
        refine lv_istore (lv' := [(9, .int (iI (1))), (8, .int (iI (1))), (7, .int (iI (0))), (6, .int (iI (0))), (5, .int (iI (0))), (4, .int (iI (0))), (3, .int (iI (0))), (2, .int (iI (z10))), (1, .int (iI (z3))), (0, .ref (A 0))]) hx hb dL_isWell_67 hl (by decide) rfl (fun ls hl => ?_)
        have hl := lv_sub hl (l' := [(0, .ref (A 0)), (1, .int (iI (z3))), (2, .int (iI (z10))), (3, .int (iI (0))), (4, .int (iI (0))), (5, .int (iI (0))), (6, .int (iI (0))), (7, .int (iI (0))), (8, .int (iI (1))), (9, .int (iI (1)))]) [9, 8, 7, 6, 5, 4, 3, 2, 1, 0] rfl
        have lp3 : ∀ (nf : Nat) (p : Int) (pl : Int) (bl2 : Int) (be : Int) (fc : Int), (1 ≤ p ∧ p ≤ laC c + 1) → (pl = sumI (p - 1).toNat (fun j => fPl c (j + 1))) → (bl2 = sumI (p - 1).toNat (fun j => fBl c (j + 1))) → (be = sumI (p - 1).toNat (fun j => fBe c (j + 1))) → (fc = sumI (p - 1).toNat (fun j => fFc c (j + 1))) → (laC c + 1 + 1 ≤ p + (nf : Int)) → ∀ (H : Heap) (locs : List Loc), ST1 D cyI A (fp_A (OB cyI A I C ++ [])) sx.heap (c, ny, tx, tn) H locs → ∀ (ls : Array Slot), lv_has ls 14 [(0, .ref (A 0)), (1, .int (iI (z3))), (2, .int (iI (z10))), (3, .int (iI (pl))), (4, .int (iI (bl2))), (5, .int (iI (be))), (6, .int (iI (0))), (7, .int (iI (fc))), (8, .int (iI (1))), (9, .int (iI (p)))] → W pg l en ({ frames := 7, cells := 0, slots := 0, locals := 171 } : Room) sx mi ar bl mt cd H locs 0 0 (MQ bl (fp_Qw D (OB cyI A I C ++ []) (fun u : SS1 => GO u.1 u.2.1 u.2.2 ∧ (fun q : OS => (q.1, q.2.1, q.2.2.1, q.2.2.2) = (c, ny, tx, tn)) u.2.2) (fun _ : SS1 => some (.int (iI 1))) (fun u : SS1 => OB cyI A u.1 u.2.1 ++ [])) ar sx 0 0 (fp_A (OB cyI A I C ++ []))) (F0 mi 69 ls []) := by
          intro nf
          induction nf with
          | zero =>
            intro p pl bl2 be fc ip jp jb je jf hfuel
            exact absurd hfuel (by omega)
          | succ nf ih3 =>
            intro p pl bl2 be fc ip jp jb je jf hfuel H locs hT ls hl
            have hg := hT.go
            dsimp only at hg
            refine lv_iload hx hb dL_isWell_69 (lv_at hl 9 rfl) ?_
            refine lv_iload_n hx hb dL_isWell_71 rfl (lv_at hl 2 rfl) ?_
            refine fp_icmp_gt (tgt := 434) hx hb (by omega) dL_isWell_72 (by decide) (fun q72 => ?_) (fun q72 => ?_)
            · skip
              have ep : p - 1 = laC c := by omega
              rw [ep] at jp jb je jf
              have ap := all_pl hC0
              have ab := all_bl hC0
              have ae := all_be hC0
              have af := all_fc hC0
              rw [← jp] at ap
              rw [← jb] at ab
              rw [← je] at ae
              rw [← jf] at af
              have hplr := pl_nn hC0
              have hblr := bl_nn hC0
              have hfcr := fc_nn hC0
              have hcor := co_nn hC0
              refine fp_iconst hx hb dL_isWell_434 ?_
              refine lv_istore (lv' := [(9, .int (iI (0))), (0, .ref (A 0)), (1, .int (iI (z3))), (2, .int (iI (z10))), (3, .int (iI (pl))), (4, .int (iI (bl2))), (5, .int (iI (be))), (6, .int (iI (0))), (7, .int (iI (fc))), (8, .int (iI (1)))]) hx hb dL_isWell_435 hl (by decide) rfl (fun ls hl => ?_)
              have hl := lv_sub hl (l' := [(0, .ref (A 0)), (1, .int (iI (z3))), (2, .int (iI (z10))), (3, .int (iI (pl))), (4, .int (iI (bl2))), (5, .int (iI (be))), (6, .int (iI (0))), (7, .int (iI (fc))), (8, .int (iI (1))), (9, .int (iI (0)))]) [1, 2, 3, 4, 5, 6, 7, 8, 9, 0] rfl
              have lp5 : ∀ (nf : Nat) (k : Int) (co : Int), (0 ≤ k ∧ k ≤ gaC c) → (co = sumI k.toNat (fun j => colI (kindC c) (c (49 + 0)) j 0 + colI (kindC c) (c (49 + 0)) j 1)) → (gaC c + 1 ≤ k + (nf : Int)) → ∀ (H : Heap) (locs : List Loc), ST1 D cyI A (fp_A (OB cyI A I C ++ [])) sx.heap (c, ny, tx, tn) H locs → ∀ (ls : Array Slot), lv_has ls 14 [(0, .ref (A 0)), (1, .int (iI (z3))), (2, .int (iI (z10))), (3, .int (iI (pl))), (4, .int (iI (bl2))), (5, .int (iI (be))), (6, .int (iI (co))), (7, .int (iI (fc))), (8, .int (iI (1))), (9, .int (iI (k)))] → W pg l en ({ frames := 7, cells := 0, slots := 0, locals := 171 } : Room) sx mi ar bl mt cd H locs 0 0 (MQ bl (fp_Qw D (OB cyI A I C ++ []) (fun u : SS1 => GO u.1 u.2.1 u.2.2 ∧ (fun q : OS => (q.1, q.2.1, q.2.2.1, q.2.2.2) = (c, ny, tx, tn)) u.2.2) (fun _ : SS1 => some (.int (iI 1))) (fun u : SS1 => OB cyI A u.1 u.2.1 ++ [])) ar sx 0 0 (fp_A (OB cyI A I C ++ []))) (F0 mi 437 ls []) := by
                intro nf
                induction nf with
                | zero =>
                  intro k co ik jc hfuel
                  exact absurd hfuel (by omega)
                | succ nf ih5 =>
                  intro k co ik jc hfuel H locs hT ls hl
                  have hg := hT.go
                  dsimp only at hg
                  refine lv_iload hx hb dL_isWell_437 (lv_at hl 9 rfl) ?_
                  refine lv_aload_n hx hb dL_isWell_439 rfl (lv_at hl 0 rfl) ?_
                  refine fp_iconst hx hb dL_isWell_440 ?_
                  refine fq_1 (As := [.int (iI (5))]) (rest := [.int (iI (k))]) ⟨hx, hb, hml, hown, hts⟩ (oc_count l D cyI A (c := c) (ny := ny) (x := tx) (n := tn) (w := 5) (by omega)) (cwV 1 hts gL_isWell_X7_count rfl rfl rfl (by decide +kernel) ⟨Nat.le_of_ble_eq_true rfl, Nat.le_of_ble_eq_true rfl⟩) hK hT rfl hl.1 rfl (Nat.le_of_ble_eq_true rfl) dL_isWell_441 ⟨Nat.zero_le _, Nat.zero_le _⟩ (fun z441 q441_ hq441_ H locs hT => ?_)
                  obtain ⟨hz441, hr441⟩ := hq441_
                  have hz441 : z441 = cnR c ny tn 5 := hz441
                  subst hr441
                  have hz441 : z441 = gaC c := hz441
                  refine fp_icmp_ge (tgt := 583) hx hb (by omega) dL_isWell_444 (by decide) (fun q444 => ?_) (fun q444 => ?_)
                  · skip
                    have ek : k = gaC c := by omega
                    rw [ek] at jc
                    have ac : co = coC c := jc
                    refine lv_iload hx hb dL_isWell_583 (lv_at hl 8 rfl) ?_
                    refine fp_if_eq (tgt := 645) hx hb (by omega) dL_isWell_585 (by decide) (fun q585 => ?_) (fun q585 => ?_)
                    · skip
                      exfalso; omega
                    · skip
                      refine lv_iload_n hx hb dL_isWell_588 rfl (lv_at hl 3 rfl) ?_
                      refine lv_aload_n hx hb dL_isWell_589 rfl (lv_at hl 0 rfl) ?_
                      refine fp_iconst hx hb dL_isWell_590 ?_
                      refine fq_1 (As := [.int (iI (1))]) (rest := [.int (iI (pl))]) ⟨hx, hb, hml, hown, hts⟩ (oc_count l D cyI A (c := c) (ny := ny) (x := tx) (n := tn) (w := 1) (by omega)) (cwV 1 hts gL_isWell_X7_count rfl rfl rfl (by decide +kernel) ⟨Nat.le_of_ble_eq_true rfl, Nat.le_of_ble_eq_true rfl⟩) hK hT rfl hl.1 rfl (Nat.le_of_ble_eq_true rfl) dL_isWell_591 ⟨Nat.zero_le _, Nat.zero_le _⟩ (fun z591 q591_ hq591_ H locs hT => ?_)
                      obtain ⟨hz591, hr591⟩ := hq591_
                      have hz591 : z591 = cnR c ny tn 1 := hz591
                      subst hr591
                      have hz591 : z591 = plC c 1 + plC c 2 := hz591
                      refine fp_icmp_ne (tgt := 645) hx hb (by omega) dL_isWell_594 (by decide) (fun q594 => ?_) (fun q594 => ?_)
                      · skip
                        exfalso; omega
                      · skip
                        refine lv_iload hx hb dL_isWell_597 (lv_at hl 4 rfl) ?_
                        refine lv_aload_n hx hb dL_isWell_599 rfl (lv_at hl 0 rfl) ?_
                        refine fp_bipush hx hb dL_isWell_600 (by decide) ?_
                        refine fq_1 (As := [.int (iI (8))]) (rest := [.int (iI (bl2))]) ⟨hx, hb, hml, hown, hts⟩ (oc_count l D cyI A (c := c) (ny := ny) (x := tx) (n := tn) (w := 8) (by omega)) (cwV 1 hts gL_isWell_X7_count rfl rfl rfl (by decide +kernel) ⟨Nat.le_of_ble_eq_true rfl, Nat.le_of_ble_eq_true rfl⟩) hK hT rfl hl.1 rfl (Nat.le_of_ble_eq_true rfl) dL_isWell_602 ⟨Nat.zero_le _, Nat.zero_le _⟩ (fun z602 q602_ hq602_ H locs hT => ?_)
                        obtain ⟨hz602, hr602⟩ := hq602_
                        have hz602 : z602 = cnR c ny tn 8 := hz602
                        subst hr602
                        have hz602 : z602 = blC c := hz602
                        refine fp_icmp_ne (tgt := 645) hx hb (by omega) dL_isWell_605 (by decide) (fun q605 => ?_) (fun q605 => ?_)
                        · skip
                          exfalso; omega
                        · skip
                          refine lv_iload hx hb dL_isWell_608 (lv_at hl 5 rfl) ?_
                          refine lv_iload_n hx hb dL_isWell_610 rfl (lv_at hl 2 rfl) ?_
                          refine lv_aload_n hx hb dL_isWell_611 rfl (lv_at hl 0 rfl) ?_
                          refine fp_iconst hx hb dL_isWell_612 ?_
                          refine fq_1 (As := [.int (iI (4))]) (rest := [.int (iI (z10)), .int (iI (be))]) ⟨hx, hb, hml, hown, hts⟩ (oc_count l D cyI A (c := c) (ny := ny) (x := tx) (n := tn) (w := 4) (by omega)) (cwV 1 hts gL_isWell_X7_count rfl rfl rfl (by decide +kernel) ⟨Nat.le_of_ble_eq_true rfl, Nat.le_of_ble_eq_true rfl⟩) hK hT rfl hl.1 rfl (Nat.le_of_ble_eq_true rfl) dL_isWell_613 ⟨Nat.zero_le _, Nat.zero_le _⟩ (fun z613 q613_ hq613_ H locs hT => ?_)
                          obtain ⟨hz613, hr613⟩ := hq613_
                          have hz613 : z613 = cnR c ny tn 4 := hz613
                          subst hr613
                          have hz613 : z613 = pgC c (c 0) := hz613
                          refine fp_isub hx hb dL_isWell_616 ?_
                          refine fp_icmp_ne (tgt := 645) hx hb (by omega) dL_isWell_617 (by decide) (fun q617 => ?_) (fun q617 => ?_)
                          · skip
                            exfalso; omega
                          · skip
                            refine lv_iload hx hb dL_isWell_620 (lv_at hl 7 rfl) ?_
                            refine lv_aload_n hx hb dL_isWell_622 rfl (lv_at hl 0 rfl) ?_
                            refine fp_iconst hx hb dL_isWell_623 ?_
                            refine fq_1 (As := [.int (iI (3))]) (rest := [.int (iI (fc))]) ⟨hx, hb, hml, hown, hts⟩ (oc_count l D cyI A (c := c) (ny := ny) (x := tx) (n := tn) (w := 3) (by omega)) (cwV 1 hts gL_isWell_X7_count rfl rfl rfl (by decide +kernel) ⟨Nat.le_of_ble_eq_true rfl, Nat.le_of_ble_eq_true rfl⟩) hK hT rfl hl.1 rfl (Nat.le_of_ble_eq_true rfl) dL_isWell_624 ⟨Nat.zero_le _, Nat.zero_le _⟩ (fun z624 q624_ hq624_ H locs hT => ?_)
                            obtain ⟨hz624, hr624⟩ := hq624_
                            have hz624 : z624 = cnR c ny tn 3 := hz624
                            subst hr624
                            have hz624 : z624 = fcC c := hz624
                            refine fp_icmp_ne (tgt := 645) hx hb (by omega) dL_isWell_627 (by decide) (fun q627 => ?_) (fun q627 => ?_)
                            · skip
                              exfalso; omega
                            · skip
                              refine lv_iload hx hb dL_isWell_630 (lv_at hl 6 rfl) ?_
                              refine lv_aload_n hx hb dL_isWell_632 rfl (lv_at hl 0 rfl) ?_
                              refine fp_bipush hx hb dL_isWell_633 (by decide) ?_
                              refine fq_1 (As := [.int (iI (7))]) (rest := [.int (iI (co))]) ⟨hx, hb, hml, hown, hts⟩ (oc_count l D cyI A (c := c) (ny := ny) (x := tx) (n := tn) (w := 7) (by omega)) (cwV 1 hts gL_isWell_X7_count rfl rfl rfl (by decide +kernel) ⟨Nat.le_of_ble_eq_true rfl, Nat.le_of_ble_eq_true rfl⟩) hK hT rfl hl.1 rfl (Nat.le_of_ble_eq_true rfl) dL_isWell_635 ⟨Nat.zero_le _, Nat.zero_le _⟩ (fun z635 q635_ hq635_ H locs hT => ?_)
                              obtain ⟨hz635, hr635⟩ := hq635_
                              have hz635 : z635 = cnR c ny tn 7 := hz635
                              subst hr635
                              have hz635 : z635 = coC c := hz635
                              refine fp_icmp_ne (tgt := 645) hx hb (by omega) dL_isWell_638 (by decide) (fun q638 => ?_) (fun q638 => ?_)
                              · skip
                                exfalso; omega
                              · skip
                                refine fp_iconst hx hb dL_isWell_641 ?_
                                refine lv_goto (tgt := 646) hx hb dL_isWell_642 (by decide) ?_
                                refine lv_istore (lv' := [(8, .int (iI (1))), (0, .ref (A 0)), (1, .int (iI (z3))), (2, .int (iI (z10))), (3, .int (iI (pl))), (4, .int (iI (bl2))), (5, .int (iI (be))), (6, .int (iI (co))), (7, .int (iI (fc))), (9, .int (iI (k)))]) hx hb dL_isWell_646 hl (by decide) rfl (fun ls hl => ?_)
                                refine lv_aload_n hx hb dL_isWell_648 rfl (lv_at hl 1 rfl) ?_
                                refine lv_iload_n hx hb dL_isWell_649 rfl (lv_at hl 2 rfl) ?_
                                refine fq_1 (As := [.int (iI (z3))]) (rest := []) ⟨hx, hb, hml, hown, hts⟩ (oc_leastCost l D cyI A (c := c) (ny := ny) (x := tx) (n := tn) (sz := z3) (by omega)) (cwV 1 hts gL_isWell_X7_leastCost rfl rfl rfl (by decide +kernel) ⟨Nat.le_of_ble_eq_true rfl, Nat.le_of_ble_eq_true rfl⟩) hK hT rfl hl.1 rfl (Nat.le_of_ble_eq_true rfl) dL_isWell_650 ⟨Nat.zero_le _, Nat.zero_le _⟩ (fun z650 q650_ hq650_ H locs hT => ?_)
                                obtain ⟨hz650, hr650⟩ := hq650_
                                have hz650 : z650 = bsI (upI c (49 + 0) z3) z3 (c 0).toNat 0 0 0 := hz650
                                subst hr650
                                have hlc := hz650
                                rw [hz3, upI_id] at hlc
                                have hln := lc_nn hC0 (sz := c (49 + 0)) hX0.1
                                rw [upI_id] at hln
                                refine lv_istore (lv' := [(9, .int (iI (z650))), (8, .int (iI (1))), (0, .ref (A 0)), (1, .int (iI (z3))), (2, .int (iI (z10))), (3, .int (iI (pl))), (4, .int (iI (bl2))), (5, .int (iI (be))), (6, .int (iI (co))), (7, .int (iI (fc)))]) hx hb dL_isWell_653 hl (by decide) rfl (fun ls hl => ?_)
                                refine lv_iload hx hb dL_isWell_655 (lv_at hl 1 rfl) ?_
                                refine fp_if_eq (tgt := 752) hx hb (by omega) dL_isWell_657 (by decide) (fun q657 => ?_) (fun q657 => ?_)
                                · skip
                                  exfalso; omega
                                · skip
                                  refine lv_aload_n hx hb dL_isWell_660 rfl (lv_at hl 2 rfl) ?_
                                  refine fp_bipush hx hb dL_isWell_661 (by decide) ?_
                                  refine fq_1 (As := [.int (iI (9))]) (rest := []) ⟨hx, hb, hml, hown, hts⟩ (oc_count l D cyI A (c := c) (ny := ny) (x := tx) (n := tn) (w := 9) (by omega)) (cwV 1 hts gL_isWell_X7_count rfl rfl rfl (by decide +kernel) ⟨Nat.le_of_ble_eq_true rfl, Nat.le_of_ble_eq_true rfl⟩) hK hT rfl hl.1 rfl (Nat.le_of_ble_eq_true rfl) dL_isWell_663 ⟨Nat.zero_le _, Nat.zero_le _⟩ (fun z663 q663_ hq663_ H locs hT => ?_)
                                  obtain ⟨hz663, hr663⟩ := hq663_
                                  have hz663 : z663 = cnR c ny tn 9 := hz663
                                  subst hr663
                                  have hz663 : z663 = csC c := hz663
                                  refine lv_aload_n hx hb dL_isWell_666 rfl (lv_at hl 2 rfl) ?_
                                  refine fp_iconst hx hb dL_isWell_667 ?_
                                  refine fq_1 (As := [.int (iI (5))]) (rest := [.int (iI (z663))]) ⟨hx, hb, hml, hown, hts⟩ (oc_count l D cyI A (c := c) (ny := ny) (x := tx) (n := tn) (w := 5) (by omega)) (cwV 1 hts gL_isWell_X7_count rfl rfl rfl (by decide +kernel) ⟨Nat.le_of_ble_eq_true rfl, Nat.le_of_ble_eq_true rfl⟩) hK hT rfl hl.1 rfl (Nat.le_of_ble_eq_true rfl) dL_isWell_668 ⟨Nat.zero_le _, Nat.zero_le _⟩ (fun z668 q668_ hq668_ H locs hT => ?_)
                                  obtain ⟨hz668, hr668⟩ := hq668_
                                  have hz668 : z668 = cnR c ny tn 5 := hz668
                                  subst hr668
                                  have hz668 : z668 = gaC c := hz668
                                  refine lv_aload_n hx hb dL_isWell_671 rfl (lv_at hl 2 rfl) ?_
                                  refine fp_bipush hx hb dL_isWell_672 (by decide) ?_
                                  refine fq_1 (As := [.int (iI (11))]) (rest := [.int (iI (z668)), .int (iI (z663))]) ⟨hx, hb, hml, hown, hts⟩ (oc_count l D cyI A (c := c) (ny := ny) (x := tx) (n := tn) (w := 11) (by omega)) (cwV 1 hts gL_isWell_X7_count rfl rfl rfl (by decide +kernel) ⟨Nat.le_of_ble_eq_true rfl, Nat.le_of_ble_eq_true rfl⟩) hK hT rfl hl.1 rfl (Nat.le_of_ble_eq_true rfl) dL_isWell_674 ⟨Nat.zero_le _, Nat.zero_le _⟩ (fun z674 q674_ hq674_ H locs hT => ?_)
                                  obtain ⟨hz674, hr674⟩ := hq674_
                                  have hz674 : z674 = cnR c ny tn 11 := hz674
                                  subst hr674
                                  have hz674 : z674 = c (49 + 1) := hz674
                                  refine lv_aload_n hx hb dL_isWell_677 rfl (lv_at hl 2 rfl) ?_
                                  refine fp_bipush hx hb dL_isWell_678 (by decide) ?_
                                  refine fq_1 (As := [.int (iI (14))]) (rest := [.int (iI (z674)), .int (iI (z668)), .int (iI (z663))]) ⟨hx, hb, hml, hown, hts⟩ (oc_count l D cyI A (c := c) (ny := ny) (x := tx) (n := tn) (w := 14) (by omega)) (cwV 1 hts gL_isWell_X7_count rfl rfl rfl (by decide +kernel) ⟨Nat.le_of_ble_eq_true rfl, Nat.le_of_ble_eq_true rfl⟩) hK hT rfl hl.1 rfl (Nat.le_of_ble_eq_true rfl) dL_isWell_680 ⟨Nat.zero_le _, Nat.zero_le _⟩ (fun z680 q680_ hq680_ H locs hT => ?_)
                                  obtain ⟨hz680, hr680⟩ := hq680_
                                  have hz680 : z680 = cnR c ny tn 14 := hz680
                                  subst hr680
                                  have hz680 : z680 = c (49 + 4) := hz680
                                  refine fp_bipush hx hb dL_isWell_683 (by decide) ?_
                                  refine fp_idiv hx hb (by omega) dL_isWell_685 ?_
                                  refine fp_iadd hx hb dL_isWell_686 ?_
                                  refine fp_imul hx hb dL_isWell_687 ?_
                                  refine lv_aload_n hx hb dL_isWell_688 rfl (lv_at hl 2 rfl) ?_
                                  refine fp_bipush hx hb dL_isWell_689 (by decide) ?_
                                  refine fq_1 (As := [.int (iI (7))]) (rest := [.int (iI (z668 * (z674 + (z680 / 10)))), .int (iI (z663))]) ⟨hx, hb, hml, hown, hts⟩ (oc_count l D cyI A (c := c) (ny := ny) (x := tx) (n := tn) (w := 7) (by omega)) (cwV 1 hts gL_isWell_X7_count rfl rfl rfl (by decide +kernel) ⟨Nat.le_of_ble_eq_true rfl, Nat.le_of_ble_eq_true rfl⟩) hK hT rfl hl.1 rfl (Nat.le_of_ble_eq_true rfl) dL_isWell_691 ⟨Nat.zero_le _, Nat.zero_le _⟩ (fun z691 q691_ hq691_ H locs hT => ?_)
                                  obtain ⟨hz691, hr691⟩ := hq691_
                                  have hz691 : z691 = cnR c ny tn 7 := hz691
                                  subst hr691
                                  have hz691 : z691 = coC c := hz691
                                  refine lv_aload_n hx hb dL_isWell_694 rfl (lv_at hl 2 rfl) ?_
                                  refine fp_bipush hx hb dL_isWell_695 (by decide) ?_
                                  refine fq_1 (As := [.int (iI (12))]) (rest := [.int (iI (z691)), .int (iI (z668 * (z674 + (z680 / 10)))), .int (iI (z663))]) ⟨hx, hb, hml, hown, hts⟩ (oc_count l D cyI A (c := c) (ny := ny) (x := tx) (n := tn) (w := 12) (by omega)) (cwV 1 hts gL_isWell_X7_count rfl rfl rfl (by decide +kernel) ⟨Nat.le_of_ble_eq_true rfl, Nat.le_of_ble_eq_true rfl⟩) hK hT rfl hl.1 rfl (Nat.le_of_ble_eq_true rfl) dL_isWell_697 ⟨Nat.zero_le _, Nat.zero_le _⟩ (fun z697 q697_ hq697_ H locs hT => ?_)
                                  obtain ⟨hz697, hr697⟩ := hq697_
                                  have hz697 : z697 = cnR c ny tn 12 := hz697
                                  subst hr697
                                  have hz697 : z697 = c (49 + 2) := hz697
                                  refine fp_imul hx hb dL_isWell_700 ?_
                                  refine fp_iadd hx hb dL_isWell_701 ?_
                                  refine lv_aload_n hx hb dL_isWell_702 rfl (lv_at hl 2 rfl) ?_
                                  refine fp_bipush hx hb dL_isWell_703 (by decide) ?_
                                  refine fq_1 (As := [.int (iI (8))]) (rest := [.int (iI ((z668 * (z674 + (z680 / 10))) + (z691 * z697))), .int (iI (z663))]) ⟨hx, hb, hml, hown, hts⟩ (oc_count l D cyI A (c := c) (ny := ny) (x := tx) (n := tn) (w := 8) (by omega)) (cwV 1 hts gL_isWell_X7_count rfl rfl rfl (by decide +kernel) ⟨Nat.le_of_ble_eq_true rfl, Nat.le_of_ble_eq_true rfl⟩) hK hT rfl hl.1 rfl (Nat.le_of_ble_eq_true rfl) dL_isWell_705 ⟨Nat.zero_le _, Nat.zero_le _⟩ (fun z705 q705_ hq705_ H locs hT => ?_)
                                  obtain ⟨hz705, hr705⟩ := hq705_
                                  have hz705 : z705 = cnR c ny tn 8 := hz705
                                  subst hr705
                                  have hz705 : z705 = blC c := hz705
                                  refine lv_aload_n hx hb dL_isWell_708 rfl (lv_at hl 2 rfl) ?_
                                  refine fp_bipush hx hb dL_isWell_709 (by decide) ?_
                                  refine fq_1 (As := [.int (iI (13))]) (rest := [.int (iI (z705)), .int (iI ((z668 * (z674 + (z680 / 10))) + (z691 * z697))), .int (iI (z663))]) ⟨hx, hb, hml, hown, hts⟩ (oc_count l D cyI A (c := c) (ny := ny) (x := tx) (n := tn) (w := 13) (by omega)) (cwV 1 hts gL_isWell_X7_count rfl rfl rfl (by decide +kernel) ⟨Nat.le_of_ble_eq_true rfl, Nat.le_of_ble_eq_true rfl⟩) hK hT rfl hl.1 rfl (Nat.le_of_ble_eq_true rfl) dL_isWell_711 ⟨Nat.zero_le _, Nat.zero_le _⟩ (fun z711 q711_ hq711_ H locs hT => ?_)
                                  obtain ⟨hz711, hr711⟩ := hq711_
                                  have hz711 : z711 = cnR c ny tn 13 := hz711
                                  subst hr711
                                  have hz711 : z711 = c (49 + 3) := hz711
                                  refine fp_imul hx hb dL_isWell_714 ?_
                                  refine fp_iadd hx hb dL_isWell_715 ?_
                                  have hsum : z668 * (z674 + z680 / 10) + z691 * z697 + z705 * z711 = z663 := by rw [hz668, hz674, hz680, hz691, hz697, hz705, hz711, hz663]; rfl
                                  have hcn := cs_nn hC0
                                  refine fp_icmp_ne (tgt := 752) hx hb (by omega) dL_isWell_716 (by decide) (fun q716 => ?_) (fun q716 => ?_)
                                  · skip
                                    exfalso; omega
                                  · skip
                                    refine lv_aload_n hx hb dL_isWell_719 rfl (lv_at hl 2 rfl) ?_
                                    refine fp_iconst hx hb dL_isWell_720 ?_
                                    refine fq_1 (As := [.int (iI (3))]) (rest := []) ⟨hx, hb, hml, hown, hts⟩ (oc_count l D cyI A (c := c) (ny := ny) (x := tx) (n := tn) (w := 3) (by omega)) (cwV 1 hts gL_isWell_X7_count rfl rfl rfl (by decide +kernel) ⟨Nat.le_of_ble_eq_true rfl, Nat.le_of_ble_eq_true rfl⟩) hK hT rfl hl.1 rfl (Nat.le_of_ble_eq_true rfl) dL_isWell_721 ⟨Nat.zero_le _, Nat.zero_le _⟩ (fun z721 q721_ hq721_ H locs hT => ?_)
                                    obtain ⟨hz721, hr721⟩ := hq721_
                                    have hz721 : z721 = cnR c ny tn 3 := hz721
                                    subst hr721
                                    have hz721 : z721 = fcC c := hz721
                                    refine lv_aload_n hx hb dL_isWell_724 rfl (lv_at hl 2 rfl) ?_
                                    refine fp_iconst hx hb dL_isWell_725 ?_
                                    refine fq_1 (As := [.int (iI (1))]) (rest := [.int (iI (z721))]) ⟨hx, hb, hml, hown, hts⟩ (oc_count l D cyI A (c := c) (ny := ny) (x := tx) (n := tn) (w := 1) (by omega)) (cwV 1 hts gL_isWell_X7_count rfl rfl rfl (by decide +kernel) ⟨Nat.le_of_ble_eq_true rfl, Nat.le_of_ble_eq_true rfl⟩) hK hT rfl hl.1 rfl (Nat.le_of_ble_eq_true rfl) dL_isWell_726 ⟨Nat.zero_le _, Nat.zero_le _⟩ (fun z726 q726_ hq726_ H locs hT => ?_)
                                    obtain ⟨hz726, hr726⟩ := hq726_
                                    have hz726 : z726 = cnR c ny tn 1 := hz726
                                    subst hr726
                                    have hz726 : z726 = plC c 1 + plC c 2 := hz726
                                    refine fp_icmp_lt (tgt := 748) hx hb (by omega) dL_isWell_729 (by decide) (fun q729 => ?_) (fun q729 => ?_)
                                    · skip
                                      refine fp_iconst hx hb dL_isWell_748 ?_
                                      refine lv_goto (tgt := 753) hx hb dL_isWell_749 (by decide) ?_
                                      exact fq_ret1 (Po1 := (fun q : OS => (q.1, q.2.1, q.2.2.1, q.2.2.2) = (c, ny, tx, tn))) hx hb hr hlocks hT rfl dL_isWell_753
                                    · skip
                                      have hfl := (fc_le hC0).2.mp (by omega)
                                      have hbc := bs_cs hC0 hfl
                                      refine lv_iload hx hb dL_isWell_732 (lv_at hl 0 rfl) ?_
                                      refine fp_if_lt (tgt := 752) hx hb (by omega) dL_isWell_734 (by decide) (fun q734 => ?_) (fun q734 => ?_)
                                      · skip
                                        exfalso; omega
                                      · skip
                                        refine lv_iload hx hb dL_isWell_737 (lv_at hl 0 rfl) ?_
                                        refine lv_aload_n hx hb dL_isWell_739 rfl (lv_at hl 2 rfl) ?_
                                        refine fp_bipush hx hb dL_isWell_740 (by decide) ?_
                                        refine fq_1 (As := [.int (iI (9))]) (rest := [.int (iI (z650))]) ⟨hx, hb, hml, hown, hts⟩ (oc_count l D cyI A (c := c) (ny := ny) (x := tx) (n := tn) (w := 9) (by omega)) (cwV 1 hts gL_isWell_X7_count rfl rfl rfl (by decide +kernel) ⟨Nat.le_of_ble_eq_true rfl, Nat.le_of_ble_eq_true rfl⟩) hK hT rfl hl.1 rfl (Nat.le_of_ble_eq_true rfl) dL_isWell_742 ⟨Nat.zero_le _, Nat.zero_le _⟩ (fun z742 q742_ hq742_ H locs hT => ?_)
                                        obtain ⟨hz742, hr742⟩ := hq742_
                                        have hz742 : z742 = cnR c ny tn 9 := hz742
                                        subst hr742
                                        have hz742 : z742 = csC c := hz742
                                        refine fp_icmp_gt (tgt := 752) hx hb (by omega) dL_isWell_745 (by decide) (fun q745 => ?_) (fun q745 => ?_)
                                        · skip
                                          exfalso; omega
                                        · skip
                                          refine fp_iconst hx hb dL_isWell_748 ?_
                                          refine lv_goto (tgt := 753) hx hb dL_isWell_749 (by decide) ?_
                                          exact fq_ret1 (Po1 := (fun q : OS => (q.1, q.2.1, q.2.2.1, q.2.2.2) = (c, ny, tx, tn))) hx hb hr hlocks hT rfl dL_isWell_753
                  · skip
                    refine lv_iload hx hb dL_isWell_447 (lv_at hl 8 rfl) ?_
                    refine fp_if_eq (tgt := 583) hx hb (by omega) dL_isWell_449 (by decide) (fun q449 => ?_) (fun q449 => ?_)
                    · skip
                      exfalso; omega
                    · skip
                      have hkz : 0 ≤ z3 * k ∧ z3 * k + z3 ≤ laC c := by
                        have h1 := ga_in hC0 (g := k) (i := 1) (by omega) (by omega)
                        have h2 := ga_in hC0 (g := k) (i := c (49 + 0)) (by omega) (by omega)
                        rw [hz3, Int.mul_comm]
                        omega
                      have ekz : k * c (49 + 0) = z3 * k := by rw [hz3, Int.mul_comm]
                      refine fp_iconst hx hb dL_isWell_452 ?_
                      refine lv_istore (lv' := [(10, .int (iI (0))), (0, .ref (A 0)), (1, .int (iI (z3))), (2, .int (iI (z10))), (3, .int (iI (pl))), (4, .int (iI (bl2))), (5, .int (iI (be))), (6, .int (iI (co))), (7, .int (iI (fc))), (8, .int (iI (1))), (9, .int (iI (k)))]) hx hb dL_isWell_453 hl (by decide) rfl (fun ls hl => ?_)
                      refine lv_iload_n hx hb dL_isWell_455 rfl (lv_at hl 2 rfl) ?_
                      refine lv_iload hx hb dL_isWell_456 (lv_at hl 10 rfl) ?_
                      refine fp_imul hx hb dL_isWell_458 ?_
                      refine fp_iconst hx hb dL_isWell_459 ?_
                      refine fp_iadd hx hb dL_isWell_460 ?_
                      refine lv_istore (lv' := [(11, .int (iI ((z3 * k) + 1))), (10, .int (iI (0))), (0, .ref (A 0)), (1, .int (iI (z3))), (2, .int (iI (z10))), (3, .int (iI (pl))), (4, .int (iI (bl2))), (5, .int (iI (be))), (6, .int (iI (co))), (7, .int (iI (fc))), (8, .int (iI (1))), (9, .int (iI (k)))]) hx hb dL_isWell_461 hl (by decide) rfl (fun ls hl => ?_)
                      have hl := lv_sub hl (l' := [(0, .ref (A 0)), (1, .int (iI (z3))), (2, .int (iI (z10))), (3, .int (iI (pl))), (4, .int (iI (bl2))), (5, .int (iI (be))), (6, .int (iI (co))), (7, .int (iI (fc))), (8, .int (iI (1))), (9, .int (iI (k))), (10, .int (iI (0))), (11, .int (iI ((z3 * k) + 1)))]) [2, 3, 4, 5, 6, 7, 8, 9, 10, 11, 1, 0] rfl
                      have lp19 : ∀ (nf : Nat) (ins : Int) (q : Int), (z3 * k + 1 ≤ q ∧ q ≤ z3 * k + z3 + 1) → (ins = insQ c k (q - 1 - z3 * k)) → ((z3 * k + z3 + 1) + 1 ≤ q + (nf : Int)) → ∀ (H : Heap) (locs : List Loc), ST1 D cyI A (fp_A (OB cyI A I C ++ [])) sx.heap (c, ny, tx, tn) H locs → ∀ (ls : Array Slot), lv_has ls 14 [(0, .ref (A 0)), (1, .int (iI (z3))), (2, .int (iI (z10))), (3, .int (iI (pl))), (4, .int (iI (bl2))), (5, .int (iI (be))), (6, .int (iI (co))), (7, .int (iI (fc))), (8, .int (iI (1))), (9, .int (iI (k))), (10, .int (iI (ins))), (11, .int (iI (q)))] → W pg l en ({ frames := 7, cells := 0, slots := 0, locals := 171 } : Room) sx mi ar bl mt cd H locs 0 0 (MQ bl (fp_Qw D (OB cyI A I C ++ []) (fun u : SS1 => GO u.1 u.2.1 u.2.2 ∧ (fun q : OS => (q.1, q.2.1, q.2.2.1, q.2.2.2) = (c, ny, tx, tn)) u.2.2) (fun _ : SS1 => some (.int (iI 1))) (fun u : SS1 => OB cyI A u.1 u.2.1 ++ [])) ar sx 0 0 (fp_A (OB cyI A I C ++ []))) (F0 mi 463 ls []) := by
                        intro nf
                        induction nf with
                        | zero =>
                          intro ins q iq ji hfuel
                          exact absurd hfuel (by omega)
                        | succ nf ih19 =>
                          intro ins q iq ji hfuel H locs hT ls hl
                          have hg := hT.go
                          dsimp only at hg
                          refine lv_iload hx hb dL_isWell_463 (lv_at hl 11 rfl) ?_
                          refine lv_iload_n hx hb dL_isWell_465 rfl (lv_at hl 1 rfl) ?_
                          refine lv_iload hx hb dL_isWell_466 (lv_at hl 9 rfl) ?_
                          refine fp_imul hx hb dL_isWell_468 ?_
                          refine lv_iload_n hx hb dL_isWell_469 rfl (lv_at hl 1 rfl) ?_
                          refine fp_iadd hx hb dL_isWell_470 ?_
                          refine fp_icmp_gt (tgt := 509) hx hb (by omega) dL_isWell_471 (by decide) (fun q471 => ?_) (fun q471 => ?_)
                          · skip
                            have hq9 : q - 1 - z3 * k = z3 := by omega
                            rw [hq9, hz3] at ji
                            have hir := ins_rg c k (c (49 + 0))
                            rw [← ji] at hir
                            have hia := ins_all (c := c) k
                            rw [← ji] at hia
                            have hc0 := cl_rg c k 0
                            have hc1 := cl_rg c k 1
                            refine lv_iload hx hb dL_isWell_509 (lv_at hl 6 rfl) ?_
                            refine lv_iload hx hb dL_isWell_511 (lv_at hl 10 rfl) ?_
                            refine fp_iconst hx hb dL_isWell_513 ?_
                            refine fp_and1 hx hb (by omega) dL_isWell_514 ?_
                            refine lv_iload hx hb dL_isWell_515 (lv_at hl 10 rfl) ?_
                            refine fp_iconst hx hb dL_isWell_517 ?_
                            refine fq_shr1 hx hb (by omega) dL_isWell_518 ?_
                            refine fp_iadd hx hb dL_isWell_519 ?_
                            refine fp_iadd hx hb dL_isWell_520 ?_
                            refine lv_istore (lv' := [(6, .int (iI (co + ((ins % 2) + (ins / 2))))), (0, .ref (A 0)), (1, .int (iI (z3))), (2, .int (iI (z10))), (3, .int (iI (pl))), (4, .int (iI (bl2))), (5, .int (iI (be))), (7, .int (iI (fc))), (8, .int (iI (1))), (9, .int (iI (k))), (10, .int (iI (ins))), (11, .int (iI (q)))]) hx hb dL_isWell_521 hl (by decide) rfl (fun ls hl => ?_)
                            refine lv_aload_n hx hb dL_isWell_523 rfl (lv_at hl 1 rfl) ?_
                            refine lv_iload hx hb dL_isWell_524 (lv_at hl 9 rfl) ?_
                            refine fp_iconst hx hb dL_isWell_526 ?_
                            refine fq_1 (As := [.int (iI (k)), .int (iI (4))]) (rest := []) ⟨hx, hb, hml, hown, hts⟩ (oc_gathering l D cyI A (c := c) (ny := ny) (x := tx) (n := tn) (j := k) (w := 4) (by omega) (by omega)) (cwV 2 hts gL_isWell_X7_gathering rfl rfl rfl (by decide +kernel) ⟨Nat.le_of_ble_eq_true rfl, Nat.le_of_ble_eq_true rfl⟩) hK hT rfl hl.1 rfl (Nat.le_of_ble_eq_true rfl) dL_isWell_527 ⟨Nat.zero_le _, Nat.zero_le _⟩ (fun z527 q527_ hq527_ H locs hT => ?_)
                            obtain ⟨hz527, hr527⟩ := hq527_
                            have hz527 : z527 = gaR c k 4 := hz527
                            subst hr527
                            have hz527 : z527 = colI (kindC c) (c (49 + 0)) k 0 := hz527.trans (gq_0 (by omega)).2.1
                            refine lv_iload hx hb dL_isWell_530 (lv_at hl 10 rfl) ?_
                            refine fp_iconst hx hb dL_isWell_532 ?_
                            refine fp_and1 hx hb (by omega) dL_isWell_533 ?_
                            refine fp_icmp_ne (tgt := 574) hx hb (by omega) dL_isWell_534 (by decide) (fun q534 => ?_) (fun q534 => ?_)
                            · skip
                              exfalso; omega
                            · skip
                              refine lv_aload_n hx hb dL_isWell_537 rfl (lv_at hl 1 rfl) ?_
                              refine lv_iload hx hb dL_isWell_538 (lv_at hl 9 rfl) ?_
                              refine fp_iconst hx hb dL_isWell_540 ?_
                              refine fq_1 (As := [.int (iI (k)), .int (iI (5))]) (rest := []) ⟨hx, hb, hml, hown, hts⟩ (oc_gathering l D cyI A (c := c) (ny := ny) (x := tx) (n := tn) (j := k) (w := 5) (by omega) (by omega)) (cwV 2 hts gL_isWell_X7_gathering rfl rfl rfl (by decide +kernel) ⟨Nat.le_of_ble_eq_true rfl, Nat.le_of_ble_eq_true rfl⟩) hK hT rfl hl.1 rfl (Nat.le_of_ble_eq_true rfl) dL_isWell_541 ⟨Nat.zero_le _, Nat.zero_le _⟩ (fun z541 q541_ hq541_ H locs hT => ?_)
                              obtain ⟨hz541, hr541⟩ := hq541_
                              have hz541 : z541 = gaR c k 5 := hz541
                              subst hr541
                              have hz541 : z541 = colI (kindC c) (c (49 + 0)) k 1 := hz541.trans (gq_0 (by omega)).2.2
                              refine lv_iload hx hb dL_isWell_544 (lv_at hl 10 rfl) ?_
                              refine fp_iconst hx hb dL_isWell_546 ?_
                              refine fq_shr1 hx hb (by omega) dL_isWell_547 ?_
                              refine fp_icmp_ne (tgt := 574) hx hb (by omega) dL_isWell_548 (by decide) (fun q548 => ?_) (fun q548 => ?_)
                              · skip
                                exfalso; omega
                              · skip
                                refine lv_aload_n hx hb dL_isWell_551 rfl (lv_at hl 1 rfl) ?_
                                refine lv_iload hx hb dL_isWell_552 (lv_at hl 9 rfl) ?_
                                refine fp_iconst hx hb dL_isWell_554 ?_
                                refine fq_1 (As := [.int (iI (k)), .int (iI (3))]) (rest := []) ⟨hx, hb, hml, hown, hts⟩ (oc_gathering l D cyI A (c := c) (ny := ny) (x := tx) (n := tn) (j := k) (w := 3) (by omega) (by omega)) (cwV 2 hts gL_isWell_X7_gathering rfl rfl rfl (by decide +kernel) ⟨Nat.le_of_ble_eq_true rfl, Nat.le_of_ble_eq_true rfl⟩) hK hT rfl hl.1 rfl (Nat.le_of_ble_eq_true rfl) dL_isWell_555 ⟨Nat.zero_le _, Nat.zero_le _⟩ (fun z555 q555_ hq555_ H locs hT => ?_)
                                obtain ⟨hz555, hr555⟩ := hq555_
                                have hz555 : z555 = gaR c k 3 := hz555
                                subst hr555
                                have hz555 : z555 = colI (kindC c) (c (49 + 0)) k 0 + colI (kindC c) (c (49 + 0)) k 1 := hz555.trans (gq_0 (by omega)).1
                                refine lv_iload hx hb dL_isWell_558 (lv_at hl 10 rfl) ?_
                                refine fp_iconst hx hb dL_isWell_560 ?_
                                refine fp_and1 hx hb (by omega) dL_isWell_561 ?_
                                refine lv_iload hx hb dL_isWell_562 (lv_at hl 10 rfl) ?_
                                refine fp_iconst hx hb dL_isWell_564 ?_
                                refine fq_shr1 hx hb (by omega) dL_isWell_565 ?_
                                refine fp_iadd hx hb dL_isWell_566 ?_
                                refine fp_icmp_ne (tgt := 574) hx hb (by omega) dL_isWell_567 (by decide) (fun q567 => ?_) (fun q567 => ?_)
                                · skip
                                  exfalso; omega
                                · skip
                                  refine fp_iconst hx hb dL_isWell_570 ?_
                                  refine lv_goto (tgt := 575) hx hb dL_isWell_571 (by decide) ?_
                                  refine lv_istore (lv' := [(8, .int (iI (1))), (6, .int (iI (co + ((ins % 2) + (ins / 2))))), (0, .ref (A 0)), (1, .int (iI (z3))), (2, .int (iI (z10))), (3, .int (iI (pl))), (4, .int (iI (bl2))), (5, .int (iI (be))), (7, .int (iI (fc))), (9, .int (iI (k))), (10, .int (iI (ins))), (11, .int (iI (q)))]) hx hb dL_isWell_575 hl (by decide) rfl (fun ls hl => ?_)
                                  refine fp_iinc (k := 9) (lv' := [(9, .int (iI (k + 1))), (8, .int (iI (1))), (6, .int (iI (co + ((ins % 2) + (ins / 2))))), (0, .ref (A 0)), (1, .int (iI (z3))), (2, .int (iI (z10))), (3, .int (iI (pl))), (4, .int (iI (bl2))), (5, .int (iI (be))), (7, .int (iI (fc))), (10, .int (iI (ins))), (11, .int (iI (q)))]) hx hb dL_isWell_577 hl rfl (by decide) rfl (fun ls hl => ?_)
                                  refine lv_goto (tgt := 437) hx hb dL_isWell_580 (by decide) ?_
                                  exact ih5 (k + 1) (co + ((ins % 2) + (ins / 2))) (by omega) (by rw [sumI_s _ ik.1, ← jc]; omega) (by omega) H locs hT ls (lv_sub hl [3, 4, 5, 6, 7, 8, 2, 9, 1, 0] rfl)
                          · skip
                            refine lv_iload hx hb dL_isWell_474 (lv_at hl 10 rfl) ?_
                            refine lv_aload_n hx hb dL_isWell_476 rfl (lv_at hl 0 rfl) ?_
                            refine lv_iload hx hb dL_isWell_477 (lv_at hl 11 rfl) ?_
                            refine fp_iconst hx hb dL_isWell_479 ?_
                            refine fq_1 (As := [.int (iI (q)), .int (iI (1))]) (rest := [.int (iI (ins))]) ⟨hx, hb, hml, hown, hts⟩ (oc_page l D cyI A (c := c) (ny := ny) (x := tx) (n := tn) (q := q) (w := 1) (by omega) (by omega)) (cwV 2 hts gL_isWell_X7_page rfl rfl rfl (by decide +kernel) ⟨Nat.le_of_ble_eq_true rfl, Nat.le_of_ble_eq_true rfl⟩) hK hT rfl hl.1 rfl (Nat.le_of_ble_eq_true rfl) dL_isWell_480 ⟨Nat.zero_le _, Nat.zero_le _⟩ (fun z480 q480_ hq480_ H locs hT => ?_)
                            obtain ⟨hz480, hr480⟩ := hq480_
                            have hz480 : z480 = pgR c q 1 := hz480
                            subst hr480
                            have hz480 : z480 = kindC c q := hz480.trans (pq_0 (by omega)).2.1
                            have hir := ins_rg c k (q - 1 - z3 * k)
                            have hkr := kind_rg hC0 (p := q) (by omega)
                            refine fp_iconst hx hb dL_isWell_483 ?_
                            have jn24 : ∀ (b11 : Int), (b11 = if kindC c q = 3 then bI (2 ≤ q % 4) + 1 else 0) → ∀ (H : Heap) (locs : List Loc), ST1 D cyI A (fp_A (OB cyI A I C ++ [])) sx.heap (c, ny, tx, tn) H locs → ∀ (ls : Array Slot), lv_has ls 14 [(0, .ref (A 0)), (1, .int (iI (z3))), (2, .int (iI (z10))), (3, .int (iI (pl))), (4, .int (iI (bl2))), (5, .int (iI (be))), (6, .int (iI (co))), (7, .int (iI (fc))), (8, .int (iI (1))), (9, .int (iI (k))), (10, .int (iI (ins))), (11, .int (iI (q)))] → W pg l en ({ frames := 7, cells := 0, slots := 0, locals := 171 } : Room) sx mi ar bl mt cd H locs 0 0 (MQ bl (fp_Qw D (OB cyI A I C ++ []) (fun u : SS1 => GO u.1 u.2.1 u.2.2 ∧ (fun q : OS => (q.1, q.2.1, q.2.2.1, q.2.2.2) = (c, ny, tx, tn)) u.2.2) (fun _ : SS1 => some (.int (iI 1))) (fun u : SS1 => OB cyI A u.1 u.2.1 ++ [])) ar sx 0 0 (fp_A (OB cyI A I C ++ []))) (F0 mi 500 ls [.int (iI (b11)), .int (iI (ins))]) := by
                              intro b11 hb11 H locs hT ls hl
                              have hg := hT.go
                              dsimp only at hg
                              have h01 := bI_rg (2 ≤ q % 4)
                              have hb12 : 0 ≤ b11 ∧ b11 ≤ 2 := by
                                rw [hb11]
                                split <;> omega
                              refine fp_ior hx hb (by omega) dL_isWell_500 ?_
                              refine lv_istore (lv' := [(10, .int (iI (orI (ins) (b11)))), (0, .ref (A 0)), (1, .int (iI (z3))), (2, .int (iI (z10))), (3, .int (iI (pl))), (4, .int (iI (bl2))), (5, .int (iI (be))), (6, .int (iI (co))), (7, .int (iI (fc))), (8, .int (iI (1))), (9, .int (iI (k))), (11, .int (iI (q)))]) hx hb dL_isWell_501 hl (by decide) rfl (fun ls hl => ?_)
                              refine fp_iinc (k := 11) (lv' := [(11, .int (iI (q + 1))), (10, .int (iI (orI (ins) (b11)))), (0, .ref (A 0)), (1, .int (iI (z3))), (2, .int (iI (z10))), (3, .int (iI (pl))), (4, .int (iI (bl2))), (5, .int (iI (be))), (6, .int (iI (co))), (7, .int (iI (fc))), (8, .int (iI (1))), (9, .int (iI (k)))]) hx hb dL_isWell_503 hl rfl (by decide) rfl (fun ls hl => ?_)
                              refine lv_goto (tgt := 463) hx hb dL_isWell_506 (by decide) ?_
                              exact ih19 (orI (ins) (b11)) (q + 1) (by omega) (by rw [show q + 1 - 1 - z3 * k = q - z3 * k by omega, ins_s (by omega), ekz, show z3 * k + (q - z3 * k) = q by omega, show q - z3 * k - 1 = q - 1 - z3 * k by omega, ← ji, hb11]) (by omega) H locs hT ls (lv_sub hl [2, 3, 4, 5, 6, 7, 8, 9, 10, 11, 1, 0] rfl)
                            refine fp_icmp_ne (tgt := 499) hx hb (by omega) dL_isWell_484 (by decide) (fun q484 => ?_) (fun q484 => ?_)
                            · skip
                              refine fp_iconst hx hb dL_isWell_499 ?_
                              exact jn24 0 (by first | (rw [if_pos (by omega)]; omega) | rw [if_neg (by omega)]) H locs hT ls (lv_sub hl [0, 1, 2, 3, 4, 5, 6, 7, 8, 9, 10, 11] rfl)
                            · skip
                              refine fp_iconst hx hb dL_isWell_487 ?_
                              refine lv_aload_n hx hb dL_isWell_488 rfl (lv_at hl 0 rfl) ?_
                              refine lv_iload hx hb dL_isWell_489 (lv_at hl 11 rfl) ?_
                              refine fp_iconst hx hb dL_isWell_491 ?_
                              refine fq_1 (As := [.int (iI (q)), .int (iI (3))]) (rest := [.int (iI (1)), .int (iI (ins))]) ⟨hx, hb, hml, hown, hts⟩ (oc_page l D cyI A (c := c) (ny := ny) (x := tx) (n := tn) (q := q) (w := 3) (by omega) (by omega)) (cwV 2 hts gL_isWell_X7_page rfl rfl rfl (by decide +kernel) ⟨Nat.le_of_ble_eq_true rfl, Nat.le_of_ble_eq_true rfl⟩) hK hT rfl hl.1 rfl (Nat.le_of_ble_eq_true rfl) dL_isWell_492 ⟨Nat.zero_le _, Nat.zero_le _⟩ (fun z492 q492_ hq492_ H locs hT => ?_)
                              obtain ⟨hz492, hr492⟩ := hq492_
                              have hz492 : z492 = pgR c q 3 := hz492
                              subst hr492
                              have hz492 : z492 = bI (2 ≤ q % 4) := hz492.trans (pq_0 (by omega)).2.2.2.1
                              have h01 := bI_rg (2 ≤ q % 4)
                              refine fp_ishl1 hx hb (by omega) dL_isWell_495 ?_
                              refine lv_goto (tgt := 500) hx hb dL_isWell_496 (by decide) ?_
                              exact jn24 (z492 + 1) (by first | (rw [if_pos (by omega)]; omega) | rw [if_neg (by omega)]) H locs hT ls (lv_sub hl [0, 1, 2, 3, 4, 5, 6, 7, 8, 9, 10, 11] rfl)
                      exact lp19 ((((z3 * k + z3 + 1) : Int) + 1 - ((z3 * k) + 1)).toNat) 0 ((z3 * k) + 1) (by omega) (by rw [show z3 * k + 1 - 1 - z3 * k = 0 by omega]; rfl) (by omega) H locs hT ls hl
              exact lp5 (((gaC c : Int) + 1 - (0)).toNat) 0 0 (by omega) rfl (by omega) H locs hT ls hl
            · skip
              refine lv_iload hx hb dL_isWell_75 (lv_at hl 8 rfl) ?_
              refine fp_if_eq (tgt := 434) hx hb (by omega) dL_isWell_77 (by decide) (fun q77 => ?_) (fun q77 => ?_)
              · skip
                exfalso; omega
              · skip
                refine lv_aload_n hx hb dL_isWell_80 rfl (lv_at hl 0 rfl) ?_
                refine lv_iload hx hb dL_isWell_81 (lv_at hl 9 rfl) ?_
                refine fp_iconst hx hb dL_isWell_83 ?_
                refine fq_1 (As := [.int (iI (p)), .int (iI (1))]) (rest := []) ⟨hx, hb, hml, hown, hts⟩ (oc_page l D cyI A (c := c) (ny := ny) (x := tx) (n := tn) (q := p) (w := 1) (by omega) (by omega)) (cwV 2 hts gL_isWell_X7_page rfl rfl rfl (by decide +kernel) ⟨Nat.le_of_ble_eq_true rfl, Nat.le_of_ble_eq_true rfl⟩) hK hT rfl hl.1 rfl (Nat.le_of_ble_eq_true rfl) dL_isWell_84 ⟨Nat.zero_le _, Nat.zero_le _⟩ (fun z84 q84_ hq84_ H locs hT => ?_)
                obtain ⟨hz84, hr84⟩ := hq84_
                have hz84 : z84 = pgR c p 1 := hz84
                subst hr84
                have hz84 : z84 = kindC c p := hz84.trans (pq_0 (by omega)).2.1
                refine lv_istore (lv' := [(10, .int (iI (z84))), (0, .ref (A 0)), (1, .int (iI (z3))), (2, .int (iI (z10))), (3, .int (iI (pl))), (4, .int (iI (bl2))), (5, .int (iI (be))), (6, .int (iI (0))), (7, .int (iI (fc))), (8, .int (iI (1))), (9, .int (iI (p)))]) hx hb dL_isWell_87 hl (by decide) rfl (fun ls hl => ?_)
                refine lv_aload_n hx hb dL_isWell_89 rfl (lv_at hl 1 rfl) ?_
                refine lv_iload hx hb dL_isWell_90 (lv_at hl 10 rfl) ?_
                refine fp_iconst hx hb dL_isWell_92 ?_
                refine fq_1 (As := [.int (iI (p)), .int (iI (0))]) (rest := []) ⟨hx, hb, hml, hown, hts⟩ (oc_page l D cyI A (c := c) (ny := ny) (x := tx) (n := tn) (q := p) (w := 0) (by omega) (by omega)) (cwV 2 hts gL_isWell_X7_page rfl rfl rfl (by decide +kernel) ⟨Nat.le_of_ble_eq_true rfl, Nat.le_of_ble_eq_true rfl⟩) hK hT rfl hl.1 rfl (Nat.le_of_ble_eq_true rfl) dL_isWell_93 ⟨Nat.zero_le _, Nat.zero_le _⟩ (fun z93 q93_ hq93_ H locs hT => ?_)
                obtain ⟨hz93, hr93⟩ := hq93_
                have hz93 : z93 = pgR c p 0 := hz93
                subst hr93
                have hz93 : z93 = ownC c p := hz93.trans (pq_0 (by omega)).1
                refine lv_istore (lv' := [(11, .int (iI (z93))), (10, .int (iI (z84))), (0, .ref (A 0)), (1, .int (iI (z3))), (2, .int (iI (z10))), (3, .int (iI (pl))), (4, .int (iI (bl2))), (5, .int (iI (be))), (6, .int (iI (0))), (7, .int (iI (fc))), (8, .int (iI (1))), (9, .int (iI (p)))]) hx hb dL_isWell_96 hl (by decide) rfl (fun ls hl => ?_)
                refine lv_aload_n hx hb dL_isWell_98 rfl (lv_at hl 2 rfl) ?_
                refine lv_iload hx hb dL_isWell_99 (lv_at hl 11 rfl) ?_
                refine fp_iconst hx hb dL_isWell_101 ?_
                refine fq_1 (As := [.int (iI (p)), .int (iI (4))]) (rest := []) ⟨hx, hb, hml, hown, hts⟩ (oc_page l D cyI A (c := c) (ny := ny) (x := tx) (n := tn) (q := p) (w := 4) (by omega) (by omega)) (cwV 2 hts gL_isWell_X7_page rfl rfl rfl (by decide +kernel) ⟨Nat.le_of_ble_eq_true rfl, Nat.le_of_ble_eq_true rfl⟩) hK hT rfl hl.1 rfl (Nat.le_of_ble_eq_true rfl) dL_isWell_102 ⟨Nat.zero_le _, Nat.zero_le _⟩ (fun z102 q102_ hq102_ H locs hT => ?_)
                obtain ⟨hz102, hr102⟩ := hq102_
                have hz102 : z102 = pgR c p 4 := hz102
                subst hr102
                have hz102 : z102 = othI p (laC c) := hz102.trans (pq_0 (by omega)).2.2.2.2
                have hkr := kind_rg hC0 (p := p) (by omega)
                have ho2 := oth_2 hC0 (p := p) (by omega)
                have hk4 := kd_4 hC0 (p := p) (by omega)
                have hdr := dv_rg hC0 (p := p) (by omega)
                have sp := sum_rg (f := fPl c) (p := p) (by omega) (fun j => bI_rg _)
                have sb := sum_rg (f := fBl c) (p := p) (by omega) (fun j => bI_rg _)
                have se := sum_rg (f := fBe c) (p := p) (by omega) (fun j => bI_rg _)
                have sf := sum_rg (f := fFc c) (p := p) (by omega) (fun j => bI_rg _)
                refine lv_istore (lv' := [(12, .int (iI (z102))), (11, .int (iI (z93))), (10, .int (iI (z84))), (0, .ref (A 0)), (1, .int (iI (z3))), (2, .int (iI (z10))), (3, .int (iI (pl))), (4, .int (iI (bl2))), (5, .int (iI (be))), (6, .int (iI (0))), (7, .int (iI (fc))), (8, .int (iI (1))), (9, .int (iI (p)))]) hx hb dL_isWell_105 hl (by decide) rfl (fun ls hl => ?_)
                refine lv_iload_n hx hb dL_isWell_107 rfl (lv_at hl 6 rfl) ?_
                refine lv_iload hx hb dL_isWell_108 (lv_at hl 2 rfl) ?_
                refine fp_iconst hx hb dL_isWell_110 ?_
                have jn27 : ∀ (b1 : Int), (b1 = fPl c p) → ∀ (H : Heap) (locs : List Loc), ST1 D cyI A (fp_A (OB cyI A I C ++ [])) sx.heap (c, ny, tx, tn) H locs → ∀ (ls : Array Slot), lv_has ls 14 [(0, .ref (A 0)), (1, .int (iI (z3))), (2, .int (iI (z10))), (3, .int (iI (pl))), (4, .int (iI (bl2))), (5, .int (iI (be))), (6, .int (iI (0))), (7, .int (iI (fc))), (8, .int (iI (1))), (9, .int (iI (p))), (10, .int (iI (z84))), (11, .int (iI (z93))), (12, .int (iI (z102)))] → W pg l en ({ frames := 7, cells := 0, slots := 0, locals := 171 } : Room) sx mi ar bl mt cd H locs 0 0 (MQ bl (fp_Qw D (OB cyI A I C ++ []) (fun u : SS1 => GO u.1 u.2.1 u.2.2 ∧ (fun q : OS => (q.1, q.2.1, q.2.2.1, q.2.2.2) = (c, ny, tx, tn)) u.2.2) (fun _ : SS1 => some (.int (iI 1))) (fun u : SS1 => OB cyI A u.1 u.2.1 ++ [])) ar sx 0 0 (fp_A (OB cyI A I C ++ []))) (F0 mi 125 ls [.int (iI (b1)), .int (iI (pl))]) := by
                  intro b1 hb1 H locs hT ls hl
                  have hg := hT.go
                  dsimp only at hg
                  refine fp_iadd hx hb dL_isWell_125 ?_
                  refine lv_istore_n (lv' := [(3, .int (iI (pl + b1))), (0, .ref (A 0)), (1, .int (iI (z3))), (2, .int (iI (z10))), (4, .int (iI (bl2))), (5, .int (iI (be))), (6, .int (iI (0))), (7, .int (iI (fc))), (8, .int (iI (1))), (9, .int (iI (p))), (10, .int (iI (z84))), (11, .int (iI (z93))), (12, .int (iI (z102)))]) hx hb dL_isWell_126 rfl hl (by decide) rfl (fun ls hl => ?_)
                  refine lv_iload hx hb dL_isWell_127 (lv_at hl 4 rfl) ?_
                  refine lv_iload hx hb dL_isWell_129 (lv_at hl 10 rfl) ?_
                  have jn28 : ∀ (b2 : Int), (b2 = fBl c p) → ∀ (H : Heap) (locs : List Loc), ST1 D cyI A (fp_A (OB cyI A I C ++ [])) sx.heap (c, ny, tx, tn) H locs → ∀ (ls : Array Slot), lv_has ls 14 [(0, .ref (A 0)), (1, .int (iI (z3))), (2, .int (iI (z10))), (3, .int (iI (pl + b1))), (4, .int (iI (bl2))), (5, .int (iI (be))), (6, .int (iI (0))), (7, .int (iI (fc))), (8, .int (iI (1))), (9, .int (iI (p))), (10, .int (iI (z84))), (11, .int (iI (z93))), (12, .int (iI (z102)))] → W pg l en ({ frames := 7, cells := 0, slots := 0, locals := 171 } : Room) sx mi ar bl mt cd H locs 0 0 (MQ bl (fp_Qw D (OB cyI A I C ++ []) (fun u : SS1 => GO u.1 u.2.1 u.2.2 ∧ (fun q : OS => (q.1, q.2.1, q.2.2.1, q.2.2.2) = (c, ny, tx, tn)) u.2.2) (fun _ : SS1 => some (.int (iI 1))) (fun u : SS1 => OB cyI A u.1 u.2.1 ++ [])) ar sx 0 0 (fp_A (OB cyI A I C ++ []))) (F0 mi 139 ls [.int (iI (b2)), .int (iI (bl2))]) := by
                    intro b2 hb2 H locs hT ls hl
                    have hg := hT.go
                    dsimp only at hg
                    refine fp_iadd hx hb dL_isWell_139 ?_
                    refine lv_istore (lv' := [(4, .int (iI (bl2 + b2))), (0, .ref (A 0)), (1, .int (iI (z3))), (2, .int (iI (z10))), (3, .int (iI (pl + b1))), (5, .int (iI (be))), (6, .int (iI (0))), (7, .int (iI (fc))), (8, .int (iI (1))), (9, .int (iI (p))), (10, .int (iI (z84))), (11, .int (iI (z93))), (12, .int (iI (z102)))]) hx hb dL_isWell_140 hl (by decide) rfl (fun ls hl => ?_)
                    refine lv_iload hx hb dL_isWell_142 (lv_at hl 5 rfl) ?_
                    refine lv_iload hx hb dL_isWell_144 (lv_at hl 10 rfl) ?_
                    refine fp_iconst hx hb dL_isWell_146 ?_
                    have jn29 : ∀ (b3 : Int), (b3 = fBe c p) → ∀ (H : Heap) (locs : List Loc), ST1 D cyI A (fp_A (OB cyI A I C ++ [])) sx.heap (c, ny, tx, tn) H locs → ∀ (ls : Array Slot), lv_has ls 14 [(0, .ref (A 0)), (1, .int (iI (z3))), (2, .int (iI (z10))), (3, .int (iI (pl + b1))), (4, .int (iI (bl2 + b2))), (5, .int (iI (be))), (6, .int (iI (0))), (7, .int (iI (fc))), (8, .int (iI (1))), (9, .int (iI (p))), (10, .int (iI (z84))), (11, .int (iI (z93))), (12, .int (iI (z102)))] → W pg l en ({ frames := 7, cells := 0, slots := 0, locals := 171 } : Room) sx mi ar bl mt cd H locs 0 0 (MQ bl (fp_Qw D (OB cyI A I C ++ []) (fun u : SS1 => GO u.1 u.2.1 u.2.2 ∧ (fun q : OS => (q.1, q.2.1, q.2.2.1, q.2.2.2) = (c, ny, tx, tn)) u.2.2) (fun _ : SS1 => some (.int (iI 1))) (fun u : SS1 => OB cyI A u.1 u.2.1 ++ [])) ar sx 0 0 (fp_A (OB cyI A I C ++ []))) (F0 mi 155 ls [.int (iI (b3)), .int (iI (be))]) := by
                      intro b3 hb3 H locs hT ls hl
                      have hg := hT.go
                      dsimp only at hg
                      refine fp_iadd hx hb dL_isWell_155 ?_
                      refine lv_istore (lv' := [(5, .int (iI (be + b3))), (0, .ref (A 0)), (1, .int (iI (z3))), (2, .int (iI (z10))), (3, .int (iI (pl + b1))), (4, .int (iI (bl2 + b2))), (6, .int (iI (0))), (7, .int (iI (fc))), (8, .int (iI (1))), (9, .int (iI (p))), (10, .int (iI (z84))), (11, .int (iI (z93))), (12, .int (iI (z102)))]) hx hb dL_isWell_156 hl (by decide) rfl (fun ls hl => ?_)
                      refine lv_iload hx hb dL_isWell_158 (lv_at hl 10 rfl) ?_
                      refine fp_if_lt (tgt := 301) hx hb (by omega) dL_isWell_160 (by decide) (fun q160 => ?_) (fun q160 => ?_)
                      · skip
                        exfalso; omega
                      · skip
                        refine lv_iload hx hb dL_isWell_163 (lv_at hl 10 rfl) ?_
                        refine fp_iconst hx hb dL_isWell_165 ?_
                        refine fp_icmp_ge (tgt := 301) hx hb (by omega) dL_isWell_166 (by decide) (fun q166 => ?_) (fun q166 => ?_)
                        · skip
                          exfalso; omega
                        · skip
                          refine lv_iload hx hb dL_isWell_169 (lv_at hl 11 rfl) ?_
                          refine fp_bipush hx hb dL_isWell_171 (by decide) ?_
                          have jn32 : ∀ (b4 : Int), (b4 = bI (ownC c p = -5)) → ∀ (H : Heap) (locs : List Loc), ST1 D cyI A (fp_A (OB cyI A I C ++ [])) sx.heap (c, ny, tx, tn) H locs → ∀ (ls : Array Slot), lv_has ls 14 [(0, .ref (A 0)), (1, .int (iI (z3))), (2, .int (iI (z10))), (3, .int (iI (pl + b1))), (4, .int (iI (bl2 + b2))), (5, .int (iI (be + b3))), (6, .int (iI (0))), (7, .int (iI (fc))), (8, .int (iI (1))), (9, .int (iI (p))), (10, .int (iI (z84))), (11, .int (iI (z93))), (12, .int (iI (z102)))] → W pg l en ({ frames := 7, cells := 0, slots := 0, locals := 171 } : Room) sx mi ar bl mt cd H locs 0 0 (MQ bl (fp_Qw D (OB cyI A I C ++ []) (fun u : SS1 => GO u.1 u.2.1 u.2.2 ∧ (fun q : OS => (q.1, q.2.1, q.2.2.1, q.2.2.2) = (c, ny, tx, tn)) u.2.2) (fun _ : SS1 => some (.int (iI 1))) (fun u : SS1 => OB cyI A u.1 u.2.1 ++ [])) ar sx 0 0 (fp_A (OB cyI A I C ++ []))) (F0 mi 181 ls [.int (iI (b4))]) := by
                            intro b4 hb4 H locs hT ls hl
                            have hg := hT.go
                            dsimp only at hg
                            refine lv_iload hx hb dL_isWell_181 (lv_at hl 10 rfl) ?_
                            have jn33 : ∀ (b5 : Int), (b5 = bI (kindC c p = 0 ∨ kindC c p = 4)) → ∀ (H : Heap) (locs : List Loc), ST1 D cyI A (fp_A (OB cyI A I C ++ [])) sx.heap (c, ny, tx, tn) H locs → ∀ (ls : Array Slot), lv_has ls 14 [(0, .ref (A 0)), (1, .int (iI (z3))), (2, .int (iI (z10))), (3, .int (iI (pl + b1))), (4, .int (iI (bl2 + b2))), (5, .int (iI (be + b3))), (6, .int (iI (0))), (7, .int (iI (fc))), (8, .int (iI (1))), (9, .int (iI (p))), (10, .int (iI (z84))), (11, .int (iI (z93))), (12, .int (iI (z102)))] → W pg l en ({ frames := 7, cells := 0, slots := 0, locals := 171 } : Room) sx mi ar bl mt cd H locs 0 0 (MQ bl (fp_Qw D (OB cyI A I C ++ []) (fun u : SS1 => GO u.1 u.2.1 u.2.2 ∧ (fun q : OS => (q.1, q.2.1, q.2.2.1, q.2.2.2) = (c, ny, tx, tn)) u.2.2) (fun _ : SS1 => some (.int (iI 1))) (fun u : SS1 => OB cyI A u.1 u.2.1 ++ [])) ar sx 0 0 (fp_A (OB cyI A I C ++ []))) (F0 mi 197 ls [.int (iI (b5)), .int (iI (b4))]) := by
                              intro b5 hb5 H locs hT ls hl
                              have hg := hT.go
                              dsimp only at hg
                              have hb45 : b4 = b5 ∧ 0 ≤ b4 ∧ b4 ≤ 1 := by
                                have h9 := bI_rg (ownC c p = -5)
                                rw [hb4, hb5]
                                refine ⟨?_, h9⟩
                                by_cases h8 : ownC c p = -5
                                · rw [bI_t h8, bI_t (hk4.2.mp h8)]
                                · rw [bI_f h8, bI_f (fun z => h8 (hk4.2.mpr z))]
                              refine fp_icmp_ne (tgt := 301) hx hb (by omega) dL_isWell_197 (by decide) (fun q197 => ?_) (fun q197 => ?_)
                              · skip
                                exfalso; omega
                              · skip
                                refine lv_iload hx hb dL_isWell_200 (lv_at hl 10 rfl) ?_
                                refine fp_iconst hx hb dL_isWell_202 ?_
                                have jn35 : ∀ (b6 : Int), (b6 = bI (kindC c p = 4)) → ∀ (H : Heap) (locs : List Loc), ST1 D cyI A (fp_A (OB cyI A I C ++ [])) sx.heap (c, ny, tx, tn) H locs → ∀ (ls : Array Slot), lv_has ls 14 [(0, .ref (A 0)), (1, .int (iI (z3))), (2, .int (iI (z10))), (3, .int (iI (pl + b1))), (4, .int (iI (bl2 + b2))), (5, .int (iI (be + b3))), (6, .int (iI (0))), (7, .int (iI (fc))), (8, .int (iI (1))), (9, .int (iI (p))), (10, .int (iI (z84))), (11, .int (iI (z93))), (12, .int (iI (z102)))] → W pg l en ({ frames := 7, cells := 0, slots := 0, locals := 171 } : Room) sx mi ar bl mt cd H locs 0 0 (MQ bl (fp_Qw D (OB cyI A I C ++ []) (fun u : SS1 => GO u.1 u.2.1 u.2.2 ∧ (fun q : OS => (q.1, q.2.1, q.2.2.1, q.2.2.2) = (c, ny, tx, tn)) u.2.2) (fun _ : SS1 => some (.int (iI 1))) (fun u : SS1 => OB cyI A u.1 u.2.1 ++ [])) ar sx 0 0 (fp_A (OB cyI A I C ++ []))) (F0 mi 211 ls [.int (iI (b6))]) := by
                                  intro b6 hb6 H locs hT ls hl
                                  have hg := hT.go
                                  dsimp only at hg
                                  refine lv_iload hx hb dL_isWell_211 (lv_at hl 9 rfl) ?_
                                  refine lv_aload_n hx hb dL_isWell_213 rfl (lv_at hl 0 rfl) ?_
                                  refine fp_iconst hx hb dL_isWell_214 ?_
                                  refine fq_1 (As := [.int (iI (4))]) (rest := [.int (iI (p)), .int (iI (b6))]) ⟨hx, hb, hml, hown, hts⟩ (oc_count l D cyI A (c := c) (ny := ny) (x := tx) (n := tn) (w := 4) (by omega)) (cwV 1 hts gL_isWell_X7_count rfl rfl rfl (by decide +kernel) ⟨Nat.le_of_ble_eq_true rfl, Nat.le_of_ble_eq_true rfl⟩) hK hT rfl hl.1 rfl (Nat.le_of_ble_eq_true rfl) dL_isWell_215 ⟨Nat.zero_le _, Nat.zero_le _⟩ (fun z215 q215_ hq215_ H locs hT => ?_)
                                  obtain ⟨hz215, hr215⟩ := hq215_
                                  have hz215 : z215 = cnR c ny tn 4 := hz215
                                  subst hr215
                                  have hz215 : z215 = pgC c (c 0) := hz215
                                  have jn36 : ∀ (b7 : Int), (b7 = bI (pgC c (c 0) < p)) → ∀ (H : Heap) (locs : List Loc), ST1 D cyI A (fp_A (OB cyI A I C ++ [])) sx.heap (c, ny, tx, tn) H locs → ∀ (ls : Array Slot), lv_has ls 14 [(0, .ref (A 0)), (1, .int (iI (z3))), (2, .int (iI (z10))), (3, .int (iI (pl + b1))), (4, .int (iI (bl2 + b2))), (5, .int (iI (be + b3))), (6, .int (iI (0))), (7, .int (iI (fc))), (8, .int (iI (1))), (9, .int (iI (p))), (10, .int (iI (z84))), (11, .int (iI (z93))), (12, .int (iI (z102)))] → W pg l en ({ frames := 7, cells := 0, slots := 0, locals := 171 } : Room) sx mi ar bl mt cd H locs 0 0 (MQ bl (fp_Qw D (OB cyI A I C ++ []) (fun u : SS1 => GO u.1 u.2.1 u.2.2 ∧ (fun q : OS => (q.1, q.2.1, q.2.2.1, q.2.2.2) = (c, ny, tx, tn)) u.2.2) (fun _ : SS1 => some (.int (iI 1))) (fun u : SS1 => OB cyI A u.1 u.2.1 ++ [])) ar sx 0 0 (fp_A (OB cyI A I C ++ []))) (F0 mi 226 ls [.int (iI (b7)), .int (iI (b6))]) := by
                                    intro b7 hb7 H locs hT ls hl
                                    have hg := hT.go
                                    dsimp only at hg
                                    have hb67 : b6 = b7 ∧ 0 ≤ b6 ∧ b6 ≤ 1 := by
                                      have h9 := bI_rg (kindC c p = 4)
                                      rw [hb6, hb7]
                                      refine ⟨?_, h9⟩
                                      by_cases h8 : kindC c p = 4
                                      · rw [bI_t h8, bI_t (hk4.1.mp h8)]
                                      · rw [bI_f h8, bI_f (fun z => h8 (hk4.1.mpr z))]
                                    refine fp_icmp_ne (tgt := 301) hx hb (by omega) dL_isWell_226 (by decide) (fun q226 => ?_) (fun q226 => ?_)
                                    · skip
                                      exfalso; omega
                                    · skip
                                      refine lv_aload_n hx hb dL_isWell_229 rfl (lv_at hl 0 rfl) ?_
                                      refine lv_iload hx hb dL_isWell_230 (lv_at hl 9 rfl) ?_
                                      refine fp_iconst hx hb dL_isWell_232 ?_
                                      refine fq_1 (As := [.int (iI (p)), .int (iI (2))]) (rest := []) ⟨hx, hb, hml, hown, hts⟩ (oc_page l D cyI A (c := c) (ny := ny) (x := tx) (n := tn) (q := p) (w := 2) (by omega) (by omega)) (cwV 2 hts gL_isWell_X7_page rfl rfl rfl (by decide +kernel) ⟨Nat.le_of_ble_eq_true rfl, Nat.le_of_ble_eq_true rfl⟩) hK hT rfl hl.1 rfl (Nat.le_of_ble_eq_true rfl) dL_isWell_233 ⟨Nat.zero_le _, Nat.zero_le _⟩ (fun z233 q233_ hq233_ H locs hT => ?_)
                                      obtain ⟨hz233, hr233⟩ := hq233_
                                      have hz233 : z233 = pgR c p 2 := hz233
                                      subst hr233
                                      have hz233 : z233 = (p - 1) / c (49 + 0) := hz233.trans (pq_0 (by omega)).2.2.1
                                      refine lv_iload hx hb dL_isWell_236 (lv_at hl 9 rfl) ?_
                                      refine fp_iconst hx hb dL_isWell_238 ?_
                                      refine fp_isub hx hb dL_isWell_239 ?_
                                      refine lv_iload_n hx hb dL_isWell_240 rfl (lv_at hl 1 rfl) ?_
                                      refine fp_idiv hx hb (by omega) dL_isWell_241 ?_
                                      have hdv : z233 = (p - 1) / z3 := by rw [hz233, hz3]
                                      have hdr2 := hdr
                                      rw [← hz233] at hdr2
                                      refine fp_icmp_ne (tgt := 301) hx hb (by omega) dL_isWell_242 (by decide) (fun q242 => ?_) (fun q242 => ?_)
                                      · skip
                                        exfalso; omega
                                      · skip
                                        refine lv_iload hx hb dL_isWell_245 (lv_at hl 12 rfl) ?_
                                        refine fp_bipush hx hb dL_isWell_247 (by decide) ?_
                                        have jn39 : ∀ (H : Heap) (locs : List Loc), ST1 D cyI A (fp_A (OB cyI A I C ++ [])) sx.heap (c, ny, tx, tn) H locs → ∀ (ls : Array Slot), lv_has ls 14 [(0, .ref (A 0)), (1, .int (iI (z3))), (2, .int (iI (z10))), (3, .int (iI (pl + b1))), (4, .int (iI (bl2 + b2))), (5, .int (iI (be + b3))), (6, .int (iI (0))), (7, .int (iI (fc))), (8, .int (iI (1))), (9, .int (iI (p))), (10, .int (iI (z84))), (11, .int (iI (z93))), (12, .int (iI (z102)))] → W pg l en ({ frames := 7, cells := 0, slots := 0, locals := 171 } : Room) sx mi ar bl mt cd H locs 0 0 (MQ bl (fp_Qw D (OB cyI A I C ++ []) (fun u : SS1 => GO u.1 u.2.1 u.2.2 ∧ (fun q : OS => (q.1, q.2.1, q.2.2.1, q.2.2.2) = (c, ny, tx, tn)) u.2.2) (fun _ : SS1 => some (.int (iI 1))) (fun u : SS1 => OB cyI A u.1 u.2.1 ++ [])) ar sx 0 0 (fp_A (OB cyI A I C ++ []))) (F0 mi 297 ls []) := by
                                          intro   H locs hT ls hl
                                          have hg := hT.go
                                          dsimp only at hg
                                          refine fp_iconst hx hb dL_isWell_297 ?_
                                          refine lv_goto (tgt := 302) hx hb dL_isWell_298 (by decide) ?_
                                          refine lv_istore (lv' := [(8, .int (iI (1))), (0, .ref (A 0)), (1, .int (iI (z3))), (2, .int (iI (z10))), (3, .int (iI (pl + b1))), (4, .int (iI (bl2 + b2))), (5, .int (iI (be + b3))), (6, .int (iI (0))), (7, .int (iI (fc))), (9, .int (iI (p))), (10, .int (iI (z84))), (11, .int (iI (z93))), (12, .int (iI (z102)))]) hx hb dL_isWell_302 hl (by decide) rfl (fun ls hl => ?_)
                                          refine lv_iload hx hb dL_isWell_304 (lv_at hl 10 rfl) ?_
                                          refine fp_iconst hx hb dL_isWell_306 ?_
                                          have jn40 : ∀ (fc2 : Int), (fc2 = fc + fFc c p) → ∀ (H : Heap) (locs : List Loc), ST1 D cyI A (fp_A (OB cyI A I C ++ [])) sx.heap (c, ny, tx, tn) H locs → ∀ (ls : Array Slot), lv_has ls 14 [(0, .ref (A 0)), (1, .int (iI (z3))), (2, .int (iI (z10))), (3, .int (iI (pl + b1))), (4, .int (iI (bl2 + b2))), (5, .int (iI (be + b3))), (6, .int (iI (0))), (7, .int (iI (fc2))), (8, .int (iI (1))), (9, .int (iI (p))), (10, .int (iI (z84))), (11, .int (iI (z93))), (12, .int (iI (z102)))] → W pg l en ({ frames := 7, cells := 0, slots := 0, locals := 171 } : Room) sx mi ar bl mt cd H locs 0 0 (MQ bl (fp_Qw D (OB cyI A I C ++ []) (fun u : SS1 => GO u.1 u.2.1 u.2.2 ∧ (fun q : OS => (q.1, q.2.1, q.2.2.1, q.2.2.2) = (c, ny, tx, tn)) u.2.2) (fun _ : SS1 => some (.int (iI 1))) (fun u : SS1 => OB cyI A u.1 u.2.1 ++ [])) ar sx 0 0 (fp_A (OB cyI A I C ++ []))) (F0 mi 428 ls []) := by
                                            intro fc2 hfc2 H locs hT ls hl
                                            have hg := hT.go
                                            dsimp only at hg
                                            refine fp_iinc (k := 9) (lv' := [(9, .int (iI (p + 1))), (0, .ref (A 0)), (1, .int (iI (z3))), (2, .int (iI (z10))), (3, .int (iI (pl + b1))), (4, .int (iI (bl2 + b2))), (5, .int (iI (be + b3))), (6, .int (iI (0))), (7, .int (iI (fc2))), (8, .int (iI (1))), (10, .int (iI (z84))), (11, .int (iI (z93))), (12, .int (iI (z102)))]) hx hb dL_isWell_428 hl rfl (by decide) rfl (fun ls hl => ?_)
                                            refine lv_goto (tgt := 69) hx hb dL_isWell_431 (by decide) ?_
                                            exact ih3 (p + 1) (pl + b1) (bl2 + b2) (be + b3) fc2 (by omega) (by rw [sum_j (by omega), jp, hb1]) (by rw [sum_j (by omega), jb, hb2]) (by rw [sum_j (by omega), je, hb3]) (by rw [sum_j (by omega), hfc2, jf]) (by omega) H locs hT ls (lv_sub hl [1, 2, 3, 4, 5, 6, 7, 8, 9, 0] rfl)
                                          have jn41 : (kindC c p = 2 ∨ kindC c p = 3) → ∀ (H : Heap) (locs : List Loc), ST1 D cyI A (fp_A (OB cyI A I C ++ [])) sx.heap (c, ny, tx, tn) H locs → ∀ (ls : Array Slot), lv_has ls 14 [(0, .ref (A 0)), (1, .int (iI (z3))), (2, .int (iI (z10))), (3, .int (iI (pl + b1))), (4, .int (iI (bl2 + b2))), (5, .int (iI (be + b3))), (6, .int (iI (0))), (7, .int (iI (fc))), (8, .int (iI (1))), (9, .int (iI (p))), (10, .int (iI (z84))), (11, .int (iI (z93))), (12, .int (iI (z102)))] → W pg l en ({ frames := 7, cells := 0, slots := 0, locals := 171 } : Room) sx mi ar bl mt cd H locs 0 0 (MQ bl (fp_Qw D (OB cyI A I C ++ []) (fun u : SS1 => GO u.1 u.2.1 u.2.2 ∧ (fun q : OS => (q.1, q.2.1, q.2.2.1, q.2.2.2) = (c, ny, tx, tn)) u.2.2) (fun _ : SS1 => some (.int (iI 1))) (fun u : SS1 => OB cyI A u.1 u.2.1 ++ [])) ar sx 0 0 (fp_A (OB cyI A I C ++ []))) (F0 mi 316 ls []) := by
                                            intro  hpk H locs hT ls hl
                                            have hg := hT.go
                                            dsimp only at hg
                                            have hkp := kd_p hC0 (p := p) (by omega) hpk
                                            have hit := its_p hC0 (p := p) (by omega) hpk
                                            refine lv_iload hx hb dL_isWell_316 (lv_at hl 12 rfl) ?_
                                            refine fp_bipush hx hb dL_isWell_318 (by decide) ?_
                                            have jn42 : ∀ (it : Int), (it = bI (whC c (ownC c p) = 0)) → ∀ (H : Heap) (locs : List Loc), ST1 D cyI A (fp_A (OB cyI A I C ++ [])) sx.heap (c, ny, tx, tn) H locs → ∀ (ls : Array Slot), lv_has ls 14 [(0, .ref (A 0)), (1, .int (iI (z3))), (2, .int (iI (z10))), (3, .int (iI (pl + b1))), (4, .int (iI (bl2 + b2))), (5, .int (iI (be + b3))), (6, .int (iI (0))), (7, .int (iI (fc))), (8, .int (iI (1))), (9, .int (iI (p))), (10, .int (iI (z84))), (11, .int (iI (z93))), (12, .int (iI (z102)))] → W pg l en ({ frames := 7, cells := 0, slots := 0, locals := 171 } : Room) sx mi ar bl mt cd H locs 0 0 (MQ bl (fp_Qw D (OB cyI A I C ++ []) (fun u : SS1 => GO u.1 u.2.1 u.2.2 ∧ (fun q : OS => (q.1, q.2.1, q.2.2.1, q.2.2.2) = (c, ny, tx, tn)) u.2.2) (fun _ : SS1 => some (.int (iI 1))) (fun u : SS1 => OB cyI A u.1 u.2.1 ++ [])) ar sx 0 0 (fp_A (OB cyI A I C ++ []))) (F0 mi 351 ls [.int (iI (it))]) := by
                                              intro it hit2 H locs hT ls hl
                                              have hg := hT.go
                                              dsimp only at hg
                                              have hi01 := bI_rg (whC c (ownC c p) = 0)
                                              refine lv_istore (lv' := [(13, .int (iI (it))), (0, .ref (A 0)), (1, .int (iI (z3))), (2, .int (iI (z10))), (3, .int (iI (pl + b1))), (4, .int (iI (bl2 + b2))), (5, .int (iI (be + b3))), (6, .int (iI (0))), (7, .int (iI (fc))), (8, .int (iI (1))), (9, .int (iI (p))), (10, .int (iI (z84))), (11, .int (iI (z93))), (12, .int (iI (z102)))]) hx hb dL_isWell_351 hl (by decide) rfl (fun ls hl => ?_)
                                              refine lv_iload hx hb dL_isWell_353 (lv_at hl 8 rfl) ?_
                                              refine lv_iload hx hb dL_isWell_355 (lv_at hl 0 rfl) ?_
                                              have jn43 : ∀ (b9 : Int), (b9 = it) → ∀ (H : Heap) (locs : List Loc), ST1 D cyI A (fp_A (OB cyI A I C ++ [])) sx.heap (c, ny, tx, tn) H locs → ∀ (ls : Array Slot), lv_has ls 14 [(0, .ref (A 0)), (1, .int (iI (z3))), (2, .int (iI (z10))), (3, .int (iI (pl + b1))), (4, .int (iI (bl2 + b2))), (5, .int (iI (be + b3))), (6, .int (iI (0))), (7, .int (iI (fc))), (8, .int (iI (1))), (9, .int (iI (p))), (10, .int (iI (z84))), (11, .int (iI (z93))), (12, .int (iI (z102))), (13, .int (iI (it)))] → W pg l en ({ frames := 7, cells := 0, slots := 0, locals := 171 } : Room) sx mi ar bl mt cd H locs 0 0 (MQ bl (fp_Qw D (OB cyI A I C ++ []) (fun u : SS1 => GO u.1 u.2.1 u.2.2 ∧ (fun q : OS => (q.1, q.2.1, q.2.2.1, q.2.2.2) = (c, ny, tx, tn)) u.2.2) (fun _ : SS1 => some (.int (iI 1))) (fun u : SS1 => OB cyI A u.1 u.2.1 ++ [])) ar sx 0 0 (fp_A (OB cyI A I C ++ []))) (F0 mi 365 ls [.int (iI (b9)), .int (iI (fc))]) := by
                                                intro b9 hb9 H locs hT ls hl
                                                have hg := hT.go
                                                dsimp only at hg
                                                have hi01 := bI_rg (whC c (ownC c p) = 0)
                                                refine fp_iadd hx hb dL_isWell_365 ?_
                                                refine lv_istore (lv' := [(7, .int (iI (fc + b9))), (0, .ref (A 0)), (1, .int (iI (z3))), (2, .int (iI (z10))), (3, .int (iI (pl + b1))), (4, .int (iI (bl2 + b2))), (5, .int (iI (be + b3))), (6, .int (iI (0))), (8, .int (iI (1))), (9, .int (iI (p))), (10, .int (iI (z84))), (11, .int (iI (z93))), (12, .int (iI (z102))), (13, .int (iI (it)))]) hx hb dL_isWell_366 hl (by decide) rfl (fun ls hl => ?_)
                                                refine lv_iload hx hb dL_isWell_368 (lv_at hl 8 rfl) ?_
                                                refine fp_if_eq (tgt := 425) hx hb (by omega) dL_isWell_370 (by decide) (fun q370 => ?_) (fun q370 => ?_)
                                                · skip
                                                  exfalso; omega
                                                · skip
                                                  refine lv_aload_n hx hb dL_isWell_373 rfl (lv_at hl 1 rfl) ?_
                                                  refine lv_iload hx hb dL_isWell_374 (lv_at hl 11 rfl) ?_
                                                  refine fp_iconst hx hb dL_isWell_376 ?_
                                                  refine fq_1 (As := [.int (iI (z93)), .int (iI (5))]) (rest := []) ⟨hx, hb, hml, hown, hts⟩ (oc_lot l D cyI A (c := c) (ny := ny) (x := tx) (n := tn) (k := z93) (w := 5) (by have h := hkp.1; omega) (by omega)) (cwV 2 hts gL_isWell_X7_lot rfl rfl rfl (by decide +kernel) ⟨Nat.le_of_ble_eq_true rfl, Nat.le_of_ble_eq_true rfl⟩) hK hT rfl hl.1 rfl (Nat.le_of_ble_eq_true rfl) dL_isWell_377 ⟨Nat.zero_le _, Nat.zero_le _⟩ (fun z377 q377_ hq377_ H locs hT => ?_)
                                                  obtain ⟨hz377, hr377⟩ := hq377_
                                                  have hz377 : z377 = ltR c z93 5 := hz377
                                                  subst hr377
                                                  have hz377 : z377 = if c (z93 * 4 + 2) = 0 then -5 else ppC c z93 := hz377.trans (lq_5 (by rw [hz93]; exact hkp.1))
                                                  rw [hz93, if_neg hkp.2.1] at hz377
                                                  have hkp3 := hkp.2.2.1
                                                  refine lv_iload hx hb dL_isWell_380 (lv_at hl 9 rfl) ?_
                                                  refine fp_icmp_ne (tgt := 425) hx hb (by omega) dL_isWell_382 (by decide) (fun q382 => ?_) (fun q382 => ?_)
                                                  · skip
                                                    exfalso; omega
                                                  · skip
                                                    refine lv_aload_n hx hb dL_isWell_385 rfl (lv_at hl 1 rfl) ?_
                                                    refine lv_iload hx hb dL_isWell_386 (lv_at hl 11 rfl) ?_
                                                    refine fp_iconst hx hb dL_isWell_388 ?_
                                                    refine fq_1 (As := [.int (iI (z93)), .int (iI (1))]) (rest := []) ⟨hx, hb, hml, hown, hts⟩ (oc_lot l D cyI A (c := c) (ny := ny) (x := tx) (n := tn) (k := z93) (w := 1) (by have h := hkp.1; omega) (by omega)) (cwV 2 hts gL_isWell_X7_lot rfl rfl rfl (by decide +kernel) ⟨Nat.le_of_ble_eq_true rfl, Nat.le_of_ble_eq_true rfl⟩) hK hT rfl hl.1 rfl (Nat.le_of_ble_eq_true rfl) dL_isWell_389 ⟨Nat.zero_le _, Nat.zero_le _⟩ (fun z389 q389_ hq389_ H locs hT => ?_)
                                                    obtain ⟨hz389, hr389⟩ := hq389_
                                                    have hz389 : z389 = ltR c z93 1 := hz389
                                                    subst hr389
                                                    have hz389 : z389 = c (z93 * 4 + 2) := hz389.trans (lq_1 (by rw [hz93]; exact hkp.1))
                                                    rw [hz93] at hz389
                                                    have hkp4 := hkp.2.2.2
                                                    refine lv_iload hx hb dL_isWell_392 (lv_at hl 10 rfl) ?_
                                                    refine fp_iconst hx hb dL_isWell_394 ?_
                                                    refine fp_isub hx hb dL_isWell_395 ?_
                                                    refine fp_icmp_ne (tgt := 425) hx hb (by omega) dL_isWell_396 (by decide) (fun q396 => ?_) (fun q396 => ?_)
                                                    · skip
                                                      exfalso; omega
                                                    · skip
                                                      refine lv_aload_n hx hb dL_isWell_399 rfl (lv_at hl 1 rfl) ?_
                                                      refine lv_iload hx hb dL_isWell_400 (lv_at hl 11 rfl) ?_
                                                      refine fp_bipush hx hb dL_isWell_402 (by decide) ?_
                                                      refine fq_1 (As := [.int (iI (z93)), .int (iI (6))]) (rest := []) ⟨hx, hb, hml, hown, hts⟩ (oc_lot l D cyI A (c := c) (ny := ny) (x := tx) (n := tn) (k := z93) (w := 6) (by have h := hkp.1; omega) (by omega)) (cwV 2 hts gL_isWell_X7_lot rfl rfl rfl (by decide +kernel) ⟨Nat.le_of_ble_eq_true rfl, Nat.le_of_ble_eq_true rfl⟩) hK hT rfl hl.1 rfl (Nat.le_of_ble_eq_true rfl) dL_isWell_404 ⟨Nat.zero_le _, Nat.zero_le _⟩ (fun z404 q404_ hq404_ H locs hT => ?_)
                                                      obtain ⟨hz404, hr404⟩ := hq404_
                                                      have hz404 : z404 = ltR c z93 6 := hz404
                                                      subst hr404
                                                      have hz404 : z404 = bI (whC c z93 = 0) := hz404.trans (lq_6 (by rw [hz93]; exact hkp.1))
                                                      rw [hz93] at hz404
                                                      have hw01 := bI_rg (whC c (ownC c p) = 0)
                                                      refine fp_iconst hx hb dL_isWell_407 ?_
                                                      have jn47 : ∀ (b10 : Int), (b10 = bI (whC c (ownC c p) = 0)) → ∀ (H : Heap) (locs : List Loc), ST1 D cyI A (fp_A (OB cyI A I C ++ [])) sx.heap (c, ny, tx, tn) H locs → ∀ (ls : Array Slot), lv_has ls 14 [(0, .ref (A 0)), (1, .int (iI (z3))), (2, .int (iI (z10))), (3, .int (iI (pl + b1))), (4, .int (iI (bl2 + b2))), (5, .int (iI (be + b3))), (6, .int (iI (0))), (7, .int (iI (fc + b9))), (8, .int (iI (1))), (9, .int (iI (p))), (10, .int (iI (z84))), (11, .int (iI (z93))), (12, .int (iI (z102))), (13, .int (iI (it)))] → W pg l en ({ frames := 7, cells := 0, slots := 0, locals := 171 } : Room) sx mi ar bl mt cd H locs 0 0 (MQ bl (fp_Qw D (OB cyI A I C ++ []) (fun u : SS1 => GO u.1 u.2.1 u.2.2 ∧ (fun q : OS => (q.1, q.2.1, q.2.2.1, q.2.2.2) = (c, ny, tx, tn)) u.2.2) (fun _ : SS1 => some (.int (iI 1))) (fun u : SS1 => OB cyI A u.1 u.2.1 ++ [])) ar sx 0 0 (fp_A (OB cyI A I C ++ []))) (F0 mi 416 ls [.int (iI (b10))]) := by
                                                        intro b10 hb10 H locs hT ls hl
                                                        have hg := hT.go
                                                        dsimp only at hg
                                                        refine lv_iload hx hb dL_isWell_416 (lv_at hl 13 rfl) ?_
                                                        refine fp_icmp_ne (tgt := 425) hx hb (by omega) dL_isWell_418 (by decide) (fun q418 => ?_) (fun q418 => ?_)
                                                        · skip
                                                          exfalso; omega
                                                        · skip
                                                          refine fp_iconst hx hb dL_isWell_421 ?_
                                                          refine lv_goto (tgt := 426) hx hb dL_isWell_422 (by decide) ?_
                                                          refine lv_istore (lv' := [(8, .int (iI (1))), (0, .ref (A 0)), (1, .int (iI (z3))), (2, .int (iI (z10))), (3, .int (iI (pl + b1))), (4, .int (iI (bl2 + b2))), (5, .int (iI (be + b3))), (6, .int (iI (0))), (7, .int (iI (fc + b9))), (9, .int (iI (p))), (10, .int (iI (z84))), (11, .int (iI (z93))), (12, .int (iI (z102))), (13, .int (iI (it)))]) hx hb dL_isWell_426 hl (by decide) rfl (fun ls hl => ?_)
                                                          exact jn40 (fc + b9) (by first | (rw [fFc_n (by omega)]; omega) | rw [hb9, hit2, fFc_p hpk]) H locs hT ls (lv_sub hl [1, 2, 3, 4, 5, 6, 7, 8, 0, 9, 10, 11, 12] rfl)
                                                      refine fp_icmp_ne (tgt := 415) hx hb (by omega) dL_isWell_408 (by decide) (fun q408 => ?_) (fun q408 => ?_)
                                                      · skip
                                                        refine fp_iconst hx hb dL_isWell_415 ?_
                                                        exact jn47 0 (by omega) H locs hT ls (lv_sub hl [1, 2, 3, 4, 5, 6, 7, 0, 8, 9, 10, 11, 12, 13] rfl)
                                                      · skip
                                                        refine fp_iconst hx hb dL_isWell_411 ?_
                                                        refine lv_goto (tgt := 416) hx hb dL_isWell_412 (by decide) ?_
                                                        exact jn47 1 (by omega) H locs hT ls (lv_sub hl [1, 2, 3, 4, 5, 6, 7, 0, 8, 9, 10, 11, 12, 13] rfl)
                                              refine fp_if_eq (tgt := 364) hx hb (by omega) dL_isWell_357 (by decide) (fun q357 => ?_) (fun q357 => ?_)
                                              · skip
                                                refine fp_iconst hx hb dL_isWell_364 ?_
                                                exact jn43 0 (by omega) H locs hT ls (lv_sub hl [1, 2, 3, 4, 5, 6, 7, 8, 9, 10, 11, 12, 13, 0] rfl)
                                              · skip
                                                refine fp_iconst hx hb dL_isWell_360 ?_
                                                refine lv_goto (tgt := 365) hx hb dL_isWell_361 (by decide) ?_
                                                exact jn43 1 (by omega) H locs hT ls (lv_sub hl [1, 2, 3, 4, 5, 6, 7, 8, 9, 10, 11, 12, 13, 0] rfl)
                                            refine fp_icmp_eq (tgt := 350) hx hb (by omega) dL_isWell_320 (by decide) (fun q320 => ?_) (fun q320 => ?_)
                                            · skip
                                              refine fp_iconst hx hb dL_isWell_350 ?_
                                              exact jn42 0 (by first | exact (bI_t (hit.mpr ⟨by omega, by rw [← hz102, ← hz327, ← hz93]; omega, by rw [← hz102, ← hz339]; omega⟩)).symm | exact (bI_f (fun z => by have h := hit.mp z; rw [← hz102] at h; omega)).symm) H locs hT ls (lv_sub hl [0, 1, 2, 3, 4, 5, 6, 7, 8, 9, 10, 11, 12] rfl)
                                            · skip
                                              refine lv_aload_n hx hb dL_isWell_323 rfl (lv_at hl 0 rfl) ?_
                                              refine lv_iload hx hb dL_isWell_324 (lv_at hl 12 rfl) ?_
                                              refine fp_iconst hx hb dL_isWell_326 ?_
                                              refine fq_1 (As := [.int (iI (z102)), .int (iI (0))]) (rest := []) ⟨hx, hb, hml, hown, hts⟩ (oc_page l D cyI A (c := c) (ny := ny) (x := tx) (n := tn) (q := z102) (w := 0) (by omega) (by omega)) (cwV 2 hts gL_isWell_X7_page rfl rfl rfl (by decide +kernel) ⟨Nat.le_of_ble_eq_true rfl, Nat.le_of_ble_eq_true rfl⟩) hK hT rfl hl.1 rfl (Nat.le_of_ble_eq_true rfl) dL_isWell_327 ⟨Nat.zero_le _, Nat.zero_le _⟩ (fun z327 q327_ hq327_ H locs hT => ?_)
                                              obtain ⟨hz327, hr327⟩ := hq327_
                                              have hz327 : z327 = pgR c z102 0 := hz327
                                              subst hr327
                                              have hz327 : z327 = ownC c z102 := hz327.trans (pq_0 (by omega)).1
                                              have hkr2 := kind_rg hC0 (p := z102) (by omega)
                                              refine lv_iload hx hb dL_isWell_330 (lv_at hl 11 rfl) ?_
                                              refine fp_icmp_ne (tgt := 350) hx hb (by omega) dL_isWell_332 (by decide) (fun q332 => ?_) (fun q332 => ?_)
                                              · skip
                                                refine fp_iconst hx hb dL_isWell_350 ?_
                                                exact jn42 0 (by first | exact (bI_t (hit.mpr ⟨by omega, by rw [← hz102, ← hz327, ← hz93]; omega, by rw [← hz102, ← hz339]; omega⟩)).symm | exact (bI_f (fun z => by have h := hit.mp z; rw [← hz102] at h; omega)).symm) H locs hT ls (lv_sub hl [0, 1, 2, 3, 4, 5, 6, 7, 8, 9, 10, 11, 12] rfl)
                                              · skip
                                                refine lv_aload_n hx hb dL_isWell_335 rfl (lv_at hl 0 rfl) ?_
                                                refine lv_iload hx hb dL_isWell_336 (lv_at hl 12 rfl) ?_
                                                refine fp_iconst hx hb dL_isWell_338 ?_
                                                refine fq_1 (As := [.int (iI (z102)), .int (iI (1))]) (rest := []) ⟨hx, hb, hml, hown, hts⟩ (oc_page l D cyI A (c := c) (ny := ny) (x := tx) (n := tn) (q := z102) (w := 1) (by omega) (by omega)) (cwV 2 hts gL_isWell_X7_page rfl rfl rfl (by decide +kernel) ⟨Nat.le_of_ble_eq_true rfl, Nat.le_of_ble_eq_true rfl⟩) hK hT rfl hl.1 rfl (Nat.le_of_ble_eq_true rfl) dL_isWell_339 ⟨Nat.zero_le _, Nat.zero_le _⟩ (fun z339 q339_ hq339_ H locs hT => ?_)
                                                obtain ⟨hz339, hr339⟩ := hq339_
                                                have hz339 : z339 = pgR c z102 1 := hz339
                                                subst hr339
                                                have hz339 : z339 = kindC c z102 := hz339.trans (pq_0 (by omega)).2.1
                                                refine fp_iconst hx hb dL_isWell_342 ?_
                                                refine fp_icmp_ne (tgt := 350) hx hb (by omega) dL_isWell_343 (by decide) (fun q343 => ?_) (fun q343 => ?_)
                                                · skip
                                                  refine fp_iconst hx hb dL_isWell_350 ?_
                                                  exact jn42 0 (by first | exact (bI_t (hit.mpr ⟨by omega, by rw [← hz102, ← hz327, ← hz93]; omega, by rw [← hz102, ← hz339]; omega⟩)).symm | exact (bI_f (fun z => by have h := hit.mp z; rw [← hz102] at h; omega)).symm) H locs hT ls (lv_sub hl [0, 1, 2, 3, 4, 5, 6, 7, 8, 9, 10, 11, 12] rfl)
                                                · skip
                                                  refine fp_iconst hx hb dL_isWell_346 ?_
                                                  refine lv_goto (tgt := 351) hx hb dL_isWell_347 (by decide) ?_
                                                  exact jn42 1 (by first | exact (bI_t (hit.mpr ⟨by omega, by rw [← hz102, ← hz327, ← hz93]; omega, by rw [← hz102, ← hz339]; omega⟩)).symm | exact (bI_f (fun z => by have h := hit.mp z; rw [← hz102] at h; omega)).symm) H locs hT ls (lv_sub hl [0, 1, 2, 3, 4, 5, 6, 7, 8, 9, 10, 11, 12] rfl)
                                          refine fp_icmp_eq (tgt := 316) hx hb (by omega) dL_isWell_307 (by decide) (fun q307 => ?_) (fun q307 => ?_)
                                          · skip
                                            exact jn41  (by omega) H locs hT ls (lv_sub hl [1, 2, 3, 4, 5, 6, 7, 8, 0, 9, 10, 11, 12] rfl)
                                          · skip
                                            refine lv_iload hx hb dL_isWell_310 (lv_at hl 10 rfl) ?_
                                            refine fp_iconst hx hb dL_isWell_312 ?_
                                            refine fp_icmp_ne (tgt := 428) hx hb (by omega) dL_isWell_313 (by decide) (fun q313 => ?_) (fun q313 => ?_)
                                            · skip
                                              exact jn40 fc (by first | (rw [fFc_n (by omega)]; omega) | rw [hb9, hit2, fFc_p hpk]) H locs hT ls (lv_sub hl [1, 2, 3, 4, 5, 6, 7, 8, 0, 9, 10, 11, 12] rfl)
                                            · skip
                                              exact jn41  (by omega) H locs hT ls (lv_sub hl [1, 2, 3, 4, 5, 6, 7, 8, 0, 9, 10, 11, 12] rfl)
                                        refine fp_icmp_ne (tgt := 267) hx hb (by omega) dL_isWell_249 (by decide) (fun q249 => ?_) (fun q249 => ?_)
                                        · skip
                                          refine lv_aload_n hx hb dL_isWell_267 rfl (lv_at hl 0 rfl) ?_
                                          refine lv_iload hx hb dL_isWell_268 (lv_at hl 12 rfl) ?_
                                          refine fp_iconst hx hb dL_isWell_270 ?_
                                          refine fq_1 (As := [.int (iI (z102)), .int (iI (4))]) (rest := []) ⟨hx, hb, hml, hown, hts⟩ (oc_page l D cyI A (c := c) (ny := ny) (x := tx) (n := tn) (q := z102) (w := 4) (by omega) (by omega)) (cwV 2 hts gL_isWell_X7_page rfl rfl rfl (by decide +kernel) ⟨Nat.le_of_ble_eq_true rfl, Nat.le_of_ble_eq_true rfl⟩) hK hT rfl hl.1 rfl (Nat.le_of_ble_eq_true rfl) dL_isWell_271 ⟨Nat.zero_le _, Nat.zero_le _⟩ (fun z271 q271_ hq271_ H locs hT => ?_)
                                          obtain ⟨hz271, hr271⟩ := hq271_
                                          have hz271 : z271 = pgR c z102 4 := hz271
                                          subst hr271
                                          have hz271 : z271 = othI z102 (laC c) := hz271.trans (pq_0 (by omega)).2.2.2.2
                                          have hz271b : z271 = p := by
                                            rw [hz271, hz102]
                                            rcases ho2 with h | h
                                            · omega
                                            · exact h.2.2.1
                                          refine lv_iload hx hb dL_isWell_274 (lv_at hl 9 rfl) ?_
                                          refine fp_icmp_ne (tgt := 301) hx hb (by omega) dL_isWell_276 (by decide) (fun q276 => ?_) (fun q276 => ?_)
                                          · skip
                                            exfalso; omega
                                          · skip
                                            refine lv_iload hx hb dL_isWell_279 (lv_at hl 12 rfl) ?_
                                            refine lv_iload hx hb dL_isWell_281 (lv_at hl 9 rfl) ?_
                                            refine fp_isub hx hb dL_isWell_283 ?_
                                            refine fp_iconst hx hb dL_isWell_284 ?_
                                            refine fp_icmp_eq (tgt := 297) hx hb (by omega) dL_isWell_285 (by decide) (fun q285 => ?_) (fun q285 => ?_)
                                            · skip
                                              exact jn39   H locs hT ls (lv_sub hl [0, 1, 2, 3, 4, 5, 6, 7, 8, 9, 10, 11, 12] rfl)
                                            · skip
                                              refine lv_iload hx hb dL_isWell_288 (lv_at hl 9 rfl) ?_
                                              refine lv_iload hx hb dL_isWell_290 (lv_at hl 12 rfl) ?_
                                              refine fp_isub hx hb dL_isWell_292 ?_
                                              refine fp_iconst hx hb dL_isWell_293 ?_
                                              refine fp_icmp_ne (tgt := 301) hx hb (by omega) dL_isWell_294 (by decide) (fun q294 => ?_) (fun q294 => ?_)
                                              · skip
                                                exfalso; omega
                                              · skip
                                                exact jn39   H locs hT ls (lv_sub hl [0, 1, 2, 3, 4, 5, 6, 7, 8, 9, 10, 11, 12] rfl)
                                        · skip
                                          refine lv_iload hx hb dL_isWell_252 (lv_at hl 9 rfl) ?_
                                          refine fp_iconst hx hb dL_isWell_254 ?_
                                          refine fp_icmp_eq (tgt := 297) hx hb (by omega) dL_isWell_255 (by decide) (fun q255 => ?_) (fun q255 => ?_)
                                          · skip
                                            exact jn39   H locs hT ls (lv_sub hl [0, 1, 2, 3, 4, 5, 6, 7, 8, 9, 10, 11, 12] rfl)
                                          · skip
                                            refine lv_iload hx hb dL_isWell_258 (lv_at hl 9 rfl) ?_
                                            refine lv_iload_n hx hb dL_isWell_260 rfl (lv_at hl 2 rfl) ?_
                                            refine fp_icmp_ne (tgt := 301) hx hb (by omega) dL_isWell_261 (by decide) (fun q261 => ?_) (fun q261 => ?_)
                                            · skip
                                              exfalso; omega
                                            · skip
                                              refine lv_goto (tgt := 297) hx hb dL_isWell_264 (by decide) ?_
                                              exact jn39   H locs hT ls (lv_sub hl [0, 1, 2, 3, 4, 5, 6, 7, 8, 9, 10, 11, 12] rfl)
                                  refine fp_icmp_le (tgt := 225) hx hb (by omega) dL_isWell_218 (by decide) (fun q218 => ?_) (fun q218 => ?_)
                                  · skip
                                    refine fp_iconst hx hb dL_isWell_225 ?_
                                    exact jn36 0 (by first | exact (bI_t (by omega)).symm | exact (bI_f (by omega)).symm) H locs hT ls (lv_sub hl [0, 1, 2, 3, 4, 5, 6, 7, 8, 9, 10, 11, 12] rfl)
                                  · skip
                                    refine fp_iconst hx hb dL_isWell_221 ?_
                                    refine lv_goto (tgt := 226) hx hb dL_isWell_222 (by decide) ?_
                                    exact jn36 1 (by first | exact (bI_t (by omega)).symm | exact (bI_f (by omega)).symm) H locs hT ls (lv_sub hl [0, 1, 2, 3, 4, 5, 6, 7, 8, 9, 10, 11, 12] rfl)
                                refine fp_icmp_ne (tgt := 210) hx hb (by omega) dL_isWell_203 (by decide) (fun q203 => ?_) (fun q203 => ?_)
                                · skip
                                  refine fp_iconst hx hb dL_isWell_210 ?_
                                  exact jn35 0 (by first | exact (bI_t (by omega)).symm | exact (bI_f (by omega)).symm) H locs hT ls (lv_sub hl [0, 1, 2, 3, 4, 5, 6, 7, 8, 9, 10, 11, 12] rfl)
                                · skip
                                  refine fp_iconst hx hb dL_isWell_206 ?_
                                  refine lv_goto (tgt := 211) hx hb dL_isWell_207 (by decide) ?_
                                  exact jn35 1 (by first | exact (bI_t (by omega)).symm | exact (bI_f (by omega)).symm) H locs hT ls (lv_sub hl [0, 1, 2, 3, 4, 5, 6, 7, 8, 9, 10, 11, 12] rfl)
                            refine fp_if_eq (tgt := 192) hx hb (by omega) dL_isWell_183 (by decide) (fun q183 => ?_) (fun q183 => ?_)
                            · skip
                              refine fp_iconst hx hb dL_isWell_192 ?_
                              refine lv_goto (tgt := 197) hx hb dL_isWell_193 (by decide) ?_
                              exact jn33 1 (by first | exact (bI_t (by omega)).symm | exact (bI_f (by omega)).symm) H locs hT ls (lv_sub hl [0, 1, 2, 3, 4, 5, 6, 7, 8, 9, 10, 11, 12] rfl)
                            · skip
                              refine lv_iload hx hb dL_isWell_186 (lv_at hl 10 rfl) ?_
                              refine fp_iconst hx hb dL_isWell_188 ?_
                              refine fp_icmp_ne (tgt := 196) hx hb (by omega) dL_isWell_189 (by decide) (fun q189 => ?_) (fun q189 => ?_)
                              · skip
                                refine fp_iconst hx hb dL_isWell_196 ?_
                                exact jn33 0 (by first | exact (bI_t (by omega)).symm | exact (bI_f (by omega)).symm) H locs hT ls (lv_sub hl [0, 1, 2, 3, 4, 5, 6, 7, 8, 9, 10, 11, 12] rfl)
                              · skip
                                refine fp_iconst hx hb dL_isWell_192 ?_
                                refine lv_goto (tgt := 197) hx hb dL_isWell_193 (by decide) ?_
                                exact jn33 1 (by first | exact (bI_t (by omega)).symm | exact (bI_f (by omega)).symm) H locs hT ls (lv_sub hl [0, 1, 2, 3, 4, 5, 6, 7, 8, 9, 10, 11, 12] rfl)
                          refine fp_icmp_ne (tgt := 180) hx hb (by omega) dL_isWell_173 (by decide) (fun q173 => ?_) (fun q173 => ?_)
                          · skip
                            refine fp_iconst hx hb dL_isWell_180 ?_
                            exact jn32 0 (by first | exact (bI_t (by omega)).symm | exact (bI_f (by omega)).symm) H locs hT ls (lv_sub hl [1, 2, 3, 4, 5, 0, 6, 7, 8, 9, 10, 11, 12] rfl)
                          · skip
                            refine fp_iconst hx hb dL_isWell_176 ?_
                            refine lv_goto (tgt := 181) hx hb dL_isWell_177 (by decide) ?_
                            exact jn32 1 (by first | exact (bI_t (by omega)).symm | exact (bI_f (by omega)).symm) H locs hT ls (lv_sub hl [1, 2, 3, 4, 5, 0, 6, 7, 8, 9, 10, 11, 12] rfl)
                    refine fp_icmp_ne (tgt := 154) hx hb (by omega) dL_isWell_147 (by decide) (fun q147 => ?_) (fun q147 => ?_)
                    · skip
                      refine fp_iconst hx hb dL_isWell_154 ?_
                      exact jn29 0 (by first | exact (show fBe c p = _ from bI_t (by omega)).symm | exact (show fBe c p = _ from bI_f (by omega)).symm) H locs hT ls (lv_sub hl [1, 2, 3, 4, 0, 5, 6, 7, 8, 9, 10, 11, 12] rfl)
                    · skip
                      refine fp_iconst hx hb dL_isWell_150 ?_
                      refine lv_goto (tgt := 155) hx hb dL_isWell_151 (by decide) ?_
                      exact jn29 1 (by first | exact (show fBe c p = _ from bI_t (by omega)).symm | exact (show fBe c p = _ from bI_f (by omega)).symm) H locs hT ls (lv_sub hl [1, 2, 3, 4, 0, 5, 6, 7, 8, 9, 10, 11, 12] rfl)
                  refine fp_if_ne (tgt := 138) hx hb (by omega) dL_isWell_131 (by decide) (fun q131 => ?_) (fun q131 => ?_)
                  · skip
                    refine fp_iconst hx hb dL_isWell_138 ?_
                    exact jn28 0 (by first | exact (show fBl c p = _ from bI_t (by omega)).symm | exact (show fBl c p = _ from bI_f (by omega)).symm) H locs hT ls (lv_sub hl [1, 2, 3, 0, 4, 5, 6, 7, 8, 9, 10, 11, 12] rfl)
                  · skip
                    refine fp_iconst hx hb dL_isWell_134 ?_
                    refine lv_goto (tgt := 139) hx hb dL_isWell_135 (by decide) ?_
                    exact jn28 1 (by first | exact (show fBl c p = _ from bI_t (by omega)).symm | exact (show fBl c p = _ from bI_f (by omega)).symm) H locs hT ls (lv_sub hl [1, 2, 3, 0, 4, 5, 6, 7, 8, 9, 10, 11, 12] rfl)
                refine fp_icmp_eq (tgt := 120) hx hb (by omega) dL_isWell_111 (by decide) (fun q111 => ?_) (fun q111 => ?_)
                · skip
                  refine fp_iconst hx hb dL_isWell_120 ?_
                  refine lv_goto (tgt := 125) hx hb dL_isWell_121 (by decide) ?_
                  exact jn27 1 (by first | exact (show fPl c p = _ from bI_t (by omega)).symm | exact (show fPl c p = _ from bI_f (by omega)).symm) H locs hT ls (lv_sub hl [3, 4, 5, 6, 7, 8, 9, 10, 11, 12, 2, 1, 0] rfl)
                · skip
                  refine lv_iload hx hb dL_isWell_114 (lv_at hl 2 rfl) ?_
                  refine fp_iconst hx hb dL_isWell_116 ?_
                  refine fp_icmp_ne (tgt := 124) hx hb (by omega) dL_isWell_117 (by decide) (fun q117 => ?_) (fun q117 => ?_)
                  · skip
                    refine fp_iconst hx hb dL_isWell_124 ?_
                    exact jn27 0 (by first | exact (show fPl c p = _ from bI_t (by omega)).symm | exact (show fPl c p = _ from bI_f (by omega)).symm) H locs hT ls (lv_sub hl [3, 4, 5, 6, 7, 8, 9, 10, 11, 12, 2, 1, 0] rfl)
                  · skip
                    refine fp_iconst hx hb dL_isWell_120 ?_
                    refine lv_goto (tgt := 125) hx hb dL_isWell_121 (by decide) ?_
                    exact jn27 1 (by first | exact (show fPl c p = _ from bI_t (by omega)).symm | exact (show fPl c p = _ from bI_f (by omega)).symm) H locs hT ls (lv_sub hl [3, 4, 5, 6, 7, 8, 9, 10, 11, 12, 2, 1, 0] rfl)
        exact lp3 (((laC c + 1 : Int) + 1 - (1)).toNat) 1 0 0 0 0 (by omega) rfl rfl rfl rfl (by omega) H locs hT ls hl
