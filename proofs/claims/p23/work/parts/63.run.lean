theorem init_C : CatOK (upI (upI (upI (upI (upI (fun _ => 0) 49 8) 50 10) 51 20) 52 1) 53 100) := by
  have e0 : (upI (upI (upI (upI (upI (fun _ => 0) 49 8) 50 10) 51 20) 52 1) 53 100) 0 = 0 := rfl
  refine ⟨by rw [e0]; omega, fun k a b => by rw [e0] at b; omega, ?_⟩
  have s0 : (upI (upI (upI (upI (upI (fun _ => 0) 49 8) 50 10) 51 20) 52 1) 53 100) (49 + 0) = 8 := rfl
  have s1 : (upI (upI (upI (upI (upI (fun _ => 0) 49 8) 50 10) 51 20) 52 1) 53 100) (49 + 1) = 10 := rfl
  have s2 : (upI (upI (upI (upI (upI (fun _ => 0) 49 8) 50 10) 51 20) 52 1) 53 100) (49 + 2) = 20 := rfl
  have s3 : (upI (upI (upI (upI (upI (fun _ => 0) 49 8) 50 10) 51 20) 52 1) 53 100) (49 + 3) = 1 := rfl
  have s4 : (upI (upI (upI (upI (upI (fun _ => 0) 49 8) 50 10) 51 20) 52 1) 53 100) (49 + 4) = 100 := rfl
  rw [s0, s1, s2, s3, s4]
  unfold SetOK
  omega
def iniA (l : List Nat) : Nat → Nat := fun j => l.getD j 0
def iniI : Nat → Int := fun _ => 0
def iniC : Nat → Int → Int := fun j => [(upI (upI (upI (upI (upI (fun _ => 0) 49 8) 50 10) 51 20) 52 1) 53 100), (upI (upI (upI (upI (upI (fun _ => 0) 49 8) 50 10) 51 20) 52 1) 53 100), (upI (upI (upI (upI (upI (fun _ => 0) 49 8) 50 10) 51 20) 52 1) 53 100), fun _ => 0, fun _ => 0, (upI (upI (upI (upI (upI (fun _ => 0) 49 8) 50 10) 51 20) 52 1) 53 100), fun _ => 0, fun _ => 0, fun _ => 0, fun _ => 0, fun _ => 0, fun _ => 0, (upI (upI (upI (upI (upI (fun _ => 0) 49 8) 50 10) 51 20) 52 1) 53 100)].getD j (fun _ => 0)
theorem init_G : GO iniI iniC ((upI (upI (upI (upI (upI (fun _ => 0) 49 8) 50 10) 51 20) 52 1) 53 100), 0, fun _ => 0, 0) := by
  refine ⟨⟨⟨rfl, rfl⟩, rfl, rfl⟩, ⟨init_C, ?_⟩, ⟨fun i a b => absurd b (by show ¬ i < 0; omega), ?_⟩, ⟨fun j => ?_, ?_⟩⟩
  · show (0 : Int) ≤ 9; omega
  · show (0 : Int) ≤ 0 ∧ (0 : Int) ≤ 4; omega
  · show (0 : Int) ≤ 0 ∧ (0 : Int) ≤ 65535; omega
  · show (0 : Int) ≤ 0 ∧ (0 : Int) ≤ 60; omega
theorem ST.st {D : va_G} {cyI : ClassId} {A B : Nat → Nat} {A0 : Nat → Prop} {H0 : Heap} {q r : OS} {H : Heap} {locs : List Loc} (h : ST D cyI A B A0 H0 q r H locs) : va_S A0 H0 H locs := by
  obtain ⟨_, _, _, _, -, -, -, hS⟩ := h
  exact hS
set_option maxHeartbeats 8000000 in
set_option maxRecDepth 100000 in
theorem law_run {pg : Program} {l : Launch} {en : Env} {sx : State} {mi : MethodId} {bl : List Frame} {mt : Method} {cd : Code} {D : va_G} {cyI : ClassId} {b L : Nat} {xs : Nat → Int32} {A B : Nat → Nat} {c : Int → Int} {ny : Int} {tx : Int → Int} {tn : Int} {e : Int → Int} {my : Int} {ux : Int → Int} {un : Int} (hx : pg.tables.exec = Jvm.exec) (hb : cd.code = code) (hml : cd.maxLocals = 5) (hown : sx.vm.findClass RL = some mi.cls) (hts : ∀ w ∈ wsL_law, w.before #[Value.ref b] sx = true) (hK : fp_K D cyI sx) (hX : va_X b L xs sx sx.heap) (hbl : b < sx.heap.size) (hr : mt.sig.returnType = ret) (hlocks : mt.locks = false) (hL : L ≤ 260) (hcv : c (49 + 0) = 8 ∧ c (49 + 1) = 10 ∧ c (49 + 2) = 20 ∧ c (49 + 3) = 1 ∧ c (49 + 4) = 100) (hev : e (49 + 0) = 8 ∧ e (49 + 1) = 10 ∧ e (49 + 2) = 20 ∧ e (49 + 3) = 1 ∧ e (49 + 4) = 100) {H : Heap} {locs : List Loc} (hT : ST D cyI A B (fun q : Nat => sx.heap.size ≤ q) sx.heap (c, ny, tx, tn) (e, my, ux, un) H locs) {ls : Array Slot} (hl : lv_has ls 5 [(0, .ref b), (1, .ref (A 0)), (2, .ref (B 0))]) : W pg l en room_1 sx mi #[Value.ref b] bl mt cd H locs 74 2868 (lw_Z bl #[Value.ref b] sx) (F0 mi 16 ls []) := by
  have hg := hT.go
  dsimp only at hg
  have hcv : c (49 + 0) = 8 ∧ c (49 + 1) = 10 ∧ c (49 + 2) = 20 ∧ c (49 + 3) = 1 ∧ c (49 + 4) = 100 := hcv
  have hev : e (49 + 0) = 8 ∧ e (49 + 1) = 10 ∧ e (49 + 2) = 20 ∧ e (49 + 3) = 1 ∧ e (49 + 4) = 100 := hev
  refine lv_aload_n hx hb dL_law_16 rfl (lv_at hl 1 rfl) ?_
  refine fp_iconst hx hb dL_law_17 ?_
  refine fp_iconst hx hb dL_law_18 ?_
  have hk19 := hg.1.1.1
  refine fq_L (As := [.int (iI (4)), .int (iI (0))]) (rest := []) ⟨hx, hb, hml, hown, hts⟩ (oc_set l D cyI A (c := c) (ny := ny) (x := tx) (n := tn) (w := 4) (v := 0) (by omega) (by omega)) (cwV 2 hts gL_law_X7_set rfl rfl rfl (by decide +kernel) ⟨Nat.le_of_ble_eq_true rfl, Nat.le_of_ble_eq_true rfl⟩) hK hT rfl hl.1 rfl (Nat.le_of_ble_eq_true rfl) dL_law_19 ⟨Nat.le_of_ble_eq_true rfl, Nat.le_of_ble_eq_true rfl⟩ (fun z19 q19_ hq19_ H locs hT => ?_)
  obtain ⟨hz19, hr19⟩ := hq19_
  have hz19 : z19 = stR c 4 0 := hz19
  obtain ⟨c19, n19, x19_, n19_⟩ := q19_
  have hc19 : c19 = if 0 ≤ stR c 4 0 then upI c (49 + 4) 0 else c := congrArg (fun z : OS => z.1) hr19
  have hn19 : n19 = if 0 ≤ stR c 4 0 then recN ny else ny := congrArg (fun z : OS => z.2.1) hr19
  rw [show x19_ = tx from congrArg (fun z : OS => z.2.2.1) hr19, show n19_ = tn from congrArg (fun z : OS => z.2.2.2) hr19] at hT
  have hg := hT.go
  dsimp only at hg
  have hs19 := st_ok hk19 (w := 4) (v := 0) (by omega) (by omega) hc19
  have hz19 : z19 = 100 := by rw [hz19, hs19.2.2.1, if_neg (by omega)]; omega
  have v19_0 : c19 (49 + 0) = 8 := by first | exact hs19.1 | (rw [hs19.2.1 _ (by omega)]; omega)
  have v19_1 : c19 (49 + 1) = 10 := by first | exact hs19.1 | (rw [hs19.2.1 _ (by omega)]; omega)
  have v19_2 : c19 (49 + 2) = 20 := by first | exact hs19.1 | (rw [hs19.2.1 _ (by omega)]; omega)
  have v19_3 : c19 (49 + 3) = 1 := by first | exact hs19.1 | (rw [hs19.2.1 _ (by omega)]; omega)
  have v19_4 : c19 (49 + 4) = 0 := by first | exact hs19.1 | (rw [hs19.2.1 _ (by omega)]; omega)
  refine fp_bipush hx hb dL_law_22 (by decide) ?_
  refine fp_icmp_ne (tgt := 76) hx hb (by omega) dL_law_24 (by decide) (fun q24 => ?_) (fun q24 => ?_)
  · skip
    exfalso; omega
  · skip
    refine lv_aload_n hx hb dL_law_27 rfl (lv_at hl 2 rfl) ?_
    refine fp_iconst hx hb dL_law_28 ?_
    refine fp_iconst hx hb dL_law_29 ?_
    have hk30 := hg.2.1.1
    refine fq_R (As := [.int (iI (4)), .int (iI (0))]) (rest := []) ⟨hx, hb, hml, hown, hts⟩ (oc_set l D cyI B (c := e) (ny := my) (x := ux) (n := un) (w := 4) (v := 0) (by omega) (by omega)) (cwV 2 hts gL_law_X7_set rfl rfl rfl (by decide +kernel) ⟨Nat.le_of_ble_eq_true rfl, Nat.le_of_ble_eq_true rfl⟩) hK hT rfl hl.1 rfl (Nat.le_of_ble_eq_true rfl) dL_law_30 ⟨Nat.le_of_ble_eq_true rfl, Nat.le_of_ble_eq_true rfl⟩ (fun z30 q30_ hq30_ H locs hT => ?_)
    obtain ⟨hz30, hr30⟩ := hq30_
    have hz30 : z30 = stR e 4 0 := hz30
    obtain ⟨c30, n30, x30_, n30_⟩ := q30_
    have hc30 : c30 = if 0 ≤ stR e 4 0 then upI e (49 + 4) 0 else e := congrArg (fun z : OS => z.1) hr30
    have hn30 : n30 = if 0 ≤ stR e 4 0 then recN my else my := congrArg (fun z : OS => z.2.1) hr30
    rw [show x30_ = ux from congrArg (fun z : OS => z.2.2.1) hr30, show n30_ = un from congrArg (fun z : OS => z.2.2.2) hr30] at hT
    have hg := hT.go
    dsimp only at hg
    have hs30 := st_ok hk30 (w := 4) (v := 0) (by omega) (by omega) hc30
    have hz30 : z30 = 100 := by rw [hz30, hs30.2.2.1, if_neg (by omega)]; omega
    have v30_0 : c30 (49 + 0) = 8 := by first | exact hs30.1 | (rw [hs30.2.1 _ (by omega)]; omega)
    have v30_1 : c30 (49 + 1) = 10 := by first | exact hs30.1 | (rw [hs30.2.1 _ (by omega)]; omega)
    have v30_2 : c30 (49 + 2) = 20 := by first | exact hs30.1 | (rw [hs30.2.1 _ (by omega)]; omega)
    have v30_3 : c30 (49 + 3) = 1 := by first | exact hs30.1 | (rw [hs30.2.1 _ (by omega)]; omega)
    have v30_4 : c30 (49 + 4) = 0 := by first | exact hs30.1 | (rw [hs30.2.1 _ (by omega)]; omega)
    refine fp_bipush hx hb dL_law_33 (by decide) ?_
    refine fp_icmp_ne (tgt := 76) hx hb (by omega) dL_law_35 (by decide) (fun q35 => ?_) (fun q35 => ?_)
    · skip
      exfalso; omega
    · skip
      refine lv_aload_n hx hb dL_law_38 rfl (lv_at hl 2 rfl) ?_
      refine fp_iconst hx hb dL_law_39 ?_
      refine fp_bipush hx hb dL_law_40 (by decide) ?_
      have hk42 := hg.2.1.1
      refine fq_R (As := [.int (iI (1)), .int (iI (30))]) (rest := []) ⟨hx, hb, hml, hown, hts⟩ (oc_set l D cyI B (c := c30) (ny := n30) (x := ux) (n := un) (w := 1) (v := 30) (by omega) (by omega)) (cwV 2 hts gL_law_X7_set rfl rfl rfl (by decide +kernel) ⟨Nat.le_of_ble_eq_true rfl, Nat.le_of_ble_eq_true rfl⟩) hK hT rfl hl.1 rfl (Nat.le_of_ble_eq_true rfl) dL_law_42 ⟨Nat.le_of_ble_eq_true rfl, Nat.le_of_ble_eq_true rfl⟩ (fun z42 q42_ hq42_ H locs hT => ?_)
      obtain ⟨hz42, hr42⟩ := hq42_
      have hz42 : z42 = stR c30 1 30 := hz42
      obtain ⟨c42, n42, x42_, n42_⟩ := q42_
      have hc42 : c42 = if 0 ≤ stR c30 1 30 then upI c30 (49 + 1) 30 else c30 := congrArg (fun z : OS => z.1) hr42
      have hn42 : n42 = if 0 ≤ stR c30 1 30 then recN n30 else n30 := congrArg (fun z : OS => z.2.1) hr42
      rw [show x42_ = ux from congrArg (fun z : OS => z.2.2.1) hr42, show n42_ = un from congrArg (fun z : OS => z.2.2.2) hr42] at hT
      have hg := hT.go
      dsimp only at hg
      have hs42 := st_ok hk42 (w := 1) (v := 30) (by omega) (by omega) hc42
      have hz42 : z42 = 10 := by rw [hz42, hs42.2.2.1, if_neg (by omega)]; omega
      have v42_0 : c42 (49 + 0) = 8 := by first | exact hs42.1 | (rw [hs42.2.1 _ (by omega)]; omega)
      have v42_1 : c42 (49 + 1) = 30 := by first | exact hs42.1 | (rw [hs42.2.1 _ (by omega)]; omega)
      have v42_2 : c42 (49 + 2) = 20 := by first | exact hs42.1 | (rw [hs42.2.1 _ (by omega)]; omega)
      have v42_3 : c42 (49 + 3) = 1 := by first | exact hs42.1 | (rw [hs42.2.1 _ (by omega)]; omega)
      have v42_4 : c42 (49 + 4) = 0 := by first | exact hs42.1 | (rw [hs42.2.1 _ (by omega)]; omega)
      refine fp_bipush hx hb dL_law_45 (by decide) ?_
      refine fp_icmp_ne (tgt := 76) hx hb (by omega) dL_law_47 (by decide) (fun q47 => ?_) (fun q47 => ?_)
      · skip
        exfalso; omega
      · skip
        refine lv_aload_n hx hb dL_law_50 rfl (lv_at hl 2 rfl) ?_
        refine fp_iconst hx hb dL_law_51 ?_
        refine fp_bipush hx hb dL_law_52 (by decide) ?_
        have hk54 := hg.2.1.1
        refine fq_R (As := [.int (iI (2)), .int (iI (60))]) (rest := []) ⟨hx, hb, hml, hown, hts⟩ (oc_set l D cyI B (c := c42) (ny := n42) (x := ux) (n := un) (w := 2) (v := 60) (by omega) (by omega)) (cwV 2 hts gL_law_X7_set rfl rfl rfl (by decide +kernel) ⟨Nat.le_of_ble_eq_true rfl, Nat.le_of_ble_eq_true rfl⟩) hK hT rfl hl.1 rfl (Nat.le_of_ble_eq_true rfl) dL_law_54 ⟨Nat.le_of_ble_eq_true rfl, Nat.le_of_ble_eq_true rfl⟩ (fun z54 q54_ hq54_ H locs hT => ?_)
        obtain ⟨hz54, hr54⟩ := hq54_
        have hz54 : z54 = stR c42 2 60 := hz54
        obtain ⟨c54, n54, x54_, n54_⟩ := q54_
        have hc54 : c54 = if 0 ≤ stR c42 2 60 then upI c42 (49 + 2) 60 else c42 := congrArg (fun z : OS => z.1) hr54
        have hn54 : n54 = if 0 ≤ stR c42 2 60 then recN n42 else n42 := congrArg (fun z : OS => z.2.1) hr54
        rw [show x54_ = ux from congrArg (fun z : OS => z.2.2.1) hr54, show n54_ = un from congrArg (fun z : OS => z.2.2.2) hr54] at hT
        have hg := hT.go
        dsimp only at hg
        have hs54 := st_ok hk54 (w := 2) (v := 60) (by omega) (by omega) hc54
        have hz54 : z54 = 20 := by rw [hz54, hs54.2.2.1, if_neg (by omega)]; omega
        have v54_0 : c54 (49 + 0) = 8 := by first | exact hs54.1 | (rw [hs54.2.1 _ (by omega)]; omega)
        have v54_1 : c54 (49 + 1) = 30 := by first | exact hs54.1 | (rw [hs54.2.1 _ (by omega)]; omega)
        have v54_2 : c54 (49 + 2) = 60 := by first | exact hs54.1 | (rw [hs54.2.1 _ (by omega)]; omega)
        have v54_3 : c54 (49 + 3) = 1 := by first | exact hs54.1 | (rw [hs54.2.1 _ (by omega)]; omega)
        have v54_4 : c54 (49 + 4) = 0 := by first | exact hs54.1 | (rw [hs54.2.1 _ (by omega)]; omega)
        refine fp_bipush hx hb dL_law_57 (by decide) ?_
        refine fp_icmp_ne (tgt := 76) hx hb (by omega) dL_law_59 (by decide) (fun q59 => ?_) (fun q59 => ?_)
        · skip
          exfalso; omega
        · skip
          refine lv_aload_n hx hb dL_law_62 rfl (lv_at hl 2 rfl) ?_
          refine fp_iconst hx hb dL_law_63 ?_
          refine fp_iconst hx hb dL_law_64 ?_
          have hk65 := hg.2.1.1
          refine fq_R (As := [.int (iI (3)), .int (iI (3))]) (rest := []) ⟨hx, hb, hml, hown, hts⟩ (oc_set l D cyI B (c := c54) (ny := n54) (x := ux) (n := un) (w := 3) (v := 3) (by omega) (by omega)) (cwV 2 hts gL_law_X7_set rfl rfl rfl (by decide +kernel) ⟨Nat.le_of_ble_eq_true rfl, Nat.le_of_ble_eq_true rfl⟩) hK hT rfl hl.1 rfl (Nat.le_of_ble_eq_true rfl) dL_law_65 ⟨Nat.le_of_ble_eq_true rfl, Nat.le_of_ble_eq_true rfl⟩ (fun z65 q65_ hq65_ H locs hT => ?_)
          obtain ⟨hz65, hr65⟩ := hq65_
          have hz65 : z65 = stR c54 3 3 := hz65
          obtain ⟨c65, n65, x65_, n65_⟩ := q65_
          have hc65 : c65 = if 0 ≤ stR c54 3 3 then upI c54 (49 + 3) 3 else c54 := congrArg (fun z : OS => z.1) hr65
          have hn65 : n65 = if 0 ≤ stR c54 3 3 then recN n54 else n54 := congrArg (fun z : OS => z.2.1) hr65
          rw [show x65_ = ux from congrArg (fun z : OS => z.2.2.1) hr65, show n65_ = un from congrArg (fun z : OS => z.2.2.2) hr65] at hT
          have hg := hT.go
          dsimp only at hg
          have hs65 := st_ok hk65 (w := 3) (v := 3) (by omega) (by omega) hc65
          have hz65 : z65 = 1 := by rw [hz65, hs65.2.2.1, if_neg (by omega)]; omega
          have v65_0 : c65 (49 + 0) = 8 := by first | exact hs65.1 | (rw [hs65.2.1 _ (by omega)]; omega)
          have v65_1 : c65 (49 + 1) = 30 := by first | exact hs65.1 | (rw [hs65.2.1 _ (by omega)]; omega)
          have v65_2 : c65 (49 + 2) = 60 := by first | exact hs65.1 | (rw [hs65.2.1 _ (by omega)]; omega)
          have v65_3 : c65 (49 + 3) = 3 := by first | exact hs65.1 | (rw [hs65.2.1 _ (by omega)]; omega)
          have v65_4 : c65 (49 + 4) = 0 := by first | exact hs65.1 | (rw [hs65.2.1 _ (by omega)]; omega)
          refine fp_iconst hx hb dL_law_68 ?_
          refine fp_icmp_ne (tgt := 76) hx hb (by omega) dL_law_69 (by decide) (fun q69 => ?_) (fun q69 => ?_)
          · skip
            exfalso; omega
          · skip
            refine fp_iconst hx hb dL_law_72 ?_
            refine lv_goto (tgt := 77) hx hb dL_law_73 (by decide) ?_
            refine lv_istore_n (lv' := [(3, .int (iI (1))), (0, .ref b), (1, .ref (A 0)), (2, .ref (B 0))]) hx hb dL_law_77 rfl hl (by decide) rfl (fun ls hl => ?_)
            have hI0 : TrS c19 c65 := by
              unfold TrS
              rw [v19_0, v19_1, v19_2, v19_3, v19_4, v65_0, v65_1, v65_2, v65_3, v65_4]
              omega
            refine fp_iconst hx hb dL_law_78 ?_
            refine lv_istore (lv' := [(4, .int (iI (0))), (3, .int (iI (1))), (0, .ref b), (1, .ref (A 0)), (2, .ref (B 0))]) hx hb dL_law_79 hl (by decide) rfl (fun ls hl => ?_)
            have hl := lv_sub hl (l' := [(0, .ref b), (1, .ref (A 0)), (2, .ref (B 0)), (3, .int (iI (1))), (4, .int (iI (0)))]) [2, 3, 4, 1, 0] rfl
            have lp5 : ∀ (nf : Nat) (k : Int) (c2 : Int → Int) (n2 : Int) (x2 : Int → Int) (t2 : Int) (e2 : Int → Int) (m2 : Int) (u2 : Int → Int) (w2 : Int), (0 ≤ k ∧ k ≤ 42) → (TrS c2 e2) → (42 + 1 ≤ k + (nf : Int)) → ∀ (H : Heap) (locs : List Loc), ST D cyI A B (fun q : Nat => sx.heap.size ≤ q) sx.heap (c2, n2, x2, t2) (e2, m2, u2, w2) H locs → ∀ (ls : Array Slot), lv_has ls 5 [(0, .ref b), (1, .ref (A 0)), (2, .ref (B 0)), (3, .int (iI (1))), (4, .int (iI (k)))] → W pg l en room_1 sx mi #[Value.ref b] bl mt cd H locs 74 2868 (lw_Z bl #[Value.ref b] sx) (F0 mi 81 ls []) := by
              intro nf
              induction nf with
              | zero =>
                intro k c2 n2 x2 t2 e2 m2 u2 w2 ik jT hfuel
                exact absurd hfuel (by omega)
              | succ nf ih5 =>
                intro k c2 n2 x2 t2 e2 m2 u2 w2 ik jT hfuel H locs hT ls hl
                have hg := hT.go
                dsimp only at hg
                refine lv_iload hx hb dL_law_81 (lv_at hl 4 rfl) ?_
                refine fp_bipush hx hb dL_law_83 (by decide) ?_
                refine fp_icmp_ge (tgt := 158) hx hb (by omega) dL_law_85 (by decide) (fun q85 => ?_) (fun q85 => ?_)
                · skip
                  refine lv_iload_n hx hb dL_law_158 rfl (lv_at hl 3 rfl) ?_
                  refine fp_if_eq (tgt := 181) hx hb (by omega) dL_law_159 (by decide) (fun q159 => ?_) (fun q159 => ?_)
                  · skip
                    exfalso; omega
                  · skip
                    refine lv_aload_n hx hb dL_law_162 rfl (lv_at hl 1 rfl) ?_
                    refine fq_S1 (rest := []) ⟨hx, hb, hml, hown, hts⟩ (c_L_isWell l D cyI A (c := c2) (ny := n2) (tx := x2) (tn := t2) ) (va_cwS 1 hts gL_law_L_isWell rfl rfl rfl (by decide +kernel) ⟨Nat.le_of_ble_eq_true rfl, Nat.le_of_ble_eq_true rfl⟩) hK hT rfl hl.1 rfl (Nat.le_of_ble_eq_true rfl) dL_law_163 ⟨Nat.le_of_ble_eq_true rfl, Nat.le_of_ble_eq_true rfl⟩ (fun q163_ hq163_ H locs hT => ?_)
                    obtain ⟨c163, ny163, tx163, tn163⟩ := q163_
                    have hp163 : (c163, ny163, tx163, tn163) = (c2, n2, x2, t2) := hq163_
                    have hg := hT.go
                    dsimp only at hg
                    have jT2 : TrS c163 e2 := by rw [show c163 = c2 from congrArg (fun z : OS => z.1) hp163]; exact jT
                    refine fp_if_eq (tgt := 181) hx hb (by omega) dL_law_166 (by decide) (fun q166 => ?_) (fun q166 => ?_)
                    · skip
                      exfalso; omega
                    · skip
                      refine lv_aload_n hx hb dL_law_169 rfl (lv_at hl 1 rfl) ?_
                      refine lv_aload_n hx hb dL_law_170 rfl (lv_at hl 2 rfl) ?_
                      refine fq_S2 (As := []) (rest := []) ⟨hx, hb, hml, hown, hts⟩ (c_L_isAlike l D cyI A B (c := c163) (ny := ny163) (tx := tx163) (tn := tn163) (e := e2) (my := m2) (ux := u2) (un := w2) jT2) (va_cwS 2 hts gL_law_L_isAlike rfl rfl rfl (by decide +kernel) ⟨Nat.le_of_ble_eq_true rfl, Nat.le_of_ble_eq_true rfl⟩) hK hT rfl hl.1 rfl (Nat.le_of_ble_eq_true rfl) dL_law_171 ⟨Nat.le_of_ble_eq_true rfl, Nat.le_of_ble_eq_true rfl⟩ (fun q171_ r171_ hq171_ H locs hT => ?_)
                      obtain ⟨c171, ny171, tx171, tn171⟩ := q171_
                      obtain ⟨e171, my171, ux171, un171⟩ := r171_
                      have hp171 : TrS (c171) (e171) ∧ (c171, ny171, tx171, tn171) = (c163, ny163, tx163, tn163) := hq171_
                      have hg := hT.go
                      dsimp only at hg
                      refine fp_if_eq (tgt := 181) hx hb (by omega) dL_law_174 (by decide) (fun q174 => ?_) (fun q174 => ?_)
                      · skip
                        exfalso; omega
                      · skip
                        obtain ⟨_, _, _, _, -, -, -, hS⟩ := hT
                        refine lv_iconst (v := 1) hx hb dL_law_177 (by decide) ?_
                        refine lv_goto (tgt := 182) hx hb dL_law_178 (by decide) ?_
                        refine va_forget (fun q hq => hS.2.2 q hq) ?_
                        refine W.widen (k := 600000) (n := 7302249) (by decide) (by decide) ?_
                        exact lw_ret hx hb hr hlocks dL_law_182
                · skip
                  refine lv_iload_n hx hb dL_law_88 rfl (lv_at hl 3 rfl) ?_
                  refine fp_if_eq (tgt := 158) hx hb (by omega) dL_law_89 (by decide) (fun q89 => ?_) (fun q89 => ?_)
                  · skip
                    exfalso; omega
                  · skip
                    refine lv_aload_n hx hb dL_law_92 rfl (lv_at hl 1 rfl) ?_
                    refine lv_aload_n hx hb dL_law_93 rfl (lv_at hl 2 rfl) ?_
                    refine lv_aload_n hx hb dL_law_94 rfl (lv_at hl 0 rfl) ?_
                    refine lv_iload hx hb dL_law_95 (lv_at hl 4 rfl) ?_
                    have hS97 := hT.st
                    refine fq_C (rest := [.ref (B 0), .ref (A 0)]) ⟨hx, hb, hml, hown, hts⟩ (c_L_cell l (b := b) (L := L) (xs := xs) (k := k) (by omega) hL) (va_cwS 2 hts gL_law_L_cell rfl rfl rfl (by decide +kernel) ⟨Nat.le_of_ble_eq_true rfl, Nat.le_of_ble_eq_true rfl⟩) hX hbl hS97 rfl hl.1 rfl (Nat.le_of_ble_eq_true rfl) dL_law_97 ⟨Nat.le_of_ble_eq_true rfl, Nat.le_of_ble_eq_true rfl⟩ ?_
                    refine lv_aload_n hx hb dL_law_100 rfl (lv_at hl 0 rfl) ?_
                    refine lv_iload hx hb dL_law_101 (lv_at hl 4 rfl) ?_
                    refine fp_iconst hx hb dL_law_103 ?_
                    refine fp_iadd hx hb dL_law_104 ?_
                    have hS105 := hT.st
                    refine fq_C (rest := [.int (iI (celV L xs (k))), .ref (B 0), .ref (A 0)]) ⟨hx, hb, hml, hown, hts⟩ (c_L_cell l (b := b) (L := L) (xs := xs) (k := k + 1) (by omega) hL) (va_cwS 2 hts gL_law_L_cell rfl rfl rfl (by decide +kernel) ⟨Nat.le_of_ble_eq_true rfl, Nat.le_of_ble_eq_true rfl⟩) hX hbl hS105 rfl hl.1 rfl (Nat.le_of_ble_eq_true rfl) dL_law_105 ⟨Nat.le_of_ble_eq_true rfl, Nat.le_of_ble_eq_true rfl⟩ ?_
                    refine fp_iconst hx hb dL_law_108 ?_
                    refine fq_shr hx hb dL_law_109 (fun s109 hs109 => ?_)
                    refine fq_S2 (As := [.int (iI (celV L xs (k))), .int (iI (s109))]) (rest := []) ⟨hx, hb, hml, hown, hts⟩ (c_L_isStep l D cyI A B (c := c2) (ny := n2) (tx := x2) (tn := t2) (e := e2) (my := m2) (ux := u2) (un := w2) (xa := celV L xs (k)) (ya := s109) jT) (va_cwS 4 hts gL_law_L_isStep rfl rfl rfl (by decide +kernel) ⟨Nat.le_of_ble_eq_true rfl, Nat.le_of_ble_eq_true rfl⟩) hK hT rfl hl.1 rfl (Nat.le_of_ble_eq_true rfl) dL_law_110 ⟨Nat.le_of_ble_eq_true rfl, Nat.le_of_ble_eq_true rfl⟩ (fun q110_ r110_ hq110_ H locs hT => ?_)
                    obtain ⟨c110, ny110, tx110, tn110⟩ := q110_
                    obtain ⟨e110, my110, ux110, un110⟩ := r110_
                    have hp110 : TrS (c110) (e110) := hq110_
                    have hg := hT.go
                    dsimp only at hg
                    refine fp_if_eq (tgt := 150) hx hb (by omega) dL_law_113 (by decide) (fun q113 => ?_) (fun q113 => ?_)
                    · skip
                      exfalso; omega
                    · skip
                      refine lv_iload hx hb dL_law_116 (lv_at hl 4 rfl) ?_
                      refine fp_iconst hx hb dL_law_118 ?_
                      refine fp_irem hx hb (by omega) dL_law_119 ?_
                      have jn12 : ∀ (c3 : Int → Int) (n3 : Int) (x3 : Int → Int) (t3 : Int), (TrS c3 e110) → ∀ (H : Heap) (locs : List Loc), ST D cyI A B (fun q : Nat => sx.heap.size ≤ q) sx.heap (c3, n3, x3, t3) (e110, my110, ux110, un110) H locs → ∀ (ls : Array Slot), lv_has ls 5 [(0, .ref b), (1, .ref (A 0)), (2, .ref (B 0)), (3, .int (iI (1))), (4, .int (iI (k)))] → W pg l en room_1 sx mi #[Value.ref b] bl mt cd H locs 74 2868 (lw_Z bl #[Value.ref b] sx) (F0 mi 130 ls []) := by
                        intro c3 n3 x3 t3 jT3 H locs hT ls hl
                        have hg := hT.go
                        dsimp only at hg
                        refine lv_iload hx hb dL_law_130 (lv_at hl 4 rfl) ?_
                        refine fp_bipush hx hb dL_law_132 (by decide) ?_
                        refine fp_irem hx hb (by omega) dL_law_134 ?_
                        refine fp_if_gt (tgt := 146) hx hb (by omega) dL_law_135 (by decide) (fun q135 => ?_) (fun q135 => ?_)
                        · skip
                          refine fp_iconst hx hb dL_law_146 ?_
                          refine lv_goto (tgt := 151) hx hb dL_law_147 (by decide) ?_
                          refine lv_istore_n (lv' := [(3, .int (iI (1))), (0, .ref b), (1, .ref (A 0)), (2, .ref (B 0)), (4, .int (iI (k)))]) hx hb dL_law_151 rfl hl (by decide) rfl (fun ls hl => ?_)
                          refine fp_iinc (k := 4) (lv' := [(4, .int (iI (k + 1))), (3, .int (iI (1))), (0, .ref b), (1, .ref (A 0)), (2, .ref (B 0))]) hx hb dL_law_152 hl rfl (by decide) rfl (fun ls hl => ?_)
                          refine lv_goto (tgt := 81) hx hb dL_law_155 (by decide) ?_
                          have hJT := jT3
                          exact ih5 (k + 1) c3 n3 x3 t3 e110 my110 ux110 un110 (by omega) hJT (by omega) H locs hT ls (lv_sub hl [2, 3, 4, 1, 0] rfl)
                        · skip
                          refine lv_aload_n hx hb dL_law_138 rfl (lv_at hl 1 rfl) ?_
                          refine lv_aload_n hx hb dL_law_139 rfl (lv_at hl 2 rfl) ?_
                          refine fq_S2 (As := []) (rest := []) ⟨hx, hb, hml, hown, hts⟩ (c_L_isAlike l D cyI A B (c := c3) (ny := n3) (tx := x3) (tn := t3) (e := e110) (my := my110) (ux := ux110) (un := un110) jT3) (va_cwS 2 hts gL_law_L_isAlike rfl rfl rfl (by decide +kernel) ⟨Nat.le_of_ble_eq_true rfl, Nat.le_of_ble_eq_true rfl⟩) hK hT rfl hl.1 rfl (Nat.le_of_ble_eq_true rfl) dL_law_140 ⟨Nat.le_of_ble_eq_true rfl, Nat.le_of_ble_eq_true rfl⟩ (fun q140_ r140_ hq140_ H locs hT => ?_)
                          obtain ⟨c140, ny140, tx140, tn140⟩ := q140_
                          obtain ⟨e140, my140, ux140, un140⟩ := r140_
                          have hp140 : TrS (c140) (e140) ∧ (c140, ny140, tx140, tn140) = (c3, n3, x3, t3) := hq140_
                          have hg := hT.go
                          dsimp only at hg
                          refine fp_if_eq (tgt := 150) hx hb (by omega) dL_law_143 (by decide) (fun q143 => ?_) (fun q143 => ?_)
                          · skip
                            exfalso; omega
                          · skip
                            refine fp_iconst hx hb dL_law_146 ?_
                            refine lv_goto (tgt := 151) hx hb dL_law_147 (by decide) ?_
                            refine lv_istore_n (lv' := [(3, .int (iI (1))), (0, .ref b), (1, .ref (A 0)), (2, .ref (B 0)), (4, .int (iI (k)))]) hx hb dL_law_151 rfl hl (by decide) rfl (fun ls hl => ?_)
                            refine fp_iinc (k := 4) (lv' := [(4, .int (iI (k + 1))), (3, .int (iI (1))), (0, .ref b), (1, .ref (A 0)), (2, .ref (B 0))]) hx hb dL_law_152 hl rfl (by decide) rfl (fun ls hl => ?_)
                            refine lv_goto (tgt := 81) hx hb dL_law_155 (by decide) ?_
                            have hJT := hp140.1
                            exact ih5 (k + 1) c140 ny140 tx140 tn140 e140 my140 ux140 un140 (by omega) hJT (by omega) H locs hT ls (lv_sub hl [2, 3, 4, 1, 0] rfl)
                      refine fp_if_gt (tgt := 130) hx hb (by omega) dL_law_120 (by decide) (fun q120 => ?_) (fun q120 => ?_)
                      · skip
                        exact jn12 c110 ny110 tx110 tn110 (by first | exact hp110 | (rw [show c124 = c110 from congrArg (fun z : OS => z.1) hp124]; exact hp110)) H locs hT ls (lv_sub hl [0, 1, 2, 3, 4] rfl)
                      · skip
                        refine lv_aload_n hx hb dL_law_123 rfl (lv_at hl 1 rfl) ?_
                        refine fq_S1 (rest := []) ⟨hx, hb, hml, hown, hts⟩ (c_L_isWell l D cyI A (c := c110) (ny := ny110) (tx := tx110) (tn := tn110) ) (va_cwS 1 hts gL_law_L_isWell rfl rfl rfl (by decide +kernel) ⟨Nat.le_of_ble_eq_true rfl, Nat.le_of_ble_eq_true rfl⟩) hK hT rfl hl.1 rfl (Nat.le_of_ble_eq_true rfl) dL_law_124 ⟨Nat.le_of_ble_eq_true rfl, Nat.le_of_ble_eq_true rfl⟩ (fun q124_ hq124_ H locs hT => ?_)
                        obtain ⟨c124, ny124, tx124, tn124⟩ := q124_
                        have hp124 : (c124, ny124, tx124, tn124) = (c110, ny110, tx110, tn110) := hq124_
                        have hg := hT.go
                        dsimp only at hg
                        refine fp_if_eq (tgt := 150) hx hb (by omega) dL_law_127 (by decide) (fun q127 => ?_) (fun q127 => ?_)
                        · skip
                          exfalso; omega
                        · skip
                          exact jn12 c124 ny124 tx124 tn124 (by first | exact hp110 | (rw [show c124 = c110 from congrArg (fun z : OS => z.1) hp124]; exact hp110)) H locs hT ls (lv_sub hl [0, 1, 2, 3, 4] rfl)
            exact lp5 (((42 : Int) + 1 - (0)).toNat) 0 c19 n19 tx tn c65 n65 ux un (by omega) hI0 (by omega) H locs hT ls hl
