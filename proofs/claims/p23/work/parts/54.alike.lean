set_option maxHeartbeats 8000000 in
set_option maxRecDepth 100000 in
theorem c_L_isAlike (l : Launch) (D : va_G) (cyI : ClassId) (A B : Nat → Nat) {c : Int → Int} {ny : Int} {tx : Int → Int} {tn : Int} {e : Int → Int} {my : Int} {ux : Int → Int} {un : Int} (hI : TrS c e) : LC2 l yL_isAlike wsL_isAlike ({ frames := 8, cells := 0, slots := 0, locals := 188 } : Room) D cyI A B [] (c, ny, tx, tn) (e, my, ux, un) (fun q r : OS => TrS (q.1) (r.1) ∧ (q.1, q.2.1, q.2.2.1, q.2.2.2) = (c, ny, tx, tn)) := by
  intro I C J E g1 g2
  refine fp_start (cc := cL_isAlike) (maxL := 5) (ret := (some .boolean)) (by decide) rfl (Nat.le_of_ble_eq_true rfl) ?_
  intro pg en sx mi ar bl mt cd ls hx hb hr hts hown hlocks hml hnm hP hK hD hl
  have hown : sx.vm.findClass RL = some mi.cls := hown
  have hl : lv_has ls 5 [(0, .ref (A 0)), (1, .ref (B 0))] := hl
  have hT : ST D cyI A B (fp_A (OB cyI A I C ++ (OB cyI B J E ++ []))) sx.heap (c, ny, tx, tn) (e, my, ux, un) sx.heap [] := ST.in g1 g2 hP hD
  have hg := hT.go
  dsimp only at hg
  have hC0 := hg.1.1.1
  have hN0 := hC0.1
  have h90 := hg.1.1.2
  have hE0 := hg.2.1.1
  have hny0 := hg.1.2.1
  refine lv_aload_n hx hb dL_isAlike_0 rfl (lv_at hl 0 rfl) ?_
  refine lv_aload_n hx hb dL_isAlike_1 rfl (lv_at hl 1 rfl) ?_
  refine fq_S2 (As := []) (rest := []) ⟨hx, hb, hml, hown, hts⟩ (c_L_isRetold l D cyI A B (c := c) (ny := ny) (tx := tx) (tn := tn) (e := e) (my := my) (ux := ux) (un := un) hI) (va_cwS 2 hts gL_isAlike_L_isRetold rfl rfl rfl (by decide +kernel) ⟨Nat.le_of_ble_eq_true rfl, Nat.le_of_ble_eq_true rfl⟩) hK hT rfl hl.1 rfl (Nat.le_of_ble_eq_true rfl) dL_isAlike_2 ⟨Nat.zero_le _, Nat.zero_le _⟩ (fun q2_ r2_ hq2_ H locs hT => ?_)
  obtain ⟨c2, ny2, tx2, tn2⟩ := q2_
  obtain ⟨e2, my2, ux2, un2⟩ := r2_
  have hp2 : SmL (c2) (e2) ∧ TrS (c2) (e2) ∧ (c2, ny2, tx2, tn2) = (c, ny, tx, tn) := hq2_
  have hg := hT.go
  dsimp only at hg
  have jC := hg.1.1.1
  have jE := hg.2.1.1
  have jS := hp2.1
  have jT := hp2.2.1
  have jN := jC.1
  have hXc := jC.2.2
  unfold SetOK at hXc
  refine lv_istore_n (lv' := [(2, .int (iI (1))), (0, .ref (A 0)), (1, .ref (B 0))]) hx hb dL_isAlike_5 rfl hl (by decide) rfl (fun ls hl => ?_)
  refine fp_iconst hx hb dL_isAlike_6 ?_
  refine lv_istore_n (lv' := [(3, .int (iI (0))), (2, .int (iI (1))), (0, .ref (A 0)), (1, .ref (B 0))]) hx hb dL_isAlike_7 rfl hl (by decide) rfl (fun ls hl => ?_)
  have hl := lv_sub hl (l' := [(0, .ref (A 0)), (1, .ref (B 0)), (2, .int (iI (1))), (3, .int (iI (0)))]) [2, 3, 1, 0] rfl
  have lp0 : ∀ (nf : Nat) (w : Int), (0 ≤ w ∧ w ≤ 9) → (9 + 1 ≤ w + (nf : Int)) → ∀ (H : Heap) (locs : List Loc), ST D cyI A B (fp_A (OB cyI A I C ++ (OB cyI B J E ++ []))) sx.heap (c2, ny2, tx2, tn2) (e2, my2, ux2, un2) H locs → ∀ (ls : Array Slot), lv_has ls 5 [(0, .ref (A 0)), (1, .ref (B 0)), (2, .int (iI (1))), (3, .int (iI (w)))] → W pg l en ({ frames := 8, cells := 0, slots := 0, locals := 188 } : Room) sx mi ar bl mt cd H locs 0 0 (MQ bl (fp_Qw D (OB cyI A I C ++ (OB cyI B J E ++ [])) (fun u : SS2 => (GO u.1 u.2.1 u.2.2.2.2.1 ∧ GO u.2.2.1 u.2.2.2.1 u.2.2.2.2.2) ∧ (fun q r : OS => TrS (q.1) (r.1) ∧ (q.1, q.2.1, q.2.2.1, q.2.2.2) = (c, ny, tx, tn)) u.2.2.2.2.1 u.2.2.2.2.2) (fun _ : SS2 => some (.int (iI 1))) (fun u : SS2 => OB cyI A u.1 u.2.1 ++ (OB cyI B u.2.2.1 u.2.2.2.1 ++ []))) ar sx 0 0 (fp_A (OB cyI A I C ++ (OB cyI B J E ++ [])))) (F0 mi 8 ls []) := by
    intro nf
    induction nf with
    | zero =>
      intro w iw hfuel
      exact absurd hfuel (by omega)
    | succ nf ih0 =>
      intro w iw hfuel H locs hT ls hl
      have hg := hT.go
      dsimp only at hg
      refine lv_iload_n hx hb dL_isAlike_8 rfl (lv_at hl 3 rfl) ?_
      refine fp_bipush hx hb dL_isAlike_9 (by decide) ?_
      refine fp_icmp_ge (tgt := 43) hx hb (by omega) dL_isAlike_11 (by decide) (fun q11 => ?_) (fun q11 => ?_)
      · skip
        refine lv_iload_n hx hb dL_isAlike_43 rfl (lv_at hl 2 rfl) ?_
        refine fp_if_eq (tgt := 68) hx hb (by omega) dL_isAlike_44 (by decide) (fun q44 => ?_) (fun q44 => ?_)
        · skip
          exfalso; omega
        · skip
          refine fp_iconst hx hb dL_isAlike_47 ?_
          refine lv_aload_n hx hb dL_isAlike_48 rfl (lv_at hl 0 rfl) ?_
          refine fp_bipush hx hb dL_isAlike_49 (by decide) ?_
          refine fq_L (As := [.int (iI (9))]) (rest := [.int (iI (3))]) ⟨hx, hb, hml, hown, hts⟩ (oc_count l D cyI A (c := c2) (ny := ny2) (x := tx2) (n := tn2) (w := 9) (by omega)) (cwV 1 hts gL_isAlike_X7_count rfl rfl rfl (by decide +kernel) ⟨Nat.le_of_ble_eq_true rfl, Nat.le_of_ble_eq_true rfl⟩) hK hT rfl hl.1 rfl (Nat.le_of_ble_eq_true rfl) dL_isAlike_51 ⟨Nat.zero_le _, Nat.zero_le _⟩ (fun z51 q51_ hq51_ H locs hT => ?_)
          obtain ⟨hz51, hr51⟩ := hq51_
          have hz51 : z51 = cnR c2 ny2 tn2 9 := hz51
          subst hr51
          have hz51 : z51 = csC c2 := hz51
          refine fp_imul hx hb dL_isAlike_54 ?_
          refine lv_aload_n hx hb dL_isAlike_55 rfl (lv_at hl 1 rfl) ?_
          refine fp_bipush hx hb dL_isAlike_56 (by decide) ?_
          refine fq_R (As := [.int (iI (9))]) (rest := [.int (iI (3 * z51))]) ⟨hx, hb, hml, hown, hts⟩ (oc_count l D cyI B (c := e2) (ny := my2) (x := ux2) (n := un2) (w := 9) (by omega)) (cwV 1 hts gL_isAlike_X7_count rfl rfl rfl (by decide +kernel) ⟨Nat.le_of_ble_eq_true rfl, Nat.le_of_ble_eq_true rfl⟩) hK hT rfl hl.1 rfl (Nat.le_of_ble_eq_true rfl) dL_isAlike_58 ⟨Nat.zero_le _, Nat.zero_le _⟩ (fun z58 q58_ hq58_ H locs hT => ?_)
          obtain ⟨hz58, hr58⟩ := hq58_
          have hz58 : z58 = cnR e2 my2 un2 9 := hz58
          subst hr58
          have hz58 : z58 = csC e2 := hz58
          have hcs3 := cs_3 jT jS jC
          have hcnn := cs_nn jC
          refine fp_icmp_ne (tgt := 68) hx hb (by omega) dL_isAlike_61 (by decide) (fun q61 => ?_) (fun q61 => ?_)
          · skip
            exfalso; omega
          · skip
            refine fp_iconst hx hb dL_isAlike_64 ?_
            refine lv_goto (tgt := 69) hx hb dL_isAlike_65 (by decide) ?_
            refine lv_istore_n (lv' := [(2, .int (iI (1))), (0, .ref (A 0)), (1, .ref (B 0)), (3, .int (iI (w)))]) hx hb dL_isAlike_69 rfl hl (by decide) rfl (fun ls hl => ?_)
            refine fp_iconst hx hb dL_isAlike_70 ?_
            refine lv_istore_n (lv' := [(3, .int (iI (0))), (2, .int (iI (1))), (0, .ref (A 0)), (1, .ref (B 0))]) hx hb dL_isAlike_71 rfl hl (by decide) rfl (fun ls hl => ?_)
            have hl := lv_sub hl (l' := [(0, .ref (A 0)), (1, .ref (B 0)), (2, .int (iI (1))), (3, .int (iI (0)))]) [2, 3, 1, 0] rfl
            have lp4 : ∀ (nf : Nat) (k : Int), (0 ≤ k ∧ k ≤ c2 0) → (c2 0 + 1 ≤ k + (nf : Int)) → ∀ (H : Heap) (locs : List Loc), ST D cyI A B (fp_A (OB cyI A I C ++ (OB cyI B J E ++ []))) sx.heap (c2, ny2, tx2, tn2) (e2, my2, ux2, un2) H locs → ∀ (ls : Array Slot), lv_has ls 5 [(0, .ref (A 0)), (1, .ref (B 0)), (2, .int (iI (1))), (3, .int (iI (k)))] → W pg l en ({ frames := 8, cells := 0, slots := 0, locals := 188 } : Room) sx mi ar bl mt cd H locs 0 0 (MQ bl (fp_Qw D (OB cyI A I C ++ (OB cyI B J E ++ [])) (fun u : SS2 => (GO u.1 u.2.1 u.2.2.2.2.1 ∧ GO u.2.2.1 u.2.2.2.1 u.2.2.2.2.2) ∧ (fun q r : OS => TrS (q.1) (r.1) ∧ (q.1, q.2.1, q.2.2.1, q.2.2.2) = (c, ny, tx, tn)) u.2.2.2.2.1 u.2.2.2.2.2) (fun _ : SS2 => some (.int (iI 1))) (fun u : SS2 => OB cyI A u.1 u.2.1 ++ (OB cyI B u.2.2.1 u.2.2.2.1 ++ []))) ar sx 0 0 (fp_A (OB cyI A I C ++ (OB cyI B J E ++ [])))) (F0 mi 72 ls []) := by
              intro nf
              induction nf with
              | zero =>
                intro k ik hfuel
                exact absurd hfuel (by omega)
              | succ nf ih4 =>
                intro k ik hfuel H locs hT ls hl
                have hg := hT.go
                dsimp only at hg
                refine lv_iload_n hx hb dL_isAlike_72 rfl (lv_at hl 3 rfl) ?_
                refine lv_aload_n hx hb dL_isAlike_73 rfl (lv_at hl 0 rfl) ?_
                refine fp_iconst hx hb dL_isAlike_74 ?_
                refine fq_L (As := [.int (iI (0))]) (rest := [.int (iI (k))]) ⟨hx, hb, hml, hown, hts⟩ (oc_count l D cyI A (c := c2) (ny := ny2) (x := tx2) (n := tn2) (w := 0) (by omega)) (cwV 1 hts gL_isAlike_X7_count rfl rfl rfl (by decide +kernel) ⟨Nat.le_of_ble_eq_true rfl, Nat.le_of_ble_eq_true rfl⟩) hK hT rfl hl.1 rfl (Nat.le_of_ble_eq_true rfl) dL_isAlike_75 ⟨Nat.zero_le _, Nat.zero_le _⟩ (fun z75 q75_ hq75_ H locs hT => ?_)
                obtain ⟨hz75, hr75⟩ := hq75_
                have hz75 : z75 = cnR c2 ny2 tn2 0 := hz75
                subst hr75
                have hz75 : z75 = c2 0 := hz75
                refine fp_icmp_ge (tgt := 172) hx hb (by omega) dL_isAlike_78 (by decide) (fun q78 => ?_) (fun q78 => ?_)
                · skip
                  refine fp_iconst hx hb dL_isAlike_172 ?_
                  refine lv_istore_n (lv' := [(3, .int (iI (4))), (0, .ref (A 0)), (1, .ref (B 0)), (2, .int (iI (1)))]) hx hb dL_isAlike_173 rfl hl (by decide) rfl (fun ls hl => ?_)
                  have hl := lv_sub hl (l' := [(0, .ref (A 0)), (1, .ref (B 0)), (2, .int (iI (1))), (3, .int (iI (4)))]) [1, 2, 3, 0] rfl
                  have lp6 : ∀ (nf : Nat) (sz : Int), (sz = 4 ∨ sz = 8 ∨ sz = 16 ∨ sz = 32) → (33 ≤ sz + (nf : Int)) → ∀ (H : Heap) (locs : List Loc), ST D cyI A B (fp_A (OB cyI A I C ++ (OB cyI B J E ++ []))) sx.heap (c2, ny2, tx2, tn2) (e2, my2, ux2, un2) H locs → ∀ (ls : Array Slot), lv_has ls 5 [(0, .ref (A 0)), (1, .ref (B 0)), (2, .int (iI (1))), (3, .int (iI (sz)))] → W pg l en ({ frames := 8, cells := 0, slots := 0, locals := 188 } : Room) sx mi ar bl mt cd H locs 0 0 (MQ bl (fp_Qw D (OB cyI A I C ++ (OB cyI B J E ++ [])) (fun u : SS2 => (GO u.1 u.2.1 u.2.2.2.2.1 ∧ GO u.2.2.1 u.2.2.2.1 u.2.2.2.2.2) ∧ (fun q r : OS => TrS (q.1) (r.1) ∧ (q.1, q.2.1, q.2.2.1, q.2.2.2) = (c, ny, tx, tn)) u.2.2.2.2.1 u.2.2.2.2.2) (fun _ : SS2 => some (.int (iI 1))) (fun u : SS2 => OB cyI A u.1 u.2.1 ++ (OB cyI B u.2.2.1 u.2.2.2.1 ++ []))) ar sx 0 0 (fp_A (OB cyI A I C ++ (OB cyI B J E ++ [])))) (F0 mi 174 ls []) := by
                    intro nf
                    induction nf with
                    | zero =>
                      intro sz iz hfuel
                      exact absurd hfuel (by omega)
                    | succ nf ih6 =>
                      intro sz iz hfuel H locs hT ls hl
                      have hg := hT.go
                      dsimp only at hg
                      refine lv_iload_n hx hb dL_isAlike_174 rfl (lv_at hl 3 rfl) ?_
                      refine fp_bipush hx hb dL_isAlike_175 (by decide) ?_
                      refine fp_icmp_ge (tgt := 226) hx hb (by omega) dL_isAlike_177 (by decide) (fun q177 => ?_) (fun q177 => ?_)
                      · skip
                        refine lv_iload_n hx hb dL_isAlike_226 rfl (lv_at hl 2 rfl) ?_
                        exact fq_ret2 (Po := (fun q r : OS => TrS (q.1) (r.1) ∧ (q.1, q.2.1, q.2.2.1, q.2.2.2) = (c, ny, tx, tn))) hx hb hr hlocks hT ⟨jT, hp2.2.2⟩ dL_isAlike_227
                      · skip
                        refine lv_aload_n hx hb dL_isAlike_180 rfl (lv_at hl 0 rfl) ?_
                        refine lv_iload_n hx hb dL_isAlike_181 rfl (lv_at hl 3 rfl) ?_
                        refine fq_L (As := [.int (iI (sz))]) (rest := []) ⟨hx, hb, hml, hown, hts⟩ (oc_leastCost l D cyI A (c := c2) (ny := ny2) (x := tx2) (n := tn2) (sz := sz) (by omega)) (cwV 1 hts gL_isAlike_X7_leastCost rfl rfl rfl (by decide +kernel) ⟨Nat.le_of_ble_eq_true rfl, Nat.le_of_ble_eq_true rfl⟩) hK hT rfl hl.1 rfl (Nat.le_of_ble_eq_true rfl) dL_isAlike_182 ⟨Nat.zero_le _, Nat.zero_le _⟩ (fun z182 q182_ hq182_ H locs hT => ?_)
                        obtain ⟨hz182, hr182⟩ := hq182_
                        have hz182 : z182 = bsI (upI c2 (49 + 0) sz) sz (c2 0).toNat 0 0 0 := hz182
                        subst hr182
                        refine lv_istore (lv' := [(4, .int (iI (z182))), (0, .ref (A 0)), (1, .ref (B 0)), (2, .int (iI (1))), (3, .int (iI (sz)))]) hx hb dL_isAlike_185 hl (by decide) rfl (fun ls hl => ?_)
                        refine lv_iload_n hx hb dL_isAlike_187 rfl (lv_at hl 3 rfl) ?_
                        refine fp_if_eq (tgt := 217) hx hb (by omega) dL_isAlike_188 (by decide) (fun q188 => ?_) (fun q188 => ?_)
                        · skip
                          exfalso; omega
                        · skip
                          refine lv_aload_n hx hb dL_isAlike_191 rfl (lv_at hl 2 rfl) ?_
                          refine lv_iload_n hx hb dL_isAlike_192 rfl (lv_at hl 4 rfl) ?_
                          refine fq_R (As := [.int (iI (sz))]) (rest := []) ⟨hx, hb, hml, hown, hts⟩ (oc_leastCost l D cyI B (c := e2) (ny := my2) (x := ux2) (n := un2) (sz := sz) (by omega)) (cwV 1 hts gL_isAlike_X7_leastCost rfl rfl rfl (by decide +kernel) ⟨Nat.le_of_ble_eq_true rfl, Nat.le_of_ble_eq_true rfl⟩) hK hT rfl hl.1 rfl (Nat.le_of_ble_eq_true rfl) dL_isAlike_193 ⟨Nat.zero_le _, Nat.zero_le _⟩ (fun z193 q193_ hq193_ H locs hT => ?_)
                          obtain ⟨hz193, hr193⟩ := hq193_
                          have hz193 : z193 = bsI (upI e2 (49 + 0) sz) sz (e2 0).toNat 0 0 0 := hz193
                          subst hr193
                          have hl3 := lc_3 jT jS jC jE (sz := sz) (by omega)
                          have hln := lc_nn jC (sz := sz) (by omega)
                          rw [← hz182] at hln hl3
                          rw [← hz193] at hl3
                          refine lv_iload hx hb dL_isAlike_196 (lv_at hl 0 rfl) ?_
                          refine fp_if_ge (tgt := 206) hx hb (by omega) dL_isAlike_198 (by decide) (fun q198 => ?_) (fun q198 => ?_)
                          · skip
                            refine fp_iconst hx hb dL_isAlike_206 ?_
                            refine lv_iload hx hb dL_isAlike_207 (lv_at hl 0 rfl) ?_
                            refine fp_imul hx hb dL_isAlike_209 ?_
                            refine fp_icmp_ne (tgt := 217) hx hb (by omega) dL_isAlike_210 (by decide) (fun q210 => ?_) (fun q210 => ?_)
                            · skip
                              exfalso; omega
                            · skip
                              refine fp_iconst hx hb dL_isAlike_213 ?_
                              refine lv_goto (tgt := 218) hx hb dL_isAlike_214 (by decide) ?_
                              refine lv_istore_n (lv' := [(2, .int (iI (1))), (4, .int (iI (z182))), (0, .ref (A 0)), (1, .ref (B 0)), (3, .int (iI (sz)))]) hx hb dL_isAlike_218 rfl hl (by decide) rfl (fun ls hl => ?_)
                              refine lv_iload_n hx hb dL_isAlike_219 rfl (lv_at hl 4 rfl) ?_
                              refine fp_iconst hx hb dL_isAlike_220 ?_
                              refine fp_imul hx hb dL_isAlike_221 ?_
                              refine lv_istore_n (lv' := [(3, .int (iI (sz * 2))), (2, .int (iI (1))), (4, .int (iI (z182))), (0, .ref (A 0)), (1, .ref (B 0))]) hx hb dL_isAlike_222 rfl hl (by decide) rfl (fun ls hl => ?_)
                              refine lv_goto (tgt := 174) hx hb dL_isAlike_223 (by decide) ?_
                              exact ih6 (sz * 2) (by omega) (by omega) H locs hT ls (lv_sub hl [3, 4, 1, 0] rfl)
                          · skip
                            refine lv_iload hx hb dL_isAlike_201 (lv_at hl 0 rfl) ?_
                            refine lv_goto (tgt := 210) hx hb dL_isAlike_203 (by decide) ?_
                            refine fp_icmp_ne (tgt := 217) hx hb (by omega) dL_isAlike_210 (by decide) (fun q210 => ?_) (fun q210 => ?_)
                            · skip
                              exfalso; omega
                            · skip
                              refine fp_iconst hx hb dL_isAlike_213 ?_
                              refine lv_goto (tgt := 218) hx hb dL_isAlike_214 (by decide) ?_
                              refine lv_istore_n (lv' := [(2, .int (iI (1))), (4, .int (iI (z182))), (0, .ref (A 0)), (1, .ref (B 0)), (3, .int (iI (sz)))]) hx hb dL_isAlike_218 rfl hl (by decide) rfl (fun ls hl => ?_)
                              refine lv_iload_n hx hb dL_isAlike_219 rfl (lv_at hl 4 rfl) ?_
                              refine fp_iconst hx hb dL_isAlike_220 ?_
                              refine fp_imul hx hb dL_isAlike_221 ?_
                              refine lv_istore_n (lv' := [(3, .int (iI (sz * 2))), (2, .int (iI (1))), (4, .int (iI (z182))), (0, .ref (A 0)), (1, .ref (B 0))]) hx hb dL_isAlike_222 rfl hl (by decide) rfl (fun ls hl => ?_)
                              refine lv_goto (tgt := 174) hx hb dL_isAlike_223 (by decide) ?_
                              exact ih6 (sz * 2) (by omega) (by omega) H locs hT ls (lv_sub hl [3, 4, 1, 0] rfl)
                  exact lp6 (40) 4 (by omega) (by omega) H locs hT ls hl
                · skip
                  refine fp_iconst hx hb dL_isAlike_81 ?_
                  refine lv_istore (lv' := [(4, .int (iI (0))), (0, .ref (A 0)), (1, .ref (B 0)), (2, .int (iI (1))), (3, .int (iI (k)))]) hx hb dL_isAlike_82 hl (by decide) rfl (fun ls hl => ?_)
                  have hl := lv_sub hl (l' := [(0, .ref (A 0)), (1, .ref (B 0)), (2, .int (iI (1))), (3, .int (iI (k))), (4, .int (iI (0)))]) [1, 2, 3, 4, 0] rfl
                  have lp12 : ∀ (nf : Nat) (w : Int), (0 ≤ w ∧ w ≤ 8) → (8 + 1 ≤ w + (nf : Int)) → ∀ (H : Heap) (locs : List Loc), ST D cyI A B (fp_A (OB cyI A I C ++ (OB cyI B J E ++ []))) sx.heap (c2, ny2, tx2, tn2) (e2, my2, ux2, un2) H locs → ∀ (ls : Array Slot), lv_has ls 5 [(0, .ref (A 0)), (1, .ref (B 0)), (2, .int (iI (1))), (3, .int (iI (k))), (4, .int (iI (w)))] → W pg l en ({ frames := 8, cells := 0, slots := 0, locals := 188 } : Room) sx mi ar bl mt cd H locs 0 0 (MQ bl (fp_Qw D (OB cyI A I C ++ (OB cyI B J E ++ [])) (fun u : SS2 => (GO u.1 u.2.1 u.2.2.2.2.1 ∧ GO u.2.2.1 u.2.2.2.1 u.2.2.2.2.2) ∧ (fun q r : OS => TrS (q.1) (r.1) ∧ (q.1, q.2.1, q.2.2.1, q.2.2.2) = (c, ny, tx, tn)) u.2.2.2.2.1 u.2.2.2.2.2) (fun _ : SS2 => some (.int (iI 1))) (fun u : SS2 => OB cyI A u.1 u.2.1 ++ (OB cyI B u.2.2.1 u.2.2.2.1 ++ []))) ar sx 0 0 (fp_A (OB cyI A I C ++ (OB cyI B J E ++ [])))) (F0 mi 84 ls []) := by
                    intro nf
                    induction nf with
                    | zero =>
                      intro w iw hfuel
                      exact absurd hfuel (by omega)
                    | succ nf ih12 =>
                      intro w iw hfuel H locs hT ls hl
                      have hg := hT.go
                      dsimp only at hg
                      refine lv_iload hx hb dL_isAlike_84 (lv_at hl 4 rfl) ?_
                      refine fp_bipush hx hb dL_isAlike_86 (by decide) ?_
                      refine fp_icmp_ge (tgt := 124) hx hb (by omega) dL_isAlike_88 (by decide) (fun q88 => ?_) (fun q88 => ?_)
                      · skip
                        refine fp_iconst hx hb dL_isAlike_124 ?_
                        refine lv_istore (lv' := [(4, .int (iI (0))), (0, .ref (A 0)), (1, .ref (B 0)), (2, .int (iI (1))), (3, .int (iI (k)))]) hx hb dL_isAlike_125 hl (by decide) rfl (fun ls hl => ?_)
                        have hl := lv_sub hl (l' := [(0, .ref (A 0)), (1, .ref (B 0)), (2, .int (iI (1))), (3, .int (iI (k))), (4, .int (iI (0)))]) [1, 2, 3, 4, 0] rfl
                        have lp14 : ∀ (nf : Nat) (w : Int), (0 ≤ w ∧ w ≤ 2) → (2 + 1 ≤ w + (nf : Int)) → ∀ (H : Heap) (locs : List Loc), ST D cyI A B (fp_A (OB cyI A I C ++ (OB cyI B J E ++ []))) sx.heap (c2, ny2, tx2, tn2) (e2, my2, ux2, un2) H locs → ∀ (ls : Array Slot), lv_has ls 5 [(0, .ref (A 0)), (1, .ref (B 0)), (2, .int (iI (1))), (3, .int (iI (k))), (4, .int (iI (w)))] → W pg l en ({ frames := 8, cells := 0, slots := 0, locals := 188 } : Room) sx mi ar bl mt cd H locs 0 0 (MQ bl (fp_Qw D (OB cyI A I C ++ (OB cyI B J E ++ [])) (fun u : SS2 => (GO u.1 u.2.1 u.2.2.2.2.1 ∧ GO u.2.2.1 u.2.2.2.1 u.2.2.2.2.2) ∧ (fun q r : OS => TrS (q.1) (r.1) ∧ (q.1, q.2.1, q.2.2.1, q.2.2.2) = (c, ny, tx, tn)) u.2.2.2.2.1 u.2.2.2.2.2) (fun _ : SS2 => some (.int (iI 1))) (fun u : SS2 => OB cyI A u.1 u.2.1 ++ (OB cyI B u.2.2.1 u.2.2.2.1 ++ []))) ar sx 0 0 (fp_A (OB cyI A I C ++ (OB cyI B J E ++ [])))) (F0 mi 127 ls []) := by
                          intro nf
                          induction nf with
                          | zero =>
                            intro w iw hfuel
                            exact absurd hfuel (by omega)
                          | succ nf ih14 =>
                            intro w iw hfuel H locs hT ls hl
                            have hg := hT.go
                            dsimp only at hg
                            refine lv_iload hx hb dL_isAlike_127 (lv_at hl 4 rfl) ?_
                            refine fp_iconst hx hb dL_isAlike_129 ?_
                            refine fp_icmp_ge (tgt := 166) hx hb (by omega) dL_isAlike_130 (by decide) (fun q130 => ?_) (fun q130 => ?_)
                            · skip
                              refine fp_iinc (k := 3) (lv' := [(3, .int (iI (k + 1))), (0, .ref (A 0)), (1, .ref (B 0)), (2, .int (iI (1))), (4, .int (iI (w)))]) hx hb dL_isAlike_166 hl rfl (by decide) rfl (fun ls hl => ?_)
                              refine lv_goto (tgt := 72) hx hb dL_isAlike_169 (by decide) ?_
                              exact ih4 (k + 1) (by omega) (by omega) H locs hT ls (lv_sub hl [1, 2, 3, 0] rfl)
                            · skip
                              refine lv_iload_n hx hb dL_isAlike_133 rfl (lv_at hl 2 rfl) ?_
                              refine fp_if_eq (tgt := 158) hx hb (by omega) dL_isAlike_134 (by decide) (fun q134 => ?_) (fun q134 => ?_)
                              · skip
                                exfalso; omega
                              · skip
                                refine lv_aload_n hx hb dL_isAlike_137 rfl (lv_at hl 0 rfl) ?_
                                refine lv_iload_n hx hb dL_isAlike_138 rfl (lv_at hl 3 rfl) ?_
                                refine lv_iload hx hb dL_isAlike_139 (lv_at hl 4 rfl) ?_
                                refine fq_L (As := [.int (iI (k)), .int (iI (w))]) (rest := []) ⟨hx, hb, hml, hown, hts⟩ (oc_cheapest l D cyI A (c := c2) (ny := ny2) (x := tx2) (n := tn2) (k := k) (w := w) (by omega) (by omega)) (cwV 2 hts gL_isAlike_X7_cheapest rfl rfl rfl (by decide +kernel) ⟨Nat.le_of_ble_eq_true rfl, Nat.le_of_ble_eq_true rfl⟩) hK hT rfl hl.1 rfl (Nat.le_of_ble_eq_true rfl) dL_isAlike_141 ⟨Nat.zero_le _, Nat.zero_le _⟩ (fun z141 q141_ hq141_ H locs hT => ?_)
                                obtain ⟨g141, ho141, hz141, hr141⟩ := hq141_
                                subst hr141
                                have hz141 : z141 = if w = 0 then g141 (k * 4 + 3) else if c2 (k * 4 + 2) = 0 then -5 else g141 (k * 4 + 4) := hz141
                                refine lv_aload_n hx hb dL_isAlike_144 rfl (lv_at hl 1 rfl) ?_
                                refine lv_iload_n hx hb dL_isAlike_145 rfl (lv_at hl 3 rfl) ?_
                                refine lv_iload hx hb dL_isAlike_146 (lv_at hl 4 rfl) ?_
                                refine fq_R (As := [.int (iI (k)), .int (iI (w))]) (rest := [.int (iI (z141))]) ⟨hx, hb, hml, hown, hts⟩ (oc_cheapest l D cyI B (c := e2) (ny := my2) (x := ux2) (n := un2) (k := k) (w := w) (by have := jS.1; omega) (by omega)) (cwV 2 hts gL_isAlike_X7_cheapest rfl rfl rfl (by decide +kernel) ⟨Nat.le_of_ble_eq_true rfl, Nat.le_of_ble_eq_true rfl⟩) hK hT rfl hl.1 rfl (Nat.le_of_ble_eq_true rfl) dL_isAlike_148 ⟨Nat.zero_le _, Nat.zero_le _⟩ (fun z148 q148_ hq148_ H locs hT => ?_)
                                obtain ⟨g148, ho148, hz148, hr148⟩ := hq148_
                                subst hr148
                                have hz148 : z148 = if w = 0 then g148 (k * 4 + 3) else if e2 (k * 4 + 2) = 0 then -5 else g148 (k * 4 + 4) := hz148
                                have hc3 := ch_3 jT jS jC jE ho141.2.2 ho148.2.2 (k := k) (by omega)
                                have hLg := lot_f ho141.2.1 (k := k) (by rw [ho141.1.1]; omega)
                                have hSk := jS.2.1 k (by omega) (by omega)
                                unfold LotOK at hLg
                                have hzeq : z141 = z148 ∧ -5 ≤ z141 ∧ z141 ≤ 3 := by
                                  rw [hz141, hz148, hc3.1, hc3.2, hSk.2.1]
                                  rw [hc3.1, hc3.2] at hLg
                                  refine ⟨rfl, ?_⟩
                                  split
                                  · omega
                                  · split <;> omega
                                refine fp_icmp_ne (tgt := 158) hx hb (by omega) dL_isAlike_151 (by decide) (fun q151 => ?_) (fun q151 => ?_)
                                · skip
                                  exfalso; omega
                                · skip
                                  refine fp_iconst hx hb dL_isAlike_154 ?_
                                  refine lv_goto (tgt := 159) hx hb dL_isAlike_155 (by decide) ?_
                                  refine lv_istore_n (lv' := [(2, .int (iI (1))), (0, .ref (A 0)), (1, .ref (B 0)), (3, .int (iI (k))), (4, .int (iI (w)))]) hx hb dL_isAlike_159 rfl hl (by decide) rfl (fun ls hl => ?_)
                                  refine fp_iinc (k := 4) (lv' := [(4, .int (iI (w + 1))), (2, .int (iI (1))), (0, .ref (A 0)), (1, .ref (B 0)), (3, .int (iI (k)))]) hx hb dL_isAlike_160 hl rfl (by decide) rfl (fun ls hl => ?_)
                                  refine lv_goto (tgt := 127) hx hb dL_isAlike_163 (by decide) ?_
                                  exact ih14 (w + 1) (by omega) (by omega) H locs hT ls (lv_sub hl [2, 3, 1, 4, 0] rfl)
                        exact lp14 (((2 : Int) + 1 - (0)).toNat) 0 (by omega) (by omega) H locs hT ls hl
                      · skip
                        refine lv_iload_n hx hb dL_isAlike_91 rfl (lv_at hl 2 rfl) ?_
                        refine fp_if_eq (tgt := 116) hx hb (by omega) dL_isAlike_92 (by decide) (fun q92 => ?_) (fun q92 => ?_)
                        · skip
                          exfalso; omega
                        · skip
                          refine lv_aload_n hx hb dL_isAlike_95 rfl (lv_at hl 0 rfl) ?_
                          refine lv_iload_n hx hb dL_isAlike_96 rfl (lv_at hl 3 rfl) ?_
                          refine lv_iload hx hb dL_isAlike_97 (lv_at hl 4 rfl) ?_
                          refine fq_L (As := [.int (iI (k)), .int (iI (w))]) (rest := []) ⟨hx, hb, hml, hown, hts⟩ (oc_lot l D cyI A (c := c2) (ny := ny2) (x := tx2) (n := tn2) (k := k) (w := w) (by omega) (by omega)) (cwV 2 hts gL_isAlike_X7_lot rfl rfl rfl (by decide +kernel) ⟨Nat.le_of_ble_eq_true rfl, Nat.le_of_ble_eq_true rfl⟩) hK hT rfl hl.1 rfl (Nat.le_of_ble_eq_true rfl) dL_isAlike_99 ⟨Nat.zero_le _, Nat.zero_le _⟩ (fun z99 q99_ hq99_ H locs hT => ?_)
                          obtain ⟨hz99, hr99⟩ := hq99_
                          have hz99 : z99 = ltR c2 k w := hz99
                          subst hr99
                          refine lv_aload_n hx hb dL_isAlike_102 rfl (lv_at hl 1 rfl) ?_
                          refine lv_iload_n hx hb dL_isAlike_103 rfl (lv_at hl 3 rfl) ?_
                          refine lv_iload hx hb dL_isAlike_104 (lv_at hl 4 rfl) ?_
                          refine fq_R (As := [.int (iI (k)), .int (iI (w))]) (rest := [.int (iI (z99))]) ⟨hx, hb, hml, hown, hts⟩ (oc_lot l D cyI B (c := e2) (ny := my2) (x := ux2) (n := un2) (k := k) (w := w) (by omega) (by omega)) (cwV 2 hts gL_isAlike_X7_lot rfl rfl rfl (by decide +kernel) ⟨Nat.le_of_ble_eq_true rfl, Nat.le_of_ble_eq_true rfl⟩) hK hT rfl hl.1 rfl (Nat.le_of_ble_eq_true rfl) dL_isAlike_106 ⟨Nat.zero_le _, Nat.zero_le _⟩ (fun z106 q106_ hq106_ H locs hT => ?_)
                          obtain ⟨hz106, hr106⟩ := hq106_
                          have hz106 : z106 = ltR e2 k w := hz106
                          subst hr106
                          have hlr := lt_rg jC (k := k) (w := w) (by omega) (by omega)
                          have hleq : z99 = z106 := by rw [hz99, hz106]; exact SmL_lt jS jC _ _
                          rw [← hz99] at hlr
                          refine fp_icmp_ne (tgt := 116) hx hb (by omega) dL_isAlike_109 (by decide) (fun q109 => ?_) (fun q109 => ?_)
                          · skip
                            exfalso; omega
                          · skip
                            refine fp_iconst hx hb dL_isAlike_112 ?_
                            refine lv_goto (tgt := 117) hx hb dL_isAlike_113 (by decide) ?_
                            refine lv_istore_n (lv' := [(2, .int (iI (1))), (0, .ref (A 0)), (1, .ref (B 0)), (3, .int (iI (k))), (4, .int (iI (w)))]) hx hb dL_isAlike_117 rfl hl (by decide) rfl (fun ls hl => ?_)
                            refine fp_iinc (k := 4) (lv' := [(4, .int (iI (w + 1))), (2, .int (iI (1))), (0, .ref (A 0)), (1, .ref (B 0)), (3, .int (iI (k)))]) hx hb dL_isAlike_118 hl rfl (by decide) rfl (fun ls hl => ?_)
                            refine lv_goto (tgt := 84) hx hb dL_isAlike_121 (by decide) ?_
                            exact ih12 (w + 1) (by omega) (by omega) H locs hT ls (lv_sub hl [2, 3, 1, 4, 0] rfl)
                  exact lp12 (((8 : Int) + 1 - (0)).toNat) 0 (by omega) (by omega) H locs hT ls hl
            exact lp4 (((c2 0 : Int) + 1 - (0)).toNat) 0 (by omega) (by omega) H locs hT ls hl
      · skip
        refine lv_iload_n hx hb dL_isAlike_14 rfl (lv_at hl 2 rfl) ?_
        refine fp_if_eq (tgt := 35) hx hb (by omega) dL_isAlike_15 (by decide) (fun q15 => ?_) (fun q15 => ?_)
        · skip
          exfalso; omega
        · skip
          refine lv_aload_n hx hb dL_isAlike_18 rfl (lv_at hl 0 rfl) ?_
          refine lv_iload_n hx hb dL_isAlike_19 rfl (lv_at hl 3 rfl) ?_
          refine fq_L (As := [.int (iI (w))]) (rest := []) ⟨hx, hb, hml, hown, hts⟩ (oc_count l D cyI A (c := c2) (ny := ny2) (x := tx2) (n := tn2) (w := w) (by omega)) (cwV 1 hts gL_isAlike_X7_count rfl rfl rfl (by decide +kernel) ⟨Nat.le_of_ble_eq_true rfl, Nat.le_of_ble_eq_true rfl⟩) hK hT rfl hl.1 rfl (Nat.le_of_ble_eq_true rfl) dL_isAlike_20 ⟨Nat.zero_le _, Nat.zero_le _⟩ (fun z20 q20_ hq20_ H locs hT => ?_)
          obtain ⟨hz20, hr20⟩ := hq20_
          have hz20 : z20 = cnR c2 ny2 tn2 w := hz20
          subst hr20
          refine lv_aload_n hx hb dL_isAlike_23 rfl (lv_at hl 1 rfl) ?_
          refine lv_iload_n hx hb dL_isAlike_24 rfl (lv_at hl 3 rfl) ?_
          refine fq_R (As := [.int (iI (w))]) (rest := [.int (iI (z20))]) ⟨hx, hb, hml, hown, hts⟩ (oc_count l D cyI B (c := e2) (ny := my2) (x := ux2) (n := un2) (w := w) (by omega)) (cwV 1 hts gL_isAlike_X7_count rfl rfl rfl (by decide +kernel) ⟨Nat.le_of_ble_eq_true rfl, Nat.le_of_ble_eq_true rfl⟩) hK hT rfl hl.1 rfl (Nat.le_of_ble_eq_true rfl) dL_isAlike_25 ⟨Nat.zero_le _, Nat.zero_le _⟩ (fun z25 q25_ hq25_ H locs hT => ?_)
          obtain ⟨hz25, hr25⟩ := hq25_
          have hz25 : z25 = cnR e2 my2 un2 w := hz25
          subst hr25
          have hcr := cn_rg jC ny2 tn2 (w := w) (by omega)
          have hceq : z20 = z25 := by rw [hz20, hz25]; exact SmL_cn jS jC _ _ _ _ (by omega)
          rw [← hz20] at hcr
          refine fp_icmp_ne (tgt := 35) hx hb (by omega) dL_isAlike_28 (by decide) (fun q28 => ?_) (fun q28 => ?_)
          · skip
            exfalso; omega
          · skip
            refine fp_iconst hx hb dL_isAlike_31 ?_
            refine lv_goto (tgt := 36) hx hb dL_isAlike_32 (by decide) ?_
            refine lv_istore_n (lv' := [(2, .int (iI (1))), (0, .ref (A 0)), (1, .ref (B 0)), (3, .int (iI (w)))]) hx hb dL_isAlike_36 rfl hl (by decide) rfl (fun ls hl => ?_)
            refine fp_iinc (k := 3) (lv' := [(3, .int (iI (w + 1))), (2, .int (iI (1))), (0, .ref (A 0)), (1, .ref (B 0))]) hx hb dL_isAlike_37 hl rfl (by decide) rfl (fun ls hl => ?_)
            refine lv_goto (tgt := 8) hx hb dL_isAlike_40 (by decide) ?_
            exact ih0 (w + 1) (by omega) (by omega) H locs hT ls (lv_sub hl [2, 3, 1, 0] rfl)
  exact lp0 (((9 : Int) + 1 - (0)).toNat) 0 (by omega) (by omega) H locs hT ls hl
