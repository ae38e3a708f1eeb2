set_option maxHeartbeats 8000000 in
set_option maxRecDepth 100000 in
theorem c_L_isRetold (l : Launch) (D : va_G) (cyI : ClassId) (A B : Nat → Nat) {c : Int → Int} {ny : Int} {tx : Int → Int} {tn : Int} {e : Int → Int} {my : Int} {ux : Int → Int} {un : Int} (hI : TrS c e) : LC2 l yL_isRetold wsL_isRetold ({ frames := 7, cells := 0, slots := 0, locals := 163 } : Room) D cyI A B [] (c, ny, tx, tn) (e, my, ux, un) (fun q r : OS => SmL (q.1) (r.1) ∧ TrS (q.1) (r.1) ∧ (q.1, q.2.1, q.2.2.1, q.2.2.2) = (c, ny, tx, tn)) := by
  intro I C J E g1 g2
  refine fp_start (cc := cL_isRetold) (maxL := 6) (ret := (some .boolean)) (by decide) rfl (Nat.le_of_ble_eq_true rfl) ?_
  intro pg en sx mi ar bl mt cd ls hx hb hr hts hown hlocks hml hnm hP hK hD hl
  have hown : sx.vm.findClass RL = some mi.cls := hown
  have hl : lv_has ls 6 [(0, .ref (A 0)), (1, .ref (B 0))] := hl
  have hT : ST D cyI A B (fp_A (OB cyI A I C ++ (OB cyI B J E ++ []))) sx.heap (c, ny, tx, tn) (e, my, ux, un) sx.heap [] := ST.in g1 g2 hP hD
  have hg := hT.go
  dsimp only at hg
  have hC0 := hg.1.1.1
  have hN0 := hC0.1
  have h90 := hg.1.1.2
  have hE0 := hg.2.1.1
  have hny0 := hg.1.2.1
  have hM0 := hE0.1
  refine lv_aload_n hx hb dL_isRetold_0 rfl (lv_at hl 0 rfl) ?_
  refine fp_iconst hx hb dL_isRetold_1 ?_
  refine fq_L (As := [.int (iI (0))]) (rest := []) ⟨hx, hb, hml, hown, hts⟩ (oc_count l D cyI A (c := c) (ny := ny) (x := tx) (n := tn) (w := 0) (by omega)) (cwV 1 hts gL_isRetold_X7_count rfl rfl rfl (by decide +kernel) ⟨Nat.le_of_ble_eq_true rfl, Nat.le_of_ble_eq_true rfl⟩) hK hT rfl hl.1 rfl (Nat.le_of_ble_eq_true rfl) dL_isRetold_2 ⟨Nat.zero_le _, Nat.zero_le _⟩ (fun z2 q2_ hq2_ H locs hT => ?_)
  obtain ⟨hz2, hr2⟩ := hq2_
  have hz2 : z2 = cnR c ny tn 0 := hz2
  subst hr2
  have hz2 : z2 = c 0 := hz2
  refine lv_istore_n (lv' := [(2, .int (iI (z2))), (0, .ref (A 0)), (1, .ref (B 0))]) hx hb dL_isRetold_5 rfl hl (by decide) rfl (fun ls hl => ?_)
  refine lv_aload_n hx hb dL_isRetold_6 rfl (lv_at hl 2 rfl) ?_
  refine fq_R (As := []) (rest := []) ⟨hx, hb, hml, hown, hts⟩ (oc_clearText l D cyI B (c := e) (ny := my) (x := ux) (n := un) ) (cwV 0 hts gL_isRetold_X7_clearText rfl rfl rfl (by decide +kernel) ⟨Nat.le_of_ble_eq_true rfl, Nat.le_of_ble_eq_true rfl⟩) hK hT rfl hl.1 rfl (Nat.le_of_ble_eq_true rfl) dL_isRetold_7 ⟨Nat.zero_le _, Nat.zero_le _⟩ (fun z7 q7_ hq7_ H locs hT => ?_)
  obtain ⟨hz7, hr7⟩ := hq7_
  subst hr7
  have hz7 : z7 = un := hz7
  refine fp_if_lt (tgt := 17) hx hb (by omega) dL_isRetold_10 (by decide) (fun q10 => ?_) (fun q10 => ?_)
  · skip
    exfalso; omega
  · skip
    refine fp_iconst hx hb dL_isRetold_13 ?_
    refine lv_goto (tgt := 18) hx hb dL_isRetold_14 (by decide) ?_
    refine lv_istore_n (lv' := [(3, .int (iI (1))), (2, .int (iI (z2))), (0, .ref (A 0)), (1, .ref (B 0))]) hx hb dL_isRetold_18 rfl hl (by decide) rfl (fun ls hl => ?_)
    refine lv_iload_n hx hb dL_isRetold_19 rfl (lv_at hl 1 rfl) ?_
    refine fp_if_ne (tgt := 59) hx hb (by omega) dL_isRetold_20 (by decide) (fun q20 => ?_) (fun q20 => ?_)
    · skip
      refine fp_iconst hx hb dL_isRetold_59 ?_
      refine lv_istore (lv' := [(4, .int (iI (0))), (3, .int (iI (1))), (2, .int (iI (z2))), (0, .ref (A 0)), (1, .ref (B 0))]) hx hb dL_isRetold_60 hl (by decide) rfl (fun ls hl => ?_)
      have hl := lv_sub hl (l' := [(0, .ref (A 0)), (1, .ref (B 0)), (2, .int (iI (z2))), (3, .int (iI (1))), (4, .int (iI (0)))]) [3, 4, 2, 1, 0] rfl
      have lp2 : ∀ (nf : Nat) (k : Int) (x3 : Int → Int) (n3 : Int), (0 ≤ k ∧ k ≤ c 0) → (P3 c x3 k n3) → (c 0 + 1 ≤ k + (nf : Int)) → ∀ (H : Heap) (locs : List Loc), ST D cyI A B (fp_A (OB cyI A I C ++ (OB cyI B J E ++ []))) sx.heap (c, ny, tx, tn) (e, my, x3, n3) H locs → ∀ (ls : Array Slot), lv_has ls 6 [(0, .ref (A 0)), (1, .ref (B 0)), (2, .int (iI (z2))), (3, .int (iI (1))), (4, .int (iI (k)))] → W pg l en ({ frames := 7, cells := 0, slots := 0, locals := 163 } : Room) sx mi ar bl mt cd H locs 0 0 (MQ bl (fp_Qw D (OB cyI A I C ++ (OB cyI B J E ++ [])) (fun u : SS2 => (GO u.1 u.2.1 u.2.2.2.2.1 ∧ GO u.2.2.1 u.2.2.2.1 u.2.2.2.2.2) ∧ (fun q r : OS => SmL (q.1) (r.1) ∧ TrS (q.1) (r.1) ∧ (q.1, q.2.1, q.2.2.1, q.2.2.2) = (c, ny, tx, tn)) u.2.2.2.2.1 u.2.2.2.2.2) (fun _ : SS2 => some (.int (iI 1))) (fun u : SS2 => OB cyI A u.1 u.2.1 ++ (OB cyI B u.2.2.1 u.2.2.2.1 ++ []))) ar sx 0 0 (fp_A (OB cyI A I C ++ (OB cyI B J E ++ [])))) (F0 mi 62 ls []) := by
        intro nf
        induction nf with
        | zero =>
          intro k x3 n3 ik jP hfuel
          exact absurd hfuel (by omega)
        | succ nf ih2 =>
          intro k x3 n3 ik jP hfuel H locs hT ls hl
          have hg := hT.go
          dsimp only at hg
          refine lv_iload hx hb dL_isRetold_62 (lv_at hl 4 rfl) ?_
          refine lv_iload_n hx hb dL_isRetold_64 rfl (lv_at hl 2 rfl) ?_
          refine fp_icmp_ge (tgt := 216) hx hb (by omega) dL_isRetold_65 (by decide) (fun q65 => ?_) (fun q65 => ?_)
          · skip
            have ek : k = c 0 := by omega
            rw [ek] at jP
            have hrd := rd_end hC0 h90 (by omega) jP
            refine lv_iload_n hx hb dL_isRetold_216 rfl (lv_at hl 3 rfl) ?_
            refine fp_if_eq (tgt := 232) hx hb (by omega) dL_isRetold_217 (by decide) (fun q217 => ?_) (fun q217 => ?_)
            · skip
              exfalso; omega
            · skip
              refine lv_aload_n hx hb dL_isRetold_220 rfl (lv_at hl 1 rfl) ?_
              refine fq_R (As := []) (rest := []) ⟨hx, hb, hml, hown, hts⟩ (oc_load l D cyI B (c := e) (ny := my) (x := x3) (n := n3) hrd.1 hrd.2.1 (fun rc => by have := (hrd.2.2 rc).1; omega)) (cwV 0 hts gL_isRetold_X7_load rfl rfl rfl (by decide +kernel) ⟨Nat.le_of_ble_eq_true rfl, Nat.le_of_ble_eq_true rfl⟩) hK hT rfl hl.1 rfl (Nat.le_of_ble_eq_true rfl) dL_isRetold_221 ⟨Nat.zero_le _, Nat.zero_le _⟩ (fun z221 q221_ hq221_ H locs hT => ?_)
              obtain ⟨rc221, hz221, hr221⟩ := hq221_
              subst hr221
              have hz221 : z221 = flC x3 n3 61 0 (upI rc221 0 0) 0 := hz221
              have hz221 := hz221.trans (hrd.2.2 rc221).1
              have hrs := rd_SmL (hrd.2.2 rc221) hI hN0
              refine lv_iload_n hx hb dL_isRetold_224 rfl (lv_at hl 2 rfl) ?_
              refine fp_icmp_ne (tgt := 232) hx hb (by omega) dL_isRetold_225 (by decide) (fun q225 => ?_) (fun q225 => ?_)
              · skip
                exfalso; omega
              · skip
                refine fp_iconst hx hb dL_isRetold_228 ?_
                refine lv_goto (tgt := 233) hx hb dL_isRetold_229 (by decide) ?_
                exact fq_ret2 (Po := (fun q r : OS => SmL (q.1) (r.1) ∧ TrS (q.1) (r.1) ∧ (q.1, q.2.1, q.2.2.1, q.2.2.2) = (c, ny, tx, tn))) hx hb hr hlocks hT ⟨hrs.1, hrs.2, rfl⟩ dL_isRetold_233
          · skip
            have hk9 : 0 ≤ k ∧ k < c 0 := by omega
            have hL := lot_f hC0 hk9
            unfold LotOK at hL
            have hob := off_b hC0 (j := k) (by omega)
            have her := eL_rg hC0 hk9
            have hn3 := P3_n hC0 jP (by omega) h90
            refine lv_aload_n hx hb dL_isRetold_68 rfl (lv_at hl 0 rfl) ?_
            refine lv_iload hx hb dL_isRetold_69 (lv_at hl 4 rfl) ?_
            refine fp_iconst hx hb dL_isRetold_71 ?_
            refine fq_L (As := [.int (iI (k)), .int (iI (1))]) (rest := []) ⟨hx, hb, hml, hown, hts⟩ (oc_lot l D cyI A (c := c) (ny := ny) (x := tx) (n := tn) (k := k) (w := 1) (by omega) (by omega)) (cwV 2 hts gL_isRetold_X7_lot rfl rfl rfl (by decide +kernel) ⟨Nat.le_of_ble_eq_true rfl, Nat.le_of_ble_eq_true rfl⟩) hK hT rfl hl.1 rfl (Nat.le_of_ble_eq_true rfl) dL_isRetold_72 ⟨Nat.zero_le _, Nat.zero_le _⟩ (fun z72 q72_ hq72_ H locs hT => ?_)
            obtain ⟨hz72, hr72⟩ := hq72_
            have hz72 : z72 = ltR c k 1 := hz72
            subst hr72
            have hz72 : z72 = c (k * 4 + 2) := hz72.trans (lq_1 (by omega))
            refine lv_istore (lv' := [(5, .int (iI (z72))), (0, .ref (A 0)), (1, .ref (B 0)), (2, .int (iI (z2))), (3, .int (iI (1))), (4, .int (iI (k)))]) hx hb dL_isRetold_75 hl (by decide) rfl (fun ls hl => ?_)
            refine lv_iload_n hx hb dL_isRetold_77 rfl (lv_at hl 4 rfl) ?_
            refine fp_if_eq (tgt := 117) hx hb (by omega) dL_isRetold_78 (by decide) (fun q78 => ?_) (fun q78 => ?_)
            · skip
              exfalso; omega
            · skip
              refine lv_iload hx hb dL_isRetold_81 (lv_at hl 5 rfl) ?_
              have jn7 : ∀ (x0 : Int → Int) (n0 : Int), (P0 c x0 k n0) → ∀ (H : Heap) (locs : List Loc), ST D cyI A B (fp_A (OB cyI A I C ++ (OB cyI B J E ++ []))) sx.heap (c, ny, tx, tn) (e, my, x0, n0) H locs → ∀ (ls : Array Slot), lv_has ls 6 [(0, .ref (A 0)), (1, .ref (B 0)), (2, .int (iI (z2))), (3, .int (iI (1))), (4, .int (iI (k))), (5, .int (iI (z72)))] → W pg l en ({ frames := 7, cells := 0, slots := 0, locals := 163 } : Room) sx mi ar bl mt cd H locs 0 0 (MQ bl (fp_Qw D (OB cyI A I C ++ (OB cyI B J E ++ [])) (fun u : SS2 => (GO u.1 u.2.1 u.2.2.2.2.1 ∧ GO u.2.2.1 u.2.2.2.1 u.2.2.2.2.2) ∧ (fun q r : OS => SmL (q.1) (r.1) ∧ TrS (q.1) (r.1) ∧ (q.1, q.2.1, q.2.2.1, q.2.2.2) = (c, ny, tx, tn)) u.2.2.2.2.1 u.2.2.2.2.2) (fun _ : SS2 => some (.int (iI 1))) (fun u : SS2 => OB cyI A u.1 u.2.1 ++ (OB cyI B u.2.2.1 u.2.2.2.1 ++ []))) ar sx 0 0 (fp_A (OB cyI A I C ++ (OB cyI B J E ++ [])))) (F0 mi 95 ls []) := by
                intro x0 n0 jP0 H locs hT ls hl
                have hg := hT.go
                dsimp only at hg
                have hn0 := jP0.2.1
                refine lv_aload_n hx hb dL_isRetold_95 rfl (lv_at hl 1 rfl) ?_
                refine fp_bipush hx hb dL_isRetold_96 (by decide) ?_
                refine lv_aload_n hx hb dL_isRetold_98 rfl (lv_at hl 0 rfl) ?_
                refine lv_iload hx hb dL_isRetold_99 (lv_at hl 4 rfl) ?_
                refine fp_iconst hx hb dL_isRetold_101 ?_
                refine fq_L (As := [.int (iI (k)), .int (iI (0))]) (rest := [.int (iI (48)), .ref (B 0)]) ⟨hx, hb, hml, hown, hts⟩ (oc_lot l D cyI A (c := c) (ny := ny) (x := tx) (n := tn) (k := k) (w := 0) (by omega) (by omega)) (cwV 2 hts gL_isRetold_X7_lot rfl rfl rfl (by decide +kernel) ⟨Nat.le_of_ble_eq_true rfl, Nat.le_of_ble_eq_true rfl⟩) hK hT rfl hl.1 rfl (Nat.le_of_ble_eq_true rfl) dL_isRetold_102 ⟨Nat.zero_le _, Nat.zero_le _⟩ (fun z102 q102_ hq102_ H locs hT => ?_)
                obtain ⟨hz102, hr102⟩ := hq102_
                have hz102 : z102 = ltR c k 0 := hz102
                subst hr102
                have hz102 : z102 = c (k * 4 + 1) := hz102.trans (lq_0 (by omega))
                refine fp_iadd hx hb dL_isRetold_105 ?_
                refine fq_i2c hx hb (by omega) dL_isRetold_106 ?_
                refine fq_R (As := [.int (iI (48 + z102))]) (rest := []) ⟨hx, hb, hml, hown, hts⟩ (oc_type l D cyI B (c := e) (ny := my) (x := x0) (n := n0) (v := 48 + z102) (by omega) (by omega)) (cwV 1 hts gL_isRetold_X7_type rfl rfl rfl (by decide +kernel) ⟨Nat.le_of_ble_eq_true rfl, Nat.le_of_ble_eq_true rfl⟩) hK hT rfl hl.1 rfl (Nat.le_of_ble_eq_true rfl) dL_isRetold_107 ⟨Nat.zero_le _, Nat.zero_le _⟩ (fun z107 q107_ hq107_ H locs hT => ?_)
                obtain ⟨hz107, hr107⟩ := hq107_
                subst hr107
                have hz107 : z107 = n0 + 1 := hz107
                have jP1 := P1_of hC0 jP0 hk9 (v := 48 + z102) (by omega)
                refine fp_if_le (tgt := 117) hx hb (by omega) dL_isRetold_110 (by decide) (fun q110 => ?_) (fun q110 => ?_)
                · skip
                  exfalso; omega
                · skip
                  refine fp_iconst hx hb dL_isRetold_113 ?_
                  refine lv_goto (tgt := 118) hx hb dL_isRetold_114 (by decide) ?_
                  refine lv_istore_n (lv' := [(3, .int (iI (1))), (0, .ref (A 0)), (1, .ref (B 0)), (2, .int (iI (z2))), (4, .int (iI (k))), (5, .int (iI (z72)))]) hx hb dL_isRetold_118 rfl hl (by decide) rfl (fun ls hl => ?_)
                  refine lv_iload hx hb dL_isRetold_119 (lv_at hl 5 rfl) ?_
                  have jn9 : ∀ (x2 : Int → Int) (n2 : Int), (P2 c x2 k n2) → ∀ (H : Heap) (locs : List Loc), ST D cyI A B (fp_A (OB cyI A I C ++ (OB cyI B J E ++ []))) sx.heap (c, ny, tx, tn) (e, my, x2, n2) H locs → ∀ (ls : Array Slot), lv_has ls 6 [(0, .ref (A 0)), (1, .ref (B 0)), (2, .int (iI (z2))), (3, .int (iI (1))), (4, .int (iI (k))), (5, .int (iI (z72)))] → W pg l en ({ frames := 7, cells := 0, slots := 0, locals := 163 } : Room) sx mi ar bl mt cd H locs 0 0 (MQ bl (fp_Qw D (OB cyI A I C ++ (OB cyI B J E ++ [])) (fun u : SS2 => (GO u.1 u.2.1 u.2.2.2.2.1 ∧ GO u.2.2.1 u.2.2.2.1 u.2.2.2.2.2) ∧ (fun q r : OS => SmL (q.1) (r.1) ∧ TrS (q.1) (r.1) ∧ (q.1, q.2.1, q.2.2.1, q.2.2.2) = (c, ny, tx, tn)) u.2.2.2.2.1 u.2.2.2.2.2) (fun _ : SS2 => some (.int (iI 1))) (fun u : SS2 => OB cyI A u.1 u.2.1 ++ (OB cyI B u.2.2.1 u.2.2.2.1 ++ []))) ar sx 0 0 (fp_A (OB cyI A I C ++ (OB cyI B J E ++ [])))) (F0 mi 181 ls []) := by
                    intro x2 n2 jP2 H locs hT ls hl
                    have hg := hT.go
                    dsimp only at hg
                    have hn2 := jP2.2.1
                    refine lv_iload_n hx hb dL_isRetold_181 rfl (lv_at hl 3 rfl) ?_
                    refine fp_if_eq (tgt := 208) hx hb (by omega) dL_isRetold_182 (by decide) (fun q182 => ?_) (fun q182 => ?_)
                    · skip
                      exfalso; omega
                    · skip
                      refine lv_aload_n hx hb dL_isRetold_185 rfl (lv_at hl 0 rfl) ?_
                      refine lv_iload hx hb dL_isRetold_186 (lv_at hl 4 rfl) ?_
                      refine fp_iconst hx hb dL_isRetold_188 ?_
                      refine fq_L (As := [.int (iI (k)), .int (iI (2))]) (rest := []) ⟨hx, hb, hml, hown, hts⟩ (oc_lot l D cyI A (c := c) (ny := ny) (x := tx) (n := tn) (k := k) (w := 2) (by omega) (by omega)) (cwV 2 hts gL_isRetold_X7_lot rfl rfl rfl (by decide +kernel) ⟨Nat.le_of_ble_eq_true rfl, Nat.le_of_ble_eq_true rfl⟩) hK hT rfl hl.1 rfl (Nat.le_of_ble_eq_true rfl) dL_isRetold_189 ⟨Nat.zero_le _, Nat.zero_le _⟩ (fun z189 q189_ hq189_ H locs hT => ?_)
                      obtain ⟨hz189, hr189⟩ := hq189_
                      have hz189 : z189 = ltR c k 2 := hz189
                      subst hr189
                      have hz189 : z189 = c (k * 4 + 3) := hz189.trans (lq_2 (by omega))
                      refine fp_if_eq (tgt := 204) hx hb (by omega) dL_isRetold_192 (by decide) (fun q192 => ?_) (fun q192 => ?_)
                      · skip
                        refine fp_iconst hx hb dL_isRetold_204 ?_
                        refine lv_goto (tgt := 209) hx hb dL_isRetold_205 (by decide) ?_
                        refine lv_istore_n (lv' := [(3, .int (iI (1))), (0, .ref (A 0)), (1, .ref (B 0)), (2, .int (iI (z2))), (4, .int (iI (k))), (5, .int (iI (z72)))]) hx hb dL_isRetold_209 rfl hl (by decide) rfl (fun ls hl => ?_)
                        refine fp_iinc (k := 4) (lv' := [(4, .int (iI (k + 1))), (3, .int (iI (1))), (0, .ref (A 0)), (1, .ref (B 0)), (2, .int (iI (z2))), (5, .int (iI (z72)))]) hx hb dL_isRetold_210 hl rfl (by decide) rfl (fun ls hl => ?_)
                        refine lv_goto (tgt := 62) hx hb dL_isRetold_213 (by decide) ?_
                        have hP3 := P3_a hk9.1 jP2 (by omega)
                        exact ih2 (k + 1) x2 n2 (by omega) hP3 (by omega) H locs hT ls (lv_sub hl [2, 3, 4, 1, 0] rfl)
                      · skip
                        refine lv_aload_n hx hb dL_isRetold_195 rfl (lv_at hl 1 rfl) ?_
                        refine fp_bipush hx hb dL_isRetold_196 (by decide) ?_
                        refine fq_R (As := [.int (iI (43))]) (rest := []) ⟨hx, hb, hml, hown, hts⟩ (oc_type l D cyI B (c := e) (ny := my) (x := x2) (n := n2) (v := 43) (by omega) (by omega)) (cwV 1 hts gL_isRetold_X7_type rfl rfl rfl (by decide +kernel) ⟨Nat.le_of_ble_eq_true rfl, Nat.le_of_ble_eq_true rfl⟩) hK hT rfl hl.1 rfl (Nat.le_of_ble_eq_true rfl) dL_isRetold_198 ⟨Nat.zero_le _, Nat.zero_le _⟩ (fun z198 q198_ hq198_ H locs hT => ?_)
                        obtain ⟨hz198, hr198⟩ := hq198_
                        subst hr198
                        have hz198 : z198 = n2 + 1 := hz198
                        refine fp_if_le (tgt := 208) hx hb (by omega) dL_isRetold_201 (by decide) (fun q201 => ?_) (fun q201 => ?_)
                        · skip
                          exfalso; omega
                        · skip
                          refine fp_iconst hx hb dL_isRetold_204 ?_
                          refine lv_goto (tgt := 209) hx hb dL_isRetold_205 (by decide) ?_
                          refine lv_istore_n (lv' := [(3, .int (iI (1))), (0, .ref (A 0)), (1, .ref (B 0)), (2, .int (iI (z2))), (4, .int (iI (k))), (5, .int (iI (z72)))]) hx hb dL_isRetold_209 rfl hl (by decide) rfl (fun ls hl => ?_)
                          refine fp_iinc (k := 4) (lv' := [(4, .int (iI (k + 1))), (3, .int (iI (1))), (0, .ref (A 0)), (1, .ref (B 0)), (2, .int (iI (z2))), (5, .int (iI (z72)))]) hx hb dL_isRetold_210 hl rfl (by decide) rfl (fun ls hl => ?_)
                          refine lv_goto (tgt := 62) hx hb dL_isRetold_213 (by decide) ?_
                          have hP3 := P3_b hC0 hk9 jP2 (by omega)
                          exact ih2 (k + 1) (upI x2 n2 43) (n2 + 1) (by omega) hP3 (by omega) H locs hT ls (lv_sub hl [2, 3, 4, 1, 0] rfl)
                  refine fp_if_le (tgt := 181) hx hb (by omega) dL_isRetold_121 (by decide) (fun q121 => ?_) (fun q121 => ?_)
                  · skip
                    exact jn9 (upI x0 n0 (48 + z102)) (n0 + 1) (by first | exact P2_a jP1 (by omega) | exact P2_b hC0 jP1 hk9 hp9 hvc (by omega)) H locs hT ls (lv_sub hl [1, 2, 3, 0, 4, 5] rfl)
                  · skip
                    have hp9 : ¬ c (k * 4 + 2) = 0 := by omega
                    refine lv_iload_n hx hb dL_isRetold_124 rfl (lv_at hl 0 rfl) ?_
                    refine fp_if_eq (tgt := 179) hx hb (by omega) dL_isRetold_125 (by decide) (fun q125 => ?_) (fun q125 => ?_)
                    · skip
                      exfalso; omega
                    · skip
                      refine lv_aload_n hx hb dL_isRetold_128 rfl (lv_at hl 2 rfl) ?_
                      refine lv_iload hx hb dL_isRetold_129 (lv_at hl 5 rfl) ?_
                      refine fp_iconst hx hb dL_isRetold_131 ?_
                      have jn15 : ∀ (vc : Int), (vc = 97 + c (k * 4 + 2)) → ∀ (H : Heap) (locs : List Loc), ST D cyI A B (fp_A (OB cyI A I C ++ (OB cyI B J E ++ []))) sx.heap (c, ny, tx, tn) (e, my, upI x0 n0 (48 + z102), n0 + 1) H locs → ∀ (ls : Array Slot), lv_has ls 6 [(0, .ref (A 0)), (1, .ref (B 0)), (2, .int (iI (z2))), (3, .int (iI (1))), (4, .int (iI (k))), (5, .int (iI (z72)))] → W pg l en ({ frames := 7, cells := 0, slots := 0, locals := 163 } : Room) sx mi ar bl mt cd H locs 0 0 (MQ bl (fp_Qw D (OB cyI A I C ++ (OB cyI B J E ++ [])) (fun u : SS2 => (GO u.1 u.2.1 u.2.2.2.2.1 ∧ GO u.2.2.1 u.2.2.2.1 u.2.2.2.2.2) ∧ (fun q r : OS => SmL (q.1) (r.1) ∧ TrS (q.1) (r.1) ∧ (q.1, q.2.1, q.2.2.1, q.2.2.2) = (c, ny, tx, tn)) u.2.2.2.2.1 u.2.2.2.2.2) (fun _ : SS2 => some (.int (iI 1))) (fun u : SS2 => OB cyI A u.1 u.2.1 ++ (OB cyI B u.2.2.1 u.2.2.2.1 ++ []))) ar sx 0 0 (fp_A (OB cyI A I C ++ (OB cyI B J E ++ [])))) (F0 mi 142 ls [.int (iI (vc)), .ref (B 0)]) := by
                        intro vc hvc H locs hT ls hl
                        have hg := hT.go
                        dsimp only at hg
                        refine fq_R (As := [.int (iI (vc))]) (rest := []) ⟨hx, hb, hml, hown, hts⟩ (oc_type l D cyI B (c := e) (ny := my) (x := (upI x0 n0 (48 + z102))) (n := (n0 + 1)) (v := vc) (by omega) (by omega)) (cwV 1 hts gL_isRetold_X7_type rfl rfl rfl (by decide +kernel) ⟨Nat.le_of_ble_eq_true rfl, Nat.le_of_ble_eq_true rfl⟩) hK hT rfl hl.1 rfl (Nat.le_of_ble_eq_true rfl) dL_isRetold_142 ⟨Nat.zero_le _, Nat.zero_le _⟩ (fun z142 q142_ hq142_ H locs hT => ?_)
                        obtain ⟨hz142, hr142⟩ := hq142_
                        subst hr142
                        have hz142 : z142 = n0 + 1 + 1 := hz142
                        refine fp_if_le (tgt := 179) hx hb (by omega) dL_isRetold_145 (by decide) (fun q145 => ?_) (fun q145 => ?_)
                        · skip
                          exfalso; omega
                        · skip
                          refine lv_aload_n hx hb dL_isRetold_148 rfl (lv_at hl 1 rfl) ?_
                          refine fp_bipush hx hb dL_isRetold_149 (by decide) ?_
                          refine fq_R (As := [.int (iI (64))]) (rest := []) ⟨hx, hb, hml, hown, hts⟩ (oc_type l D cyI B (c := e) (ny := my) (x := (upI (upI x0 n0 (48 + z102)) (n0 + 1) vc)) (n := (n0 + 1 + 1)) (v := 64) (by omega) (by omega)) (cwV 1 hts gL_isRetold_X7_type rfl rfl rfl (by decide +kernel) ⟨Nat.le_of_ble_eq_true rfl, Nat.le_of_ble_eq_true rfl⟩) hK hT rfl hl.1 rfl (Nat.le_of_ble_eq_true rfl) dL_isRetold_151 ⟨Nat.zero_le _, Nat.zero_le _⟩ (fun z151 q151_ hq151_ H locs hT => ?_)
                          obtain ⟨hz151, hr151⟩ := hq151_
                          subst hr151
                          have hz151 : z151 = n0 + 1 + 1 + 1 := hz151
                          refine fp_if_le (tgt := 179) hx hb (by omega) dL_isRetold_154 (by decide) (fun q154 => ?_) (fun q154 => ?_)
                          · skip
                            exfalso; omega
                          · skip
                            refine lv_aload_n hx hb dL_isRetold_157 rfl (lv_at hl 1 rfl) ?_
                            refine fp_bipush hx hb dL_isRetold_158 (by decide) ?_
                            refine lv_aload_n hx hb dL_isRetold_160 rfl (lv_at hl 0 rfl) ?_
                            refine lv_iload hx hb dL_isRetold_161 (lv_at hl 4 rfl) ?_
                            refine fp_iconst hx hb dL_isRetold_163 ?_
                            refine fq_L (As := [.int (iI (k)), .int (iI (3))]) (rest := [.int (iI (48)), .ref (B 0)]) ⟨hx, hb, hml, hown, hts⟩ (oc_lot l D cyI A (c := c) (ny := ny) (x := tx) (n := tn) (k := k) (w := 3) (by omega) (by omega)) (cwV 2 hts gL_isRetold_X7_lot rfl rfl rfl (by decide +kernel) ⟨Nat.le_of_ble_eq_true rfl, Nat.le_of_ble_eq_true rfl⟩) hK hT rfl hl.1 rfl (Nat.le_of_ble_eq_true rfl) dL_isRetold_164 ⟨Nat.zero_le _, Nat.zero_le _⟩ (fun z164 q164_ hq164_ H locs hT => ?_)
                            obtain ⟨hz164, hr164⟩ := hq164_
                            have hz164 : z164 = ltR c k 3 := hz164
                            subst hr164
                            have hz164 : z164 = if c (k * 4 + 2) = 0 then -5 else c (k * 4 + 4) := hz164.trans (lq_3 (by omega))
                            rw [if_neg hp9] at hz164
                            refine fp_iadd hx hb dL_isRetold_167 ?_
                            refine fq_i2c hx hb (by omega) dL_isRetold_168 ?_
                            refine fq_R (As := [.int (iI (48 + z164))]) (rest := []) ⟨hx, hb, hml, hown, hts⟩ (oc_type l D cyI B (c := e) (ny := my) (x := (upI (upI (upI x0 n0 (48 + z102)) (n0 + 1) vc) (n0 + 1 + 1) 64)) (n := (n0 + 1 + 1 + 1)) (v := 48 + z164) (by omega) (by omega)) (cwV 1 hts gL_isRetold_X7_type rfl rfl rfl (by decide +kernel) ⟨Nat.le_of_ble_eq_true rfl, Nat.le_of_ble_eq_true rfl⟩) hK hT rfl hl.1 rfl (Nat.le_of_ble_eq_true rfl) dL_isRetold_169 ⟨Nat.zero_le _, Nat.zero_le _⟩ (fun z169 q169_ hq169_ H locs hT => ?_)
                            obtain ⟨hz169, hr169⟩ := hq169_
                            subst hr169
                            have hz169 : z169 = n0 + 1 + 1 + 1 + 1 := hz169
                            refine fp_if_le (tgt := 179) hx hb (by omega) dL_isRetold_172 (by decide) (fun q172 => ?_) (fun q172 => ?_)
                            · skip
                              exfalso; omega
                            · skip
                              refine fp_iconst hx hb dL_isRetold_175 ?_
                              refine lv_goto (tgt := 180) hx hb dL_isRetold_176 (by decide) ?_
                              refine lv_istore_n (lv' := [(3, .int (iI (1))), (0, .ref (A 0)), (1, .ref (B 0)), (2, .int (iI (z2))), (4, .int (iI (k))), (5, .int (iI (z72)))]) hx hb dL_isRetold_180 rfl hl (by decide) rfl (fun ls hl => ?_)
                              exact jn9 (upI (upI (upI (upI x0 n0 (48 + z102)) (n0 + 1) vc) (n0 + 1 + 1) 64) (n0 + 1 + 1 + 1) (48 + z164)) (n0 + 1 + 1 + 1 + 1) (by first | exact P2_a jP1 (by omega) | exact P2_b hC0 jP1 hk9 hp9 hvc (by omega)) H locs hT ls (lv_sub hl [1, 2, 3, 0, 4, 5] rfl)
                      refine fp_icmp_ne (tgt := 140) hx hb (by omega) dL_isRetold_132 (by decide) (fun q132 => ?_) (fun q132 => ?_)
                      · skip
                        refine fp_bipush hx hb dL_isRetold_140 (by decide) ?_
                        exact jn15 99 (by omega) H locs hT ls (lv_sub hl [1, 2, 3, 0, 4, 5] rfl)
                      · skip
                        refine fp_bipush hx hb dL_isRetold_135 (by decide) ?_
                        refine lv_goto (tgt := 142) hx hb dL_isRetold_137 (by decide) ?_
                        exact jn15 98 (by omega) H locs hT ls (lv_sub hl [1, 2, 3, 0, 4, 5] rfl)
              refine fp_if_eq (tgt := 95) hx hb (by omega) dL_isRetold_83 (by decide) (fun q83 => ?_) (fun q83 => ?_)
              · skip
                exact jn7 x3 n3 (by first | exact P0_a jP (by omega) | exact P0_b hC0 jP (by omega)) H locs hT ls (lv_sub hl [1, 2, 3, 4, 5, 0] rfl)
              · skip
                refine lv_aload_n hx hb dL_isRetold_86 rfl (lv_at hl 2 rfl) ?_
                refine fp_bipush hx hb dL_isRetold_87 (by decide) ?_
                refine fq_R (As := [.int (iI (44))]) (rest := []) ⟨hx, hb, hml, hown, hts⟩ (oc_type l D cyI B (c := e) (ny := my) (x := x3) (n := n3) (v := 44) (by omega) (by omega)) (cwV 1 hts gL_isRetold_X7_type rfl rfl rfl (by decide +kernel) ⟨Nat.le_of_ble_eq_true rfl, Nat.le_of_ble_eq_true rfl⟩) hK hT rfl hl.1 rfl (Nat.le_of_ble_eq_true rfl) dL_isRetold_89 ⟨Nat.zero_le _, Nat.zero_le _⟩ (fun z89 q89_ hq89_ H locs hT => ?_)
                obtain ⟨hz89, hr89⟩ := hq89_
                subst hr89
                have hz89 : z89 = n3 + 1 := hz89
                refine fp_if_le (tgt := 117) hx hb (by omega) dL_isRetold_92 (by decide) (fun q92 => ?_) (fun q92 => ?_)
                · skip
                  exfalso; omega
                · skip
                  exact jn7 (upI x3 n3 44) (n3 + 1) (by first | exact P0_a jP (by omega) | exact P0_b hC0 jP (by omega)) H locs hT ls (lv_sub hl [1, 2, 3, 4, 5, 0] rfl)
      exact lp2 (((c 0 : Int) + 1 - (0)).toNat) 0 ux 0 (by omega) (P3_0 c ux) (by omega) H locs hT ls hl
    · skip
      have hl := lv_sub hl (l' := [(0, .ref (A 0)), (1, .ref (B 0)), (2, .int (iI (z2))), (3, .int (iI (1)))]) [2, 3, 1, 0] rfl
      have lp22 : ∀ (nf : Nat) (e2 : Int → Int) (m2 : Int), (TrS c e2) → (0 ≤ e2 0) → (e2 0 + 1 ≤ (nf : Int)) → ∀ (H : Heap) (locs : List Loc), ST D cyI A B (fp_A (OB cyI A I C ++ (OB cyI B J E ++ []))) sx.heap (c, ny, tx, tn) (e2, m2, ux, 0) H locs → ∀ (ls : Array Slot), lv_has ls 6 [(0, .ref (A 0)), (1, .ref (B 0)), (2, .int (iI (z2))), (3, .int (iI (1)))] → W pg l en ({ frames := 7, cells := 0, slots := 0, locals := 163 } : Room) sx mi ar bl mt cd H locs 0 0 (MQ bl (fp_Qw D (OB cyI A I C ++ (OB cyI B J E ++ [])) (fun u : SS2 => (GO u.1 u.2.1 u.2.2.2.2.1 ∧ GO u.2.2.1 u.2.2.2.1 u.2.2.2.2.2) ∧ (fun q r : OS => SmL (q.1) (r.1) ∧ TrS (q.1) (r.1) ∧ (q.1, q.2.1, q.2.2.1, q.2.2.2) = (c, ny, tx, tn)) u.2.2.2.2.1 u.2.2.2.2.2) (fun _ : SS2 => some (.int (iI 1))) (fun u : SS2 => OB cyI A u.1 u.2.1 ++ (OB cyI B u.2.2.1 u.2.2.2.1 ++ []))) ar sx 0 0 (fp_A (OB cyI A I C ++ (OB cyI B J E ++ [])))) (F0 mi 23 ls []) := by
        intro nf
        induction nf with
        | zero =>
          intro e2 m2 jT j2 hfuel
          exact absurd hfuel (by omega)
        | succ nf ih22 =>
          intro e2 m2 jT j2 hfuel H locs hT ls hl
          have hg := hT.go
          dsimp only at hg
          have hE2 := hg.2.1.1
          have hN2 := hE2.1
          refine lv_aload_n hx hb dL_isRetold_23 rfl (lv_at hl 1 rfl) ?_
          refine fp_iconst hx hb dL_isRetold_24 ?_
          refine fq_R (As := [.int (iI (0))]) (rest := []) ⟨hx, hb, hml, hown, hts⟩ (oc_count l D cyI B (c := e2) (ny := m2) (x := ux) (n := 0) (w := 0) (by omega)) (cwV 1 hts gL_isRetold_X7_count rfl rfl rfl (by decide +kernel) ⟨Nat.le_of_ble_eq_true rfl, Nat.le_of_ble_eq_true rfl⟩) hK hT rfl hl.1 rfl (Nat.le_of_ble_eq_true rfl) dL_isRetold_25 ⟨Nat.zero_le _, Nat.zero_le _⟩ (fun z25 q25_ hq25_ H locs hT => ?_)
          obtain ⟨hz25, hr25⟩ := hq25_
          have hz25 : z25 = cnR e2 m2 0 0 := hz25
          subst hr25
          have hz25 : z25 = e2 0 := hz25
          refine fp_if_le (tgt := 57) hx hb (by omega) dL_isRetold_28 (by decide) (fun q28 => ?_) (fun q28 => ?_)
          · skip
            refine lv_iload_n hx hb dL_isRetold_57 rfl (lv_at hl 3 rfl) ?_
            exact fq_ret2 (Po := (fun q r : OS => SmL (q.1) (r.1) ∧ TrS (q.1) (r.1) ∧ (q.1, q.2.1, q.2.2.1, q.2.2.2) = (c, ny, tx, tn))) hx hb hr hlocks hT ⟨⟨by dsimp only; omega, fun k a b => by dsimp only at b; omega, jT.1.1.symm⟩, jT, rfl⟩ dL_isRetold_58
          · skip
            refine lv_iload_n hx hb dL_isRetold_31 rfl (lv_at hl 3 rfl) ?_
            refine fp_if_eq (tgt := 52) hx hb (by omega) dL_isRetold_32 (by decide) (fun q32 => ?_) (fun q32 => ?_)
            · skip
              exfalso; omega
            · skip
              refine lv_aload_n hx hb dL_isRetold_35 rfl (lv_at hl 1 rfl) ?_
              refine fp_iconst hx hb dL_isRetold_36 ?_
              refine fq_R (As := [.int (iI (0))]) (rest := []) ⟨hx, hb, hml, hown, hts⟩ (oc_remove l D cyI B (c := e2) (ny := m2) (x := ux) (n := 0) (k := 0) (by omega)) (cwV 1 hts gL_isRetold_X7_remove rfl rfl rfl (by decide +kernel) ⟨Nat.le_of_ble_eq_true rfl, Nat.le_of_ble_eq_true rfl⟩) hK hT rfl hl.1 rfl (Nat.le_of_ble_eq_true rfl) dL_isRetold_37 ⟨Nat.zero_le _, Nat.zero_le _⟩ (fun z37 q37_ hq37_ H locs hT => ?_)
              obtain ⟨hz37, hr37⟩ := hq37_
              have hz37 : z37 = rmR e2 0 := hz37
              obtain ⟨c37, n37, x37_, n37_⟩ := q37_
              have hc37 : c37 = if 0 ≤ rmR e2 0 then rmC e2 0 else e2 := congrArg (fun z : OS => z.1) hr37
              have hn37 : n37 = if 0 ≤ rmR e2 0 then recN m2 else m2 := congrArg (fun z : OS => z.2.1) hr37
              rw [show x37_ = ux from congrArg (fun z : OS => z.2.2.1) hr37, show n37_ = 0 from congrArg (fun z : OS => z.2.2.2) hr37] at hT
              have hg := hT.go
              dsimp only at hg
              have hrm := rm_ok hE2 (k := 0) (by omega) hc37
              rw [hrm.1] at hz37
              have hTr := TrS_rm jT (k := 0) hE2.1
              have hTr2 : TrS c c37 := by
                have h9 : (0 : Int) ≤ rmR e2 0 := by rw [hrm.1]; omega
                rw [if_pos h9] at hc37
                rw [hc37]; exact hTr
              refine lv_aload_n hx hb dL_isRetold_40 rfl (lv_at hl 1 rfl) ?_
              refine fp_iconst hx hb dL_isRetold_41 ?_
              refine fq_R (As := [.int (iI (0))]) (rest := [.int (iI (z37))]) ⟨hx, hb, hml, hown, hts⟩ (oc_count l D cyI B (c := c37) (ny := n37) (x := ux) (n := 0) (w := 0) (by omega)) (cwV 1 hts gL_isRetold_X7_count rfl rfl rfl (by decide +kernel) ⟨Nat.le_of_ble_eq_true rfl, Nat.le_of_ble_eq_true rfl⟩) hK hT rfl hl.1 rfl (Nat.le_of_ble_eq_true rfl) dL_isRetold_42 ⟨Nat.zero_le _, Nat.zero_le _⟩ (fun z42 q42_ hq42_ H locs hT => ?_)
              obtain ⟨hz42, hr42⟩ := hq42_
              have hz42 : z42 = cnR c37 n37 0 0 := hz42
              subst hr42
              have hz42 : z42 = c37 0 := hz42
              refine fp_icmp_ne (tgt := 52) hx hb (by omega) dL_isRetold_45 (by decide) (fun q45 => ?_) (fun q45 => ?_)
              · skip
                exfalso; omega
              · skip
                refine fp_iconst hx hb dL_isRetold_48 ?_
                refine lv_goto (tgt := 53) hx hb dL_isRetold_49 (by decide) ?_
                refine lv_istore_n (lv' := [(3, .int (iI (1))), (0, .ref (A 0)), (1, .ref (B 0)), (2, .int (iI (z2)))]) hx hb dL_isRetold_53 rfl hl (by decide) rfl (fun ls hl => ?_)
                refine lv_goto (tgt := 23) hx hb dL_isRetold_54 (by decide) ?_
                exact ih22 c37 n37 hTr2 (by omega) (by omega) H locs hT ls (lv_sub hl [1, 2, 3, 0] rfl)
      exact lp22 ((e 0 + 2).toNat) e my hI (by omega) (by omega) H locs hT ls hl
