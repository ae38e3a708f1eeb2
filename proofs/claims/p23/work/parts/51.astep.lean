set_option maxHeartbeats 8000000 in
set_option maxRecDepth 100000 in
theorem c_L_isStep (l : Launch) (D : va_G) (cyI : ClassId) (A B : Nat → Nat) {c : Int → Int} {ny : Int} {tx : Int → Int} {tn : Int} {e : Int → Int} {my : Int} {ux : Int → Int} {un : Int} {xa : Int} {ya : Int} (hI : TrS c e) : LC2 l yL_isStep wsL_isStep ({ frames := 7, cells := 0, slots := 0, locals := 171 } : Room) D cyI A B [.int (iI (xa)), .int (iI (ya))] (c, ny, tx, tn) (e, my, ux, un) (fun q r : OS => TrS (q.1) (r.1)) := by
  intro I C J E g1 g2
  refine fp_start (cc := cL_isStep) (maxL := 14) (ret := (some .boolean)) (by decide) rfl (Nat.le_of_ble_eq_true rfl) ?_
  intro pg en sx mi ar bl mt cd ls hx hb hr hts hown hlocks hml hnm hP hK hD hl
  have hown : sx.vm.findClass RL = some mi.cls := hown
  have hl : lv_has ls 14 [(0, .ref (A 0)), (1, .ref (B 0)), (2, .int (iI (xa))), (3, .int (iI (ya)))] := hl
  have hT : ST D cyI A B (fp_A (OB cyI A I C ++ (OB cyI B J E ++ []))) sx.heap (c, ny, tx, tn) (e, my, ux, un) sx.heap [] := ST.in g1 g2 hP hD
  have hg := hT.go
  dsimp only at hg
  have hC0 := hg.1.1.1
  have hN0 := hC0.1
  have h90 := hg.1.1.2
  have hE0 := hg.2.1.1
  have hny0 := hg.1.2.1
  have hpn0 := pg_nn hC0
  have hbn0 := bl_nn hC0
  refine lv_iload_n hx hb dL_isStep_0 rfl (lv_at hl 2 rfl) ?_
  refine fp_iconst hx hb dL_isStep_1 ?_
  refine fq_shr hx hb dL_isStep_2 (fun s2 hs2 => ?_)
  refine lv_istore (lv' := [(4, .int (iI (s2))), (0, .ref (A 0)), (1, .ref (B 0)), (2, .int (iI (xa))), (3, .int (iI (ya)))]) hx hb dL_isStep_3 hl (by decide) rfl (fun ls hl => ?_)
  refine lv_aload_n hx hb dL_isStep_5 rfl (lv_at hl 1 rfl) ?_
  refine fp_iconst hx hb dL_isStep_6 ?_
  refine fq_L (As := [.int (iI (0))]) (rest := []) ⟨hx, hb, hml, hown, hts⟩ (oc_count l D cyI A (c := c) (ny := ny) (x := tx) (n := tn) (w := 0) (by omega)) (cwV 1 hts gL_isStep_X7_count rfl rfl rfl (by decide +kernel) ⟨Nat.le_of_ble_eq_true rfl, Nat.le_of_ble_eq_true rfl⟩) hK hT rfl hl.1 rfl (Nat.le_of_ble_eq_true rfl) dL_isStep_7 ⟨Nat.zero_le _, Nat.zero_le _⟩ (fun z7 q7_ hq7_ H locs hT => ?_)
  obtain ⟨hz7, hr7⟩ := hq7_
  have hz7 : z7 = cnR c ny tn 0 := hz7
  subst hr7
  have hz7 : z7 = c 0 := hz7
  refine lv_istore (lv' := [(5, .int (iI (z7))), (4, .int (iI (s2))), (0, .ref (A 0)), (1, .ref (B 0)), (2, .int (iI (xa))), (3, .int (iI (ya)))]) hx hb dL_isStep_10 hl (by decide) rfl (fun ls hl => ?_)
  refine lv_iload hx hb dL_isStep_12 (lv_at hl 1 rfl) ?_
  refine lv_iload hx hb dL_isStep_14 (lv_at hl 0 rfl) ?_
  refine fp_iconst hx hb dL_isStep_16 ?_
  refine fp_iadd hx hb dL_isStep_17 ?_
  refine fq_P (As := [.int (iI (s2)), .int (iI (z7 + 1))]) (rest := []) ⟨hx, hb, hml, hown, hts⟩ (c_L_up l D cyI (s2) (z7 + 1) (by omega)) (va_cwS 2 hts gL_isStep_L_up rfl rfl rfl (by decide +kernel) ⟨Nat.le_of_ble_eq_true rfl, Nat.le_of_ble_eq_true rfl⟩) hK rfl hl.1 rfl (Nat.le_of_ble_eq_true rfl) dL_isStep_18 ⟨Nat.zero_le _, Nat.zero_le _⟩ ?_
  have hu18 := upV_rg (s2) (n := z7 + 1) (by omega)
  obtain ⟨u18, eu18⟩ : ∃ z : Int, z = upV (s2) (z7 + 1) := ⟨_, rfl⟩
  rw [← eu18]
  rw [← eu18] at hu18
  refine lv_istore (lv' := [(6, .int (iI (u18))), (5, .int (iI (z7))), (4, .int (iI (s2))), (0, .ref (A 0)), (1, .ref (B 0)), (2, .int (iI (xa))), (3, .int (iI (ya)))]) hx hb dL_isStep_21 hl (by decide) rfl (fun ls hl => ?_)
  refine lv_aload_n hx hb dL_isStep_23 rfl (lv_at hl 3 rfl) ?_
  refine fp_iconst hx hb dL_isStep_24 ?_
  refine fq_L (As := [.int (iI (4))]) (rest := []) ⟨hx, hb, hml, hown, hts⟩ (oc_count l D cyI A (c := c) (ny := ny) (x := tx) (n := tn) (w := 4) (by omega)) (cwV 1 hts gL_isStep_X7_count rfl rfl rfl (by decide +kernel) ⟨Nat.le_of_ble_eq_true rfl, Nat.le_of_ble_eq_true rfl⟩) hK hT rfl hl.1 rfl (Nat.le_of_ble_eq_true rfl) dL_isStep_25 ⟨Nat.zero_le _, Nat.zero_le _⟩ (fun z25 q25_ hq25_ H locs hT => ?_)
  obtain ⟨hz25, hr25⟩ := hq25_
  have hz25 : z25 = cnR c ny tn 4 := hz25
  subst hr25
  have hz25 : z25 = pgC c (c 0) := hz25
  refine lv_istore (lv' := [(7, .int (iI (z25))), (6, .int (iI (u18))), (5, .int (iI (z7))), (4, .int (iI (s2))), (0, .ref (A 0)), (1, .ref (B 0)), (2, .int (iI (xa))), (3, .int (iI (ya)))]) hx hb dL_isStep_28 hl (by decide) rfl (fun ls hl => ?_)
  refine lv_aload_n hx hb dL_isStep_30 rfl (lv_at hl 4 rfl) ?_
  refine fp_bipush hx hb dL_isStep_31 (by decide) ?_
  refine fq_L (As := [.int (iI (8))]) (rest := []) ⟨hx, hb, hml, hown, hts⟩ (oc_count l D cyI A (c := c) (ny := ny) (x := tx) (n := tn) (w := 8) (by omega)) (cwV 1 hts gL_isStep_X7_count rfl rfl rfl (by decide +kernel) ⟨Nat.le_of_ble_eq_true rfl, Nat.le_of_ble_eq_true rfl⟩) hK hT rfl hl.1 rfl (Nat.le_of_ble_eq_true rfl) dL_isStep_33 ⟨Nat.zero_le _, Nat.zero_le _⟩ (fun z33 q33_ hq33_ H locs hT => ?_)
  obtain ⟨hz33, hr33⟩ := hq33_
  have hz33 : z33 = cnR c ny tn 8 := hz33
  subst hr33
  have hz33 : z33 = blC c := hz33
  refine lv_istore (lv' := [(8, .int (iI (z33))), (7, .int (iI (z25))), (6, .int (iI (u18))), (5, .int (iI (z7))), (4, .int (iI (s2))), (0, .ref (A 0)), (1, .ref (B 0)), (2, .int (iI (xa))), (3, .int (iI (ya)))]) hx hb dL_isStep_36 hl (by decide) rfl (fun ls hl => ?_)
  refine lv_iload_n hx hb dL_isStep_38 rfl (lv_at hl 7 rfl) ?_
  refine fp_bipush hx hb dL_isStep_39 (by decide) ?_
  refine fq_P (As := [.int (iI (xa)), .int (iI (13))]) (rest := []) ⟨hx, hb, hml, hown, hts⟩ (c_L_up l D cyI (xa) (13) (by omega)) (va_cwS 2 hts gL_isStep_L_up rfl rfl rfl (by decide +kernel) ⟨Nat.le_of_ble_eq_true rfl, Nat.le_of_ble_eq_true rfl⟩) hK rfl hl.1 rfl (Nat.le_of_ble_eq_true rfl) dL_isStep_41 ⟨Nat.zero_le _, Nat.zero_le _⟩ ?_
  have hu41 := upV_rg (xa) (n := 13) (by omega)
  obtain ⟨u41, eu41⟩ : ∃ z : Int, z = upV (xa) (13) := ⟨_, rfl⟩
  rw [← eu41]
  rw [← eu41] at hu41
  have jn0 : ∀ (H : Heap) (locs : List Loc), ST D cyI A B (fp_A (OB cyI A I C ++ (OB cyI B J E ++ []))) sx.heap (c, ny, tx, tn) (e, my, ux, un) H locs → ∀ (ls : Array Slot), lv_has ls 14 [(0, .ref (A 0)), (1, .ref (B 0)), (2, .int (iI (xa))), (3, .int (iI (ya))), (4, .int (iI (s2))), (5, .int (iI (z7))), (6, .int (iI (u18))), (7, .int (iI (z25))), (8, .int (iI (z33)))] → W pg l en ({ frames := 7, cells := 0, slots := 0, locals := 171 } : Room) sx mi ar bl mt cd H locs 0 0 (MQ bl (fp_Qw D (OB cyI A I C ++ (OB cyI B J E ++ [])) (fun u : SS2 => (GO u.1 u.2.1 u.2.2.2.2.1 ∧ GO u.2.2.1 u.2.2.2.1 u.2.2.2.2.2) ∧ (fun q r : OS => TrS (q.1) (r.1)) u.2.2.2.2.1 u.2.2.2.2.2) (fun _ : SS2 => some (.int (iI 1))) (fun u : SS2 => OB cyI A u.1 u.2.1 ++ (OB cyI B u.2.2.1 u.2.2.2.1 ++ []))) ar sx 0 0 (fp_A (OB cyI A I C ++ (OB cyI B J E ++ [])))) (F0 mi 108 ls []) := by
    intro   H locs hT ls hl
    have hg := hT.go
    dsimp only at hg
    refine fp_iconst hx hb dL_isStep_108 ?_
    refine lv_iload_n hx hb dL_isStep_109 rfl (lv_at hl 3 rfl) ?_
    refine fp_iconst hx hb dL_isStep_110 ?_
    refine fq_P (As := [.int (iI (ya)), .int (iI (3))]) (rest := [.int (iI (1))]) ⟨hx, hb, hml, hown, hts⟩ (c_L_up l D cyI (ya) (3) (by omega)) (va_cwS 2 hts gL_isStep_L_up rfl rfl rfl (by decide +kernel) ⟨Nat.le_of_ble_eq_true rfl, Nat.le_of_ble_eq_true rfl⟩) hK rfl hl.1 rfl (Nat.le_of_ble_eq_true rfl) dL_isStep_111 ⟨Nat.zero_le _, Nat.zero_le _⟩ ?_
    have hu111 := upV_rg (ya) (n := 3) (by omega)
    obtain ⟨u111, eu111⟩ : ∃ z : Int, z = upV (ya) (3) := ⟨_, rfl⟩
    rw [← eu111]
    rw [← eu111] at hu111
    refine fp_iadd hx hb dL_isStep_114 ?_
    refine lv_istore (lv' := [(9, .int (iI (1 + u111))), (0, .ref (A 0)), (1, .ref (B 0)), (2, .int (iI (xa))), (3, .int (iI (ya))), (4, .int (iI (s2))), (5, .int (iI (z7))), (6, .int (iI (u18))), (7, .int (iI (z25))), (8, .int (iI (z33)))]) hx hb dL_isStep_115 hl (by decide) rfl (fun ls hl => ?_)
    refine lv_iload_n hx hb dL_isStep_117 rfl (lv_at hl 4 rfl) ?_
    refine fp_iconst hx hb dL_isStep_118 ?_
    refine fq_shr hx hb dL_isStep_119 (fun s119 hs119 => ?_)
    refine fp_iconst hx hb dL_isStep_120 ?_
    refine fq_P (As := [.int (iI (s119)), .int (iI (3))]) (rest := []) ⟨hx, hb, hml, hown, hts⟩ (c_L_up l D cyI (s119) (3) (by omega)) (va_cwS 2 hts gL_isStep_L_up rfl rfl rfl (by decide +kernel) ⟨Nat.le_of_ble_eq_true rfl, Nat.le_of_ble_eq_true rfl⟩) hK rfl hl.1 rfl (Nat.le_of_ble_eq_true rfl) dL_isStep_121 ⟨Nat.zero_le _, Nat.zero_le _⟩ ?_
    have hu121 := upV_rg (s119) (n := 3) (by omega)
    obtain ⟨u121, eu121⟩ : ∃ z : Int, z = upV (s119) (3) := ⟨_, rfl⟩
    rw [← eu121]
    rw [← eu121] at hu121
    refine lv_istore (lv' := [(10, .int (iI (u121))), (9, .int (iI (1 + u111))), (0, .ref (A 0)), (1, .ref (B 0)), (2, .int (iI (xa))), (3, .int (iI (ya))), (4, .int (iI (s2))), (5, .int (iI (z7))), (6, .int (iI (u18))), (7, .int (iI (z25))), (8, .int (iI (z33)))]) hx hb dL_isStep_124 hl (by decide) rfl (fun ls hl => ?_)
    refine lv_iload hx hb dL_isStep_126 (lv_at hl 7 rfl) ?_
    refine fp_bipush hx hb dL_isStep_128 (by decide) ?_
    refine fp_icmp_ne (tgt := 135) hx hb (by omega) dL_isStep_130 (by decide) (fun q130 => ?_) (fun q130 => ?_)
    · skip
      refine lv_aload_n hx hb dL_isStep_135 rfl (lv_at hl 2 rfl) ?_
      refine lv_iload hx hb dL_isStep_136 (lv_at hl 1 rfl) ?_
      refine lv_iload hx hb dL_isStep_138 (lv_at hl 0 rfl) ?_
      refine fq_L (As := [.int (iI (1 + u111)), .int (iI (u121))]) (rest := []) ⟨hx, hb, hml, hown, hts⟩ (oc_add l D cyI A (c := c) (ny := ny) (x := tx) (n := tn) (t := 1 + u111) (p := u121) (by omega) (by omega) (by omega)) (cwV 2 hts gL_isStep_X7_add rfl rfl rfl (by decide +kernel) ⟨Nat.le_of_ble_eq_true rfl, Nat.le_of_ble_eq_true rfl⟩) hK hT rfl hl.1 rfl (Nat.le_of_ble_eq_true rfl) dL_isStep_140 ⟨Nat.zero_le _, Nat.zero_le _⟩ (fun z140 q140_ hq140_ H locs hT => ?_)
      obtain ⟨hz140, hr140⟩ := hq140_
      have hz140 : z140 = adR c (1 + u111) u121 := hz140
      obtain ⟨c140, n140, x140_, n140_⟩ := q140_
      have hc140 : c140 = if 0 ≤ adR c (1 + u111) u121 then appL c (1 + u111) u121 0 0 else c := congrArg (fun z : OS => z.1) hr140
      have hn140 : n140 = if 0 ≤ adR c (1 + u111) u121 then recN ny else ny := congrArg (fun z : OS => z.2.1) hr140
      rw [show x140_ = tx from congrArg (fun z : OS => z.2.2.1) hr140, show n140_ = tn from congrArg (fun z : OS => z.2.2.2) hr140] at hT
      have hg := hT.go
      dsimp only at hg
      have had := ad_ok hC0 (by omega) (t := 1 + u111) (p := u121) (by omega) hc140
      rw [had.1] at hz140
      refine lv_iload hx hb dL_isStep_143 (lv_at hl 7 rfl) ?_
      refine fp_icmp_ne (tgt := 187) hx hb (by omega) dL_isStep_145 (by decide) (fun q145 => ?_) (fun q145 => ?_)
      · skip
        exfalso; omega
      · skip
        refine lv_aload_n hx hb dL_isStep_148 rfl (lv_at hl 2 rfl) ?_
        refine fp_iconst hx hb dL_isStep_149 ?_
        refine fq_L (As := [.int (iI (4))]) (rest := []) ⟨hx, hb, hml, hown, hts⟩ (oc_count l D cyI A (c := c140) (ny := n140) (x := tx) (n := tn) (w := 4) (by omega)) (cwV 1 hts gL_isStep_X7_count rfl rfl rfl (by decide +kernel) ⟨Nat.le_of_ble_eq_true rfl, Nat.le_of_ble_eq_true rfl⟩) hK hT rfl hl.1 rfl (Nat.le_of_ble_eq_true rfl) dL_isStep_150 ⟨Nat.zero_le _, Nat.zero_le _⟩ (fun z150 q150_ hq150_ H locs hT => ?_)
        obtain ⟨hz150, hr150⟩ := hq150_
        have hz150 : z150 = cnR c140 n140 tn 4 := hz150
        subst hr150
        have hz150 : z150 = pgC c140 (c140 0) := hz150
        refine lv_iload hx hb dL_isStep_153 (lv_at hl 9 rfl) ?_
        refine lv_iload hx hb dL_isStep_155 (lv_at hl 1 rfl) ?_
        refine fp_iadd hx hb dL_isStep_157 ?_
        refine lv_iload hx hb dL_isStep_158 (lv_at hl 0 rfl) ?_
        refine fp_if_le (tgt := 167) hx hb (by omega) dL_isStep_160 (by decide) (fun q160 => ?_) (fun q160 => ?_)
        · skip
          have hpb : bI (¬ u121 = 0) = 0 := bI_f (by omega)
          refine fp_iconst hx hb dL_isStep_167 ?_
          refine fp_iadd hx hb dL_isStep_168 ?_
          refine fp_icmp_ne (tgt := 187) hx hb (by omega) dL_isStep_169 (by decide) (fun q169 => ?_) (fun q169 => ?_)
          · skip
            exfalso; omega
          · skip
            refine lv_aload_n hx hb dL_isStep_172 rfl (lv_at hl 2 rfl) ?_
            refine fp_bipush hx hb dL_isStep_173 (by decide) ?_
            refine fq_L (As := [.int (iI (8))]) (rest := []) ⟨hx, hb, hml, hown, hts⟩ (oc_count l D cyI A (c := c140) (ny := n140) (x := tx) (n := tn) (w := 8) (by omega)) (cwV 1 hts gL_isStep_X7_count rfl rfl rfl (by decide +kernel) ⟨Nat.le_of_ble_eq_true rfl, Nat.le_of_ble_eq_true rfl⟩) hK hT rfl hl.1 rfl (Nat.le_of_ble_eq_true rfl) dL_isStep_175 ⟨Nat.zero_le _, Nat.zero_le _⟩ (fun z175 q175_ hq175_ H locs hT => ?_)
            obtain ⟨hz175, hr175⟩ := hq175_
            have hz175 : z175 = cnR c140 n140 tn 8 := hz175
            subst hr175
            have hz175 : z175 = blC c140 := hz175
            refine lv_iload hx hb dL_isStep_178 (lv_at hl 10 rfl) ?_
            refine fp_icmp_ne (tgt := 187) hx hb (by omega) dL_isStep_180 (by decide) (fun q180 => ?_) (fun q180 => ?_)
            · skip
              exfalso; omega
            · skip
              refine fp_iconst hx hb dL_isStep_183 ?_
              refine lv_goto (tgt := 188) hx hb dL_isStep_184 (by decide) ?_
              exact fq_ret2 (Po := (fun q r : OS => TrS (q.1) (r.1))) hx hb hr hlocks hT (TrS_c hI had.2.2.2) dL_isStep_188
        · skip
          have hpb : bI (¬ u121 = 0) = 1 := bI_t (by omega)
          refine fp_iconst hx hb dL_isStep_163 ?_
          refine lv_goto (tgt := 168) hx hb dL_isStep_164 (by decide) ?_
          refine fp_iadd hx hb dL_isStep_168 ?_
          refine fp_icmp_ne (tgt := 187) hx hb (by omega) dL_isStep_169 (by decide) (fun q169 => ?_) (fun q169 => ?_)
          · skip
            exfalso; omega
          · skip
            refine lv_aload_n hx hb dL_isStep_172 rfl (lv_at hl 2 rfl) ?_
            refine fp_bipush hx hb dL_isStep_173 (by decide) ?_
            refine fq_L (As := [.int (iI (8))]) (rest := []) ⟨hx, hb, hml, hown, hts⟩ (oc_count l D cyI A (c := c140) (ny := n140) (x := tx) (n := tn) (w := 8) (by omega)) (cwV 1 hts gL_isStep_X7_count rfl rfl rfl (by decide +kernel) ⟨Nat.le_of_ble_eq_true rfl, Nat.le_of_ble_eq_true rfl⟩) hK hT rfl hl.1 rfl (Nat.le_of_ble_eq_true rfl) dL_isStep_175 ⟨Nat.zero_le _, Nat.zero_le _⟩ (fun z175 q175_ hq175_ H locs hT => ?_)
            obtain ⟨hz175, hr175⟩ := hq175_
            have hz175 : z175 = cnR c140 n140 tn 8 := hz175
            subst hr175
            have hz175 : z175 = blC c140 := hz175
            refine lv_iload hx hb dL_isStep_178 (lv_at hl 10 rfl) ?_
            refine fp_icmp_ne (tgt := 187) hx hb (by omega) dL_isStep_180 (by decide) (fun q180 => ?_) (fun q180 => ?_)
            · skip
              exfalso; omega
            · skip
              refine fp_iconst hx hb dL_isStep_183 ?_
              refine lv_goto (tgt := 188) hx hb dL_isStep_184 (by decide) ?_
              exact fq_ret2 (Po := (fun q r : OS => TrS (q.1) (r.1))) hx hb hr hlocks hT (TrS_c hI had.2.2.2) dL_isStep_188
    · skip
      refine fp_iconst hx hb dL_isStep_133 ?_
      exact fq_ret2 (Po := (fun q r : OS => TrS (q.1) (r.1))) hx hb hr hlocks hT hI dL_isStep_134
  have jn8 : ∀ (H : Heap) (locs : List Loc), ST D cyI A B (fp_A (OB cyI A I C ++ (OB cyI B J E ++ []))) sx.heap (c, ny, tx, tn) (e, my, ux, un) H locs → ∀ (ls : Array Slot), lv_has ls 14 [(0, .ref (A 0)), (1, .ref (B 0)), (2, .int (iI (xa))), (3, .int (iI (ya))), (4, .int (iI (s2))), (5, .int (iI (z7))), (6, .int (iI (u18))), (7, .int (iI (z25))), (8, .int (iI (z33)))] → W pg l en ({ frames := 7, cells := 0, slots := 0, locals := 171 } : Room) sx mi ar bl mt cd H locs 0 0 (MQ bl (fp_Qw D (OB cyI A I C ++ (OB cyI B J E ++ [])) (fun u : SS2 => (GO u.1 u.2.1 u.2.2.2.2.1 ∧ GO u.2.2.1 u.2.2.2.1 u.2.2.2.2.2) ∧ (fun q r : OS => TrS (q.1) (r.1)) u.2.2.2.2.1 u.2.2.2.2.2) (fun _ : SS2 => some (.int (iI 1))) (fun u : SS2 => OB cyI A u.1 u.2.1 ++ (OB cyI B u.2.2.1 u.2.2.2.1 ++ []))) ar sx 0 0 (fp_A (OB cyI A I C ++ (OB cyI B J E ++ [])))) (F0 mi 533 ls []) := by
    intro   H locs hT ls hl
    have hg := hT.go
    dsimp only at hg
    refine lv_iload_n hx hb dL_isStep_533 rfl (lv_at hl 3 rfl) ?_
    refine fp_iconst hx hb dL_isStep_534 ?_
    refine fq_P (As := [.int (iI (ya)), .int (iI (2))]) (rest := []) ⟨hx, hb, hml, hown, hts⟩ (c_L_up l D cyI (ya) (2) (by omega)) (va_cwS 2 hts gL_isStep_L_up rfl rfl rfl (by decide +kernel) ⟨Nat.le_of_ble_eq_true rfl, Nat.le_of_ble_eq_true rfl⟩) hK rfl hl.1 rfl (Nat.le_of_ble_eq_true rfl) dL_isStep_535 ⟨Nat.zero_le _, Nat.zero_le _⟩ ?_
    have hu535 := upV_rg (ya) (n := 2) (by omega)
    obtain ⟨u535, eu535⟩ : ∃ z : Int, z = upV (ya) (2) := ⟨_, rfl⟩
    rw [← eu535]
    rw [← eu535] at hu535
    have jn9 : ∀ (bk : Int), (bk = 0 ∨ bk = 1) → ∀ (H : Heap) (locs : List Loc), ST D cyI A B (fp_A (OB cyI A I C ++ (OB cyI B J E ++ []))) sx.heap (c, ny, tx, tn) (e, my, ux, un) H locs → ∀ (ls : Array Slot), lv_has ls 14 [(0, .ref (A 0)), (1, .ref (B 0)), (2, .int (iI (xa))), (3, .int (iI (ya))), (4, .int (iI (s2))), (5, .int (iI (z7))), (6, .int (iI (u18))), (7, .int (iI (z25))), (8, .int (iI (z33)))] → W pg l en ({ frames := 7, cells := 0, slots := 0, locals := 171 } : Room) sx mi ar bl mt cd H locs 0 0 (MQ bl (fp_Qw D (OB cyI A I C ++ (OB cyI B J E ++ [])) (fun u : SS2 => (GO u.1 u.2.1 u.2.2.2.2.1 ∧ GO u.2.2.1 u.2.2.2.1 u.2.2.2.2.2) ∧ (fun q r : OS => TrS (q.1) (r.1)) u.2.2.2.2.1 u.2.2.2.2.2) (fun _ : SS2 => some (.int (iI 1))) (fun u : SS2 => OB cyI A u.1 u.2.1 ++ (OB cyI B u.2.2.1 u.2.2.2.1 ++ []))) ar sx 0 0 (fp_A (OB cyI A I C ++ (OB cyI B J E ++ [])))) (F0 mi 546 ls [.int (iI (bk))]) := by
      intro bk hbl H locs hT ls hl
      have hg := hT.go
      dsimp only at hg
      refine lv_istore (lv' := [(9, .int (iI (bk))), (0, .ref (A 0)), (1, .ref (B 0)), (2, .int (iI (xa))), (3, .int (iI (ya))), (4, .int (iI (s2))), (5, .int (iI (z7))), (6, .int (iI (u18))), (7, .int (iI (z25))), (8, .int (iI (z33)))]) hx hb dL_isStep_546 hl (by decide) rfl (fun ls hl => ?_)
      refine lv_iload hx hb dL_isStep_548 (lv_at hl 7 rfl) ?_
      refine lv_iload hx hb dL_isStep_550 (lv_at hl 6 rfl) ?_
      have jn10 : ∀ (ms : Int), (0 ≤ ms ∧ ms ≤ 3 ∧ (u18 < c 0 → ms = mostC c u18)) → ∀ (H : Heap) (locs : List Loc), ST D cyI A B (fp_A (OB cyI A I C ++ (OB cyI B J E ++ []))) sx.heap (c, ny, tx, tn) (e, my, ux, un) H locs → ∀ (ls : Array Slot), lv_has ls 14 [(0, .ref (A 0)), (1, .ref (B 0)), (2, .int (iI (xa))), (3, .int (iI (ya))), (4, .int (iI (s2))), (5, .int (iI (z7))), (6, .int (iI (u18))), (7, .int (iI (z25))), (8, .int (iI (z33))), (9, .int (iI (bk)))] → W pg l en ({ frames := 7, cells := 0, slots := 0, locals := 171 } : Room) sx mi ar bl mt cd H locs 0 0 (MQ bl (fp_Qw D (OB cyI A I C ++ (OB cyI B J E ++ [])) (fun u : SS2 => (GO u.1 u.2.1 u.2.2.2.2.1 ∧ GO u.2.2.1 u.2.2.2.1 u.2.2.2.2.2) ∧ (fun q r : OS => TrS (q.1) (r.1)) u.2.2.2.2.1 u.2.2.2.2.2) (fun _ : SS2 => some (.int (iI 1))) (fun u : SS2 => OB cyI A u.1 u.2.1 ++ (OB cyI B u.2.2.1 u.2.2.2.1 ++ []))) ar sx 0 0 (fp_A (OB cyI A I C ++ (OB cyI B J E ++ [])))) (F0 mi 576 ls [.int (iI (ms))]) := by
        intro ms hms H locs hT ls hl
        have hg := hT.go
        dsimp only at hg
        refine lv_istore (lv' := [(10, .int (iI (ms))), (0, .ref (A 0)), (1, .ref (B 0)), (2, .int (iI (xa))), (3, .int (iI (ya))), (4, .int (iI (s2))), (5, .int (iI (z7))), (6, .int (iI (u18))), (7, .int (iI (z25))), (8, .int (iI (z33))), (9, .int (iI (bk)))]) hx hb dL_isStep_576 hl (by decide) rfl (fun ls hl => ?_)
        refine lv_iload_n hx hb dL_isStep_578 rfl (lv_at hl 4 rfl) ?_
        refine fp_iconst hx hb dL_isStep_579 ?_
        refine fq_shr hx hb dL_isStep_580 (fun s580 hs580 => ?_)
        refine lv_iload hx hb dL_isStep_581 (lv_at hl 0 rfl) ?_
        refine fp_iconst hx hb dL_isStep_583 ?_
        refine fp_iadd hx hb dL_isStep_584 ?_
        refine fq_P (As := [.int (iI (s580)), .int (iI (ms + 1))]) (rest := []) ⟨hx, hb, hml, hown, hts⟩ (c_L_up l D cyI (s580) (ms + 1) (by omega)) (va_cwS 2 hts gL_isStep_L_up rfl rfl rfl (by decide +kernel) ⟨Nat.le_of_ble_eq_true rfl, Nat.le_of_ble_eq_true rfl⟩) hK rfl hl.1 rfl (Nat.le_of_ble_eq_true rfl) dL_isStep_585 ⟨Nat.zero_le _, Nat.zero_le _⟩ ?_
        have hu585 := upV_rg (s580) (n := ms + 1) (by omega)
        obtain ⟨u585, eu585⟩ : ∃ z : Int, z = upV (s580) (ms + 1) := ⟨_, rfl⟩
        rw [← eu585]
        rw [← eu585] at hu585
        refine lv_istore (lv' := [(11, .int (iI (u585))), (10, .int (iI (ms))), (0, .ref (A 0)), (1, .ref (B 0)), (2, .int (iI (xa))), (3, .int (iI (ya))), (4, .int (iI (s2))), (5, .int (iI (z7))), (6, .int (iI (u18))), (7, .int (iI (z25))), (8, .int (iI (z33))), (9, .int (iI (bk)))]) hx hb dL_isStep_588 hl (by decide) rfl (fun ls hl => ?_)
        refine lv_aload_n hx hb dL_isStep_590 rfl (lv_at hl 2 rfl) ?_
        refine lv_iload hx hb dL_isStep_591 (lv_at hl 8 rfl) ?_
        refine lv_iload hx hb dL_isStep_593 (lv_at hl 11 rfl) ?_
        refine lv_iload hx hb dL_isStep_595 (lv_at hl 0 rfl) ?_
        refine fq_L (As := [.int (iI (u18)), .int (iI (bk)), .int (iI (u585))]) (rest := []) ⟨hx, hb, hml, hown, hts⟩ (oc_ifChosen l D cyI A (c := c) (ny := ny) (x := tx) (n := tn) (k := u18) (b := bk) (q := u585) hbl (by omega) (by omega)) (cwV 3 hts gL_isStep_X7_ifChosen rfl rfl rfl (by decide +kernel) ⟨Nat.le_of_ble_eq_true rfl, Nat.le_of_ble_eq_true rfl⟩) hK hT rfl hl.1 rfl (Nat.le_of_ble_eq_true rfl) dL_isStep_597 ⟨Nat.zero_le _, Nat.zero_le _⟩ (fun z597 q597_ hq597_ H locs hT => ?_)
        obtain ⟨hz597, hr597⟩ := hq597_
        have hz597 : z597 = if ¬ (0 ≤ u18 ∧ u18 < c 0) then -1 else if ¬ (0 ≤ u585 ∧ u585 ≤ mostC c u18) then -2 else csC (choL c u18 bk u585) := hz597
        subst hr597
        refine lv_istore (lv' := [(12, .int (iI (z597))), (11, .int (iI (u585))), (10, .int (iI (ms))), (0, .ref (A 0)), (1, .ref (B 0)), (2, .int (iI (xa))), (3, .int (iI (ya))), (4, .int (iI (s2))), (5, .int (iI (z7))), (6, .int (iI (u18))), (7, .int (iI (z25))), (8, .int (iI (z33))), (9, .int (iI (bk)))]) hx hb dL_isStep_600 hl (by decide) rfl (fun ls hl => ?_)
        refine lv_aload_n hx hb dL_isStep_602 rfl (lv_at hl 3 rfl) ?_
        refine lv_iload hx hb dL_isStep_603 (lv_at hl 9 rfl) ?_
        refine lv_iload hx hb dL_isStep_605 (lv_at hl 12 rfl) ?_
        refine lv_iload hx hb dL_isStep_607 (lv_at hl 1 rfl) ?_
        refine fq_L (As := [.int (iI (u18)), .int (iI (bk)), .int (iI (u585))]) (rest := []) ⟨hx, hb, hml, hown, hts⟩ (oc_choose l D cyI A (c := c) (ny := ny) (x := tx) (n := tn) (k := u18) (b := bk) (q := u585) hbl (by omega) (by omega)) (cwV 3 hts gL_isStep_X7_choose rfl rfl rfl (by decide +kernel) ⟨Nat.le_of_ble_eq_true rfl, Nat.le_of_ble_eq_true rfl⟩) hK hT rfl hl.1 rfl (Nat.le_of_ble_eq_true rfl) dL_isStep_609 ⟨Nat.zero_le _, Nat.zero_le _⟩ (fun z609 q609_ hq609_ H locs hT => ?_)
        obtain ⟨hz609, hr609⟩ := hq609_
        have hz609 : z609 = coR c u18 bk u585 := hz609
        obtain ⟨c609, n609, x609_, n609_⟩ := q609_
        have hc609 : c609 = if 0 ≤ coR c u18 bk u585 then choL c u18 bk u585 else c := congrArg (fun z : OS => z.1) hr609
        have hn609 : n609 = if 0 ≤ coR c u18 bk u585 then recN ny else ny := congrArg (fun z : OS => z.2.1) hr609
        rw [show x609_ = tx from congrArg (fun z : OS => z.2.2.1) hr609, show n609_ = tn from congrArg (fun z : OS => z.2.2.2) hr609] at hT
        have hg := hT.go
        dsimp only at hg
        refine lv_istore (lv' := [(13, .int (iI (z609))), (12, .int (iI (z597))), (11, .int (iI (u585))), (10, .int (iI (ms))), (0, .ref (A 0)), (1, .ref (B 0)), (2, .int (iI (xa))), (3, .int (iI (ya))), (4, .int (iI (s2))), (5, .int (iI (z7))), (6, .int (iI (u18))), (7, .int (iI (z25))), (8, .int (iI (z33))), (9, .int (iI (bk)))]) hx hb dL_isStep_612 hl (by decide) rfl (fun ls hl => ?_)
        refine lv_iload hx hb dL_isStep_614 (lv_at hl 10 rfl) ?_
        refine lv_iload hx hb dL_isStep_616 (lv_at hl 9 rfl) ?_
        refine fp_icmp_ne (tgt := 642) hx hb (by omega) dL_isStep_618 (by decide) (fun q618 => ?_) (fun q618 => ?_)
        · skip
          have hco := co_ok hC0 (k := u18) (b := bk) (q := u585) (by omega) hbl (by omega) hc609
          rw [← hz609] at hco
          rw [if_neg (by omega), if_neg (by omega), ← hco.2.1] at hz597
          have hcn := cs_nn hg.1.1.1
          have hco1 := hco.1
          rw [← hco.2.1] at hco1
          refine lv_iload hx hb dL_isStep_642 (lv_at hl 0 rfl) ?_
          refine fp_bipush hx hb dL_isStep_644 (by decide) ?_
          refine fp_icmp_eq (tgt := 656) hx hb (by omega) dL_isStep_646 (by decide) (fun q646 => ?_) (fun q646 => ?_)
          · skip
            refine lv_aload_n hx hb dL_isStep_656 rfl (lv_at hl 4 rfl) ?_
            refine fp_bipush hx hb dL_isStep_657 (by decide) ?_
            refine fq_L (As := [.int (iI (9))]) (rest := []) ⟨hx, hb, hml, hown, hts⟩ (oc_count l D cyI A (c := c609) (ny := n609) (x := tx) (n := tn) (w := 9) (by omega)) (cwV 1 hts gL_isStep_X7_count rfl rfl rfl (by decide +kernel) ⟨Nat.le_of_ble_eq_true rfl, Nat.le_of_ble_eq_true rfl⟩) hK hT rfl hl.1 rfl (Nat.le_of_ble_eq_true rfl) dL_isStep_659 ⟨Nat.zero_le _, Nat.zero_le _⟩ (fun z659 q659_ hq659_ H locs hT => ?_)
            obtain ⟨hz659, hr659⟩ := hq659_
            have hz659 : z659 = cnR c609 n609 tn 9 := hz659
            subst hr659
            have hz659 : z659 = csC c609 := hz659
            refine lv_iload hx hb dL_isStep_662 (lv_at hl 1 rfl) ?_
            refine fp_icmp_ne (tgt := 691) hx hb (by omega) dL_isStep_664 (by decide) (fun q664 => ?_) (fun q664 => ?_)
            · skip
              exfalso; omega
            · skip
              refine lv_aload_n hx hb dL_isStep_667 rfl (lv_at hl 4 rfl) ?_
              refine lv_iload hx hb dL_isStep_668 (lv_at hl 10 rfl) ?_
              refine fp_iconst hx hb dL_isStep_670 ?_
              refine fq_L (As := [.int (iI (u18)), .int (iI (2))]) (rest := []) ⟨hx, hb, hml, hown, hts⟩ (oc_lot l D cyI A (c := c609) (ny := n609) (x := tx) (n := tn) (k := u18) (w := 2) (by omega) (by omega)) (cwV 2 hts gL_isStep_X7_lot rfl rfl rfl (by decide +kernel) ⟨Nat.le_of_ble_eq_true rfl, Nat.le_of_ble_eq_true rfl⟩) hK hT rfl hl.1 rfl (Nat.le_of_ble_eq_true rfl) dL_isStep_671 ⟨Nat.zero_le _, Nat.zero_le _⟩ (fun z671 q671_ hq671_ H locs hT => ?_)
              obtain ⟨hz671, hr671⟩ := hq671_
              have hz671 : z671 = ltR c609 u18 2 := hz671
              subst hr671
              have hz671 : z671 = c609 (u18 * 4 + 3) := hz671.trans (lq_2 (by omega))
              have hz671 := hz671.trans hco.2.2.1.2
              refine lv_iload hx hb dL_isStep_674 (lv_at hl 13 rfl) ?_
              refine fp_if_eq (tgt := 683) hx hb (by omega) dL_isStep_676 (by decide) (fun q676 => ?_) (fun q676 => ?_)
              · skip
                refine fp_iconst hx hb dL_isStep_683 ?_
                refine fp_icmp_ne (tgt := 691) hx hb (by omega) dL_isStep_684 (by decide) (fun q684 => ?_) (fun q684 => ?_)
                · skip
                  exfalso; omega
                · skip
                  refine fp_iconst hx hb dL_isStep_687 ?_
                  refine lv_goto (tgt := 692) hx hb dL_isStep_688 (by decide) ?_
                  exact fq_ret2 (Po := (fun q r : OS => TrS (q.1) (r.1))) hx hb hr hlocks hT (by dsimp only; first | (rw [hco.2]; exact hI) | exact TrS_c hI hco.2.2.2) dL_isStep_692
              · skip
                refine fp_iconst hx hb dL_isStep_679 ?_
                refine lv_goto (tgt := 684) hx hb dL_isStep_680 (by decide) ?_
                refine fp_icmp_ne (tgt := 691) hx hb (by omega) dL_isStep_684 (by decide) (fun q684 => ?_) (fun q684 => ?_)
                · skip
                  exfalso; omega
                · skip
                  refine fp_iconst hx hb dL_isStep_687 ?_
                  refine lv_goto (tgt := 692) hx hb dL_isStep_688 (by decide) ?_
                  exact fq_ret2 (Po := (fun q r : OS => TrS (q.1) (r.1))) hx hb hr hlocks hT (by dsimp only; first | (rw [hco.2]; exact hI) | exact TrS_c hI hco.2.2.2) dL_isStep_692
          · skip
            refine lv_iload hx hb dL_isStep_649 (lv_at hl 0 rfl) ?_
            refine lv_iload hx hb dL_isStep_651 (lv_at hl 1 rfl) ?_
            refine fp_icmp_ne (tgt := 691) hx hb (by omega) dL_isStep_653 (by decide) (fun q653 => ?_) (fun q653 => ?_)
            · skip
              exfalso; omega
            · skip
              refine lv_aload_n hx hb dL_isStep_656 rfl (lv_at hl 4 rfl) ?_
              refine fp_bipush hx hb dL_isStep_657 (by decide) ?_
              refine fq_L (As := [.int (iI (9))]) (rest := []) ⟨hx, hb, hml, hown, hts⟩ (oc_count l D cyI A (c := c609) (ny := n609) (x := tx) (n := tn) (w := 9) (by omega)) (cwV 1 hts gL_isStep_X7_count rfl rfl rfl (by decide +kernel) ⟨Nat.le_of_ble_eq_true rfl, Nat.le_of_ble_eq_true rfl⟩) hK hT rfl hl.1 rfl (Nat.le_of_ble_eq_true rfl) dL_isStep_659 ⟨Nat.zero_le _, Nat.zero_le _⟩ (fun z659 q659_ hq659_ H locs hT => ?_)
              obtain ⟨hz659, hr659⟩ := hq659_
              have hz659 : z659 = cnR c609 n609 tn 9 := hz659
              subst hr659
              have hz659 : z659 = csC c609 := hz659
              refine lv_iload hx hb dL_isStep_662 (lv_at hl 1 rfl) ?_
              refine fp_icmp_ne (tgt := 691) hx hb (by omega) dL_isStep_664 (by decide) (fun q664 => ?_) (fun q664 => ?_)
              · skip
                exfalso; omega
              · skip
                refine lv_aload_n hx hb dL_isStep_667 rfl (lv_at hl 4 rfl) ?_
                refine lv_iload hx hb dL_isStep_668 (lv_at hl 10 rfl) ?_
                refine fp_iconst hx hb dL_isStep_670 ?_
                refine fq_L (As := [.int (iI (u18)), .int (iI (2))]) (rest := []) ⟨hx, hb, hml, hown, hts⟩ (oc_lot l D cyI A (c := c609) (ny := n609) (x := tx) (n := tn) (k := u18) (w := 2) (by omega) (by omega)) (cwV 2 hts gL_isStep_X7_lot rfl rfl rfl (by decide +kernel) ⟨Nat.le_of_ble_eq_true rfl, Nat.le_of_ble_eq_true rfl⟩) hK hT rfl hl.1 rfl (Nat.le_of_ble_eq_true rfl) dL_isStep_671 ⟨Nat.zero_le _, Nat.zero_le _⟩ (fun z671 q671_ hq671_ H locs hT => ?_)
                obtain ⟨hz671, hr671⟩ := hq671_
                have hz671 : z671 = ltR c609 u18 2 := hz671
                subst hr671
                have hz671 : z671 = c609 (u18 * 4 + 3) := hz671.trans (lq_2 (by omega))
                have hz671 := hz671.trans hco.2.2.1.2
                refine lv_iload hx hb dL_isStep_674 (lv_at hl 13 rfl) ?_
                refine fp_if_eq (tgt := 683) hx hb (by omega) dL_isStep_676 (by decide) (fun q676 => ?_) (fun q676 => ?_)
                · skip
                  refine fp_iconst hx hb dL_isStep_683 ?_
                  refine fp_icmp_ne (tgt := 691) hx hb (by omega) dL_isStep_684 (by decide) (fun q684 => ?_) (fun q684 => ?_)
                  · skip
                    exfalso; omega
                  · skip
                    refine fp_iconst hx hb dL_isStep_687 ?_
                    refine lv_goto (tgt := 692) hx hb dL_isStep_688 (by decide) ?_
                    exact fq_ret2 (Po := (fun q r : OS => TrS (q.1) (r.1))) hx hb hr hlocks hT (by dsimp only; first | (rw [hco.2]; exact hI) | exact TrS_c hI hco.2.2.2) dL_isStep_692
                · skip
                  refine fp_iconst hx hb dL_isStep_679 ?_
                  refine lv_goto (tgt := 684) hx hb dL_isStep_680 (by decide) ?_
                  refine fp_icmp_ne (tgt := 691) hx hb (by omega) dL_isStep_684 (by decide) (fun q684 => ?_) (fun q684 => ?_)
                  · skip
                    exfalso; omega
                  · skip
                    refine fp_iconst hx hb dL_isStep_687 ?_
                    refine lv_goto (tgt := 692) hx hb dL_isStep_688 (by decide) ?_
                    exact fq_ret2 (Po := (fun q r : OS => TrS (q.1) (r.1))) hx hb hr hlocks hT (by dsimp only; first | (rw [hco.2]; exact hI) | exact TrS_c hI hco.2.2.2) dL_isStep_692
        · skip
          have hco := co_no (k := u18) (b := bk) (q := u585) (by omega) hc609
          rw [hco.1] at hz609
          rw [if_pos (by omega)] at hz597
          refine lv_iload hx hb dL_isStep_621 (lv_at hl 0 rfl) ?_
          refine fp_iconst hx hb dL_isStep_623 ?_
          refine fp_icmp_ne (tgt := 638) hx hb (by omega) dL_isStep_624 (by decide) (fun q624 => ?_) (fun q624 => ?_)
          · skip
            exfalso; omega
          · skip
            refine lv_iload hx hb dL_isStep_627 (lv_at hl 1 rfl) ?_
            refine lv_iload hx hb dL_isStep_629 (lv_at hl 0 rfl) ?_
            refine fp_icmp_ne (tgt := 638) hx hb (by omega) dL_isStep_631 (by decide) (fun q631 => ?_) (fun q631 => ?_)
            · skip
              exfalso; omega
            · skip
              refine fp_iconst hx hb dL_isStep_634 ?_
              refine lv_goto (tgt := 692) hx hb dL_isStep_635 (by decide) ?_
              exact fq_ret2 (Po := (fun q r : OS => TrS (q.1) (r.1))) hx hb hr hlocks hT (by dsimp only; first | (rw [hco.2]; exact hI) | exact TrS_c hI hco.2.2.2) dL_isStep_692
      refine fp_icmp_ge (tgt := 575) hx hb (by omega) dL_isStep_552 (by decide) (fun q552 => ?_) (fun q552 => ?_)
      · skip
        refine fp_iconst hx hb dL_isStep_575 ?_
        exact jn10 0 (by unfold mostC; first | (rw [if_pos (by omega)]; omega) | (rw [if_neg (by omega)]; omega) | exact ⟨by omega, by omega, fun z => by omega⟩) H locs hT ls (lv_sub hl [1, 2, 3, 4, 5, 6, 7, 8, 9, 0] rfl)
      · skip
        refine lv_aload_n hx hb dL_isStep_555 rfl (lv_at hl 1 rfl) ?_
        refine lv_iload hx hb dL_isStep_556 (lv_at hl 7 rfl) ?_
        refine fp_iconst hx hb dL_isStep_558 ?_
        refine fq_L (As := [.int (iI (u18)), .int (iI (1))]) (rest := []) ⟨hx, hb, hml, hown, hts⟩ (oc_lot l D cyI A (c := c) (ny := ny) (x := tx) (n := tn) (k := u18) (w := 1) (by omega) (by omega)) (cwV 2 hts gL_isStep_X7_lot rfl rfl rfl (by decide +kernel) ⟨Nat.le_of_ble_eq_true rfl, Nat.le_of_ble_eq_true rfl⟩) hK hT rfl hl.1 rfl (Nat.le_of_ble_eq_true rfl) dL_isStep_559 ⟨Nat.zero_le _, Nat.zero_le _⟩ (fun z559 q559_ hq559_ H locs hT => ?_)
        obtain ⟨hz559, hr559⟩ := hq559_
        have hz559 : z559 = ltR c u18 1 := hz559
        subst hr559
        have hz559 : z559 = c (u18 * 4 + 2) := hz559.trans (lq_1 (by omega))
        have hL := lot_f hC0 (k := u18) (by omega)
        unfold LotOK at hL
        refine fp_if_le (tgt := 575) hx hb (by omega) dL_isStep_562 (by decide) (fun q562 => ?_) (fun q562 => ?_)
        · skip
          refine fp_iconst hx hb dL_isStep_575 ?_
          exact jn10 0 (by unfold mostC; first | (rw [if_pos (by omega)]; omega) | (rw [if_neg (by omega)]; omega) | exact ⟨by omega, by omega, fun z => by omega⟩) H locs hT ls (lv_sub hl [1, 2, 3, 4, 5, 6, 7, 8, 9, 0] rfl)
        · skip
          refine lv_aload_n hx hb dL_isStep_565 rfl (lv_at hl 1 rfl) ?_
          refine lv_iload hx hb dL_isStep_566 (lv_at hl 7 rfl) ?_
          refine fp_iconst hx hb dL_isStep_568 ?_
          refine fq_L (As := [.int (iI (u18)), .int (iI (0))]) (rest := []) ⟨hx, hb, hml, hown, hts⟩ (oc_lot l D cyI A (c := c) (ny := ny) (x := tx) (n := tn) (k := u18) (w := 0) (by omega) (by omega)) (cwV 2 hts gL_isStep_X7_lot rfl rfl rfl (by decide +kernel) ⟨Nat.le_of_ble_eq_true rfl, Nat.le_of_ble_eq_true rfl⟩) hK hT rfl hl.1 rfl (Nat.le_of_ble_eq_true rfl) dL_isStep_569 ⟨Nat.zero_le _, Nat.zero_le _⟩ (fun z569 q569_ hq569_ H locs hT => ?_)
          obtain ⟨hz569, hr569⟩ := hq569_
          have hz569 : z569 = ltR c u18 0 := hz569
          subst hr569
          have hz569 : z569 = c (u18 * 4 + 1) := hz569.trans (lq_0 (by omega))
          refine lv_goto (tgt := 576) hx hb dL_isStep_572 (by decide) ?_
          exact jn10 z569 (by unfold mostC; first | (rw [if_pos (by omega)]; omega) | (rw [if_neg (by omega)]; omega) | exact ⟨by omega, by omega, fun z => by omega⟩) H locs hT ls (lv_sub hl [1, 2, 3, 4, 5, 6, 7, 8, 9, 0] rfl)
    refine fp_if_ne (tgt := 545) hx hb (by omega) dL_isStep_538 (by decide) (fun q538 => ?_) (fun q538 => ?_)
    · skip
      refine fp_iconst hx hb dL_isStep_545 ?_
      exact jn9 0 (by omega) H locs hT ls (lv_sub hl [0, 1, 2, 3, 4, 5, 6, 7, 8] rfl)
    · skip
      refine fp_iconst hx hb dL_isStep_541 ?_
      refine lv_goto (tgt := 546) hx hb dL_isStep_542 (by decide) ?_
      exact jn9 1 (by omega) H locs hT ls (lv_sub hl [0, 1, 2, 3, 4, 5, 6, 7, 8] rfl)
  rcases Decidable.em (u41 < 0 ∨ 11 < u41) with hsw | hsw
  · skip
    refine lv_tableOut (tgt := 915) hx hb dL_isStep_44 (by rw [iI_toInt (by omega)]; exact hsw) (by decide) ?_
    refine lv_aload_n hx hb dL_isStep_915 rfl (lv_at hl 5 rfl) ?_
    refine fp_bipush hx hb dL_isStep_916 (by decide) ?_
    refine fq_L (As := [.int (iI (15))]) (rest := []) ⟨hx, hb, hml, hown, hts⟩ (oc_count l D cyI A (c := c) (ny := ny) (x := tx) (n := tn) (w := 15) (by omega)) (cwV 1 hts gL_isStep_X7_count rfl rfl rfl (by decide +kernel) ⟨Nat.le_of_ble_eq_true rfl, Nat.le_of_ble_eq_true rfl⟩) hK hT rfl hl.1 rfl (Nat.le_of_ble_eq_true rfl) dL_isStep_918 ⟨Nat.zero_le _, Nat.zero_le _⟩ (fun z918 q918_ hq918_ H locs hT => ?_)
    obtain ⟨hz918, hr918⟩ := hq918_
    have hz918 : z918 = cnR c ny tn 15 := hz918
    subst hr918
    have hz918 : z918 = ny := hz918
    refine fp_if_eq (tgt := 955) hx hb (by omega) dL_isStep_921 (by decide) (fun q921 => ?_) (fun q921 => ?_)
    · skip
      have hpz : TrS c e := hI
      refine fp_iconst hx hb dL_isStep_955 ?_
      refine lv_goto (tgt := 960) hx hb dL_isStep_956 (by decide) ?_
      exact fq_ret2 (Po := (fun q r : OS => TrS (q.1) (r.1))) hx hb hr hlocks hT hpz dL_isStep_960
    · skip
      refine lv_aload_n hx hb dL_isStep_924 rfl (lv_at hl 5 rfl) ?_
      refine fq_L (As := []) (rest := []) ⟨hx, hb, hml, hown, hts⟩ (oc_undo l D cyI A (c := c) (ny := ny) (x := tx) (n := tn) (by omega)) (cwV 0 hts gL_isStep_X7_undo rfl rfl rfl (by decide +kernel) ⟨Nat.le_of_ble_eq_true rfl, Nat.le_of_ble_eq_true rfl⟩) hK hT rfl hl.1 rfl (Nat.le_of_ble_eq_true rfl) dL_isStep_925 ⟨Nat.zero_le _, Nat.zero_le _⟩ (fun z925 q925_ hq925_ H locs hT => ?_)
      obtain ⟨hz925, c925, hkc925, hr925⟩ := hq925_
      subst hr925
      have hz925 : z925 = ny - 1 := hz925
      have hg := hT.go
      dsimp only at hg
      refine fp_if_lt (tgt := 959) hx hb (by omega) dL_isStep_928 (by decide) (fun q928 => ?_) (fun q928 => ?_)
      · skip
        exfalso; omega
      · skip
        refine lv_aload_n hx hb dL_isStep_931 rfl (lv_at hl 5 rfl) ?_
        refine fp_iconst hx hb dL_isStep_932 ?_
        refine lv_aload_n hx hb dL_isStep_933 rfl (lv_at hl 6 rfl) ?_
        refine fp_bipush hx hb dL_isStep_934 (by decide) ?_
        refine fq_R (As := [.int (iI (10))]) (rest := [.int (iI (0)), .ref (A 0)]) ⟨hx, hb, hml, hown, hts⟩ (oc_count l D cyI B (c := e) (ny := my) (x := ux) (n := un) (w := 10) (by omega)) (cwV 1 hts gL_isStep_X7_count rfl rfl rfl (by decide +kernel) ⟨Nat.le_of_ble_eq_true rfl, Nat.le_of_ble_eq_true rfl⟩) hK hT rfl hl.1 rfl (Nat.le_of_ble_eq_true rfl) dL_isStep_936 ⟨Nat.zero_le _, Nat.zero_le _⟩ (fun z936 q936_ hq936_ H locs hT => ?_)
        obtain ⟨hz936, hr936⟩ := hq936_
        have hz936 : z936 = cnR e my un 10 := hz936
        subst hr936
        have hz936 : z936 = e (49 + 0) := hz936
        have hXE := hE0.2.2
        unfold SetOK at hXE
        refine fq_L (As := [.int (iI (0)), .int (iI (z936))]) (rest := []) ⟨hx, hb, hml, hown, hts⟩ (oc_set l D cyI A (c := c925) (ny := (ny - 1)) (x := tx) (n := tn) (w := 0) (v := z936) (by omega) (by omega)) (cwV 2 hts gL_isStep_X7_set rfl rfl rfl (by decide +kernel) ⟨Nat.le_of_ble_eq_true rfl, Nat.le_of_ble_eq_true rfl⟩) hK hT rfl hl.1 rfl (Nat.le_of_ble_eq_true rfl) dL_isStep_939 ⟨Nat.zero_le _, Nat.zero_le _⟩ (fun z939 q939_ hq939_ H locs hT => ?_)
        obtain ⟨hz939, hr939⟩ := hq939_
        have hz939 : z939 = stR c925 0 z936 := hz939
        obtain ⟨c939, n939, x939_, n939_⟩ := q939_
        have hc939 : c939 = if 0 ≤ stR c925 0 z936 then upI c925 (49 + 0) z936 else c925 := congrArg (fun z : OS => z.1) hr939
        have hn939 : n939 = if 0 ≤ stR c925 0 z936 then recN (ny - 1) else ny - 1 := congrArg (fun z : OS => z.2.1) hr939
        rw [show x939_ = tx from congrArg (fun z : OS => z.2.2.1) hr939, show n939_ = tn from congrArg (fun z : OS => z.2.2.2) hr939] at hT
        have hg := hT.go
        dsimp only at hg
        have hsu := st_ok hkc925.1 (w := 0) (v := z936) (by omega) (by omega) hc939
        have hru := set_rg hkc925.1 (w := 0) (by omega)
        have hr9 : -5 ≤ z939 ∧ z939 ≤ 999 ∧ ¬ z939 = -2 := by
          rw [hz939, hsu.2.2.1]
          split <;> omega
        refine fp_bipush hx hb dL_isStep_942 (by decide) ?_
        refine fp_icmp_eq (tgt := 959) hx hb (by omega) dL_isStep_944 (by decide) (fun q944 => ?_) (fun q944 => ?_)
        · skip
          exfalso; omega
        · skip
          refine lv_aload_n hx hb dL_isStep_947 rfl (lv_at hl 5 rfl) ?_
          refine lv_aload_n hx hb dL_isStep_948 rfl (lv_at hl 6 rfl) ?_
          refine fq_S2 (As := []) (rest := []) ⟨hx, hb, hml, hown, hts⟩ (c_L_areSettings l D cyI A B (c := c939) (ny := n939) (tx := tx) (tn := tn) (e := e) (my := my) (ux := ux) (un := un) (by rw [hsu.1]; exact hz936) (by have h1 := hI.1.2; have h2 := hI.2.1; omega) hI.2.2.2) (va_cwS 2 hts gL_isStep_L_areSettings rfl rfl rfl (by decide +kernel) ⟨Nat.le_of_ble_eq_true rfl, Nat.le_of_ble_eq_true rfl⟩) hK hT rfl hl.1 rfl (Nat.le_of_ble_eq_true rfl) dL_isStep_949 ⟨Nat.zero_le _, Nat.zero_le _⟩ (fun q949_ r949_ hq949_ H locs hT => ?_)
          obtain ⟨c949, ny949, tx949, tn949⟩ := q949_
          obtain ⟨e949, my949, ux949, un949⟩ := r949_
          have hp949 : TrS (c949) (e949) ∧ (e949, my949, ux949, un949) = (e, my, ux, un) := hq949_
          have hg := hT.go
          dsimp only at hg
          have hpz := hp949.1
          refine fp_if_eq (tgt := 959) hx hb (by omega) dL_isStep_952 (by decide) (fun q952 => ?_) (fun q952 => ?_)
          · skip
            exfalso; omega
          · skip
            refine fp_iconst hx hb dL_isStep_955 ?_
            refine lv_goto (tgt := 960) hx hb dL_isStep_956 (by decide) ?_
            exact fq_ret2 (Po := (fun q r : OS => TrS (q.1) (r.1))) hx hb hr hlocks hT hpz dL_isStep_960
  · skip
    have hsv : u41 = 0 ∨ u41 = 1 ∨ u41 = 2 ∨ u41 = 3 ∨ u41 = 4 ∨ u41 = 5 ∨ u41 = 6 ∨ u41 = 7 ∨ u41 = 8 ∨ u41 = 9 ∨ u41 = 10 ∨ u41 = 11 := by omega
    rcases hsv with hsv | hsv | hsv | hsv | hsv | hsv | hsv | hsv | hsv | hsv | hsv | hsv
    · skip
      refine lv_tableIn (off := 64) (tgt := 108) hx hb dL_isStep_44 (by rw [hsv]; decide) (by rw [hsv]; decide) (by rw [hsv]; decide) (by decide) ?_
      exact jn0   H locs hT ls (lv_sub hl [5, 6, 7, 8, 4, 3, 2, 1, 0] rfl)
    · skip
      refine lv_tableIn (off := 64) (tgt := 108) hx hb dL_isStep_44 (by rw [hsv]; decide) (by rw [hsv]; decide) (by rw [hsv]; decide) (by decide) ?_
      exact jn0   H locs hT ls (lv_sub hl [5, 6, 7, 8, 4, 3, 2, 1, 0] rfl)
    · skip
      refine lv_tableIn (off := 64) (tgt := 108) hx hb dL_isStep_44 (by rw [hsv]; decide) (by rw [hsv]; decide) (by rw [hsv]; decide) (by decide) ?_
      exact jn0   H locs hT ls (lv_sub hl [5, 6, 7, 8, 4, 3, 2, 1, 0] rfl)
    · skip
      refine lv_tableIn (off := 145) (tgt := 189) hx hb dL_isStep_44 (by rw [hsv]; decide) (by rw [hsv]; decide) (by rw [hsv]; decide) (by decide) ?_
      refine lv_iload hx hb dL_isStep_189 (lv_at hl 2 rfl) ?_
      refine lv_iload hx hb dL_isStep_191 (lv_at hl 3 rfl) ?_
      refine fp_icmp_ne (tgt := 212) hx hb (by omega) dL_isStep_193 (by decide) (fun q193 => ?_) (fun q193 => ?_)
      · skip
        refine lv_aload_n hx hb dL_isStep_212 rfl (lv_at hl 5 rfl) ?_
        refine lv_iload hx hb dL_isStep_213 (lv_at hl 2 rfl) ?_
        refine fp_iconst hx hb dL_isStep_215 ?_
        refine fq_L (As := [.int (iI (u18)), .int (iI (0))]) (rest := []) ⟨hx, hb, hml, hown, hts⟩ (oc_lot l D cyI A (c := c) (ny := ny) (x := tx) (n := tn) (k := u18) (w := 0) (by omega) (by omega)) (cwV 2 hts gL_isStep_X7_lot rfl rfl rfl (by decide +kernel) ⟨Nat.le_of_ble_eq_true rfl, Nat.le_of_ble_eq_true rfl⟩) hK hT rfl hl.1 rfl (Nat.le_of_ble_eq_true rfl) dL_isStep_216 ⟨Nat.zero_le _, Nat.zero_le _⟩ (fun z216 q216_ hq216_ H locs hT => ?_)
        obtain ⟨hz216, hr216⟩ := hq216_
        have hz216 : z216 = ltR c u18 0 := hz216
        subst hr216
        have hz216 : z216 = c (u18 * 4 + 1) := hz216.trans (lq_0 (by omega))
        refine lv_aload_n hx hb dL_isStep_219 rfl (lv_at hl 5 rfl) ?_
        refine lv_iload hx hb dL_isStep_220 (lv_at hl 2 rfl) ?_
        refine fp_iconst hx hb dL_isStep_222 ?_
        refine fq_L (As := [.int (iI (u18)), .int (iI (2))]) (rest := [.int (iI (z216))]) ⟨hx, hb, hml, hown, hts⟩ (oc_lot l D cyI A (c := c) (ny := ny) (x := tx) (n := tn) (k := u18) (w := 2) (by omega) (by omega)) (cwV 2 hts gL_isStep_X7_lot rfl rfl rfl (by decide +kernel) ⟨Nat.le_of_ble_eq_true rfl, Nat.le_of_ble_eq_true rfl⟩) hK hT rfl hl.1 rfl (Nat.le_of_ble_eq_true rfl) dL_isStep_223 ⟨Nat.zero_le _, Nat.zero_le _⟩ (fun z223 q223_ hq223_ H locs hT => ?_)
        obtain ⟨hz223, hr223⟩ := hq223_
        have hz223 : z223 = ltR c u18 2 := hz223
        subst hr223
        have hz223 : z223 = c (u18 * 4 + 3) := hz223.trans (lq_2 (by omega))
        refine fp_iadd hx hb dL_isStep_226 ?_
        refine lv_aload_n hx hb dL_isStep_227 rfl (lv_at hl 5 rfl) ?_
        refine lv_iload hx hb dL_isStep_228 (lv_at hl 2 rfl) ?_
        refine fp_iconst hx hb dL_isStep_230 ?_
        refine fq_L (As := [.int (iI (u18)), .int (iI (1))]) (rest := [.int (iI (z216 + z223))]) ⟨hx, hb, hml, hown, hts⟩ (oc_lot l D cyI A (c := c) (ny := ny) (x := tx) (n := tn) (k := u18) (w := 1) (by omega) (by omega)) (cwV 2 hts gL_isStep_X7_lot rfl rfl rfl (by decide +kernel) ⟨Nat.le_of_ble_eq_true rfl, Nat.le_of_ble_eq_true rfl⟩) hK hT rfl hl.1 rfl (Nat.le_of_ble_eq_true rfl) dL_isStep_231 ⟨Nat.zero_le _, Nat.zero_le _⟩ (fun z231 q231_ hq231_ H locs hT => ?_)
        obtain ⟨hz231, hr231⟩ := hq231_
        have hz231 : z231 = ltR c u18 1 := hz231
        subst hr231
        have hz231 : z231 = c (u18 * 4 + 2) := hz231.trans (lq_1 (by omega))
        have hL := lot_f hC0 (k := u18) (by omega)
        unfold LotOK at hL
        have jn32 : ∀ (pb : Int), (pb = bI (¬ c (u18 * 4 + 2) = 0)) → ∀ (H : Heap) (locs : List Loc), ST D cyI A B (fp_A (OB cyI A I C ++ (OB cyI B J E ++ []))) sx.heap (c, ny, tx, tn) (e, my, ux, un) H locs → ∀ (ls : Array Slot), lv_has ls 14 [(0, .ref (A 0)), (1, .ref (B 0)), (2, .int (iI (xa))), (3, .int (iI (ya))), (4, .int (iI (s2))), (5, .int (iI (z7))), (6, .int (iI (u18))), (7, .int (iI (z25))), (8, .int (iI (z33)))] → W pg l en ({ frames := 7, cells := 0, slots := 0, locals := 171 } : Room) sx mi ar bl mt cd H locs 0 0 (MQ bl (fp_Qw D (OB cyI A I C ++ (OB cyI B J E ++ [])) (fun u : SS2 => (GO u.1 u.2.1 u.2.2.2.2.1 ∧ GO u.2.2.1 u.2.2.2.1 u.2.2.2.2.2) ∧ (fun q r : OS => TrS (q.1) (r.1)) u.2.2.2.2.1 u.2.2.2.2.2) (fun _ : SS2 => some (.int (iI 1))) (fun u : SS2 => OB cyI A u.1 u.2.1 ++ (OB cyI B u.2.2.1 u.2.2.2.1 ++ []))) ar sx 0 0 (fp_A (OB cyI A I C ++ (OB cyI B J E ++ [])))) (F0 mi 242 ls [.int (iI (pb)), .int (iI (z216 + z223))]) := by
          intro pb hpb H locs hT ls hl
          have hg := hT.go
          dsimp only at hg
          refine fp_iadd hx hb dL_isStep_242 ?_
          refine lv_istore (lv' := [(9, .int (iI ((z216 + z223) + pb))), (0, .ref (A 0)), (1, .ref (B 0)), (2, .int (iI (xa))), (3, .int (iI (ya))), (4, .int (iI (s2))), (5, .int (iI (z7))), (6, .int (iI (u18))), (7, .int (iI (z25))), (8, .int (iI (z33)))]) hx hb dL_isStep_243 hl (by decide) rfl (fun ls hl => ?_)
          refine lv_aload_n hx hb dL_isStep_245 rfl (lv_at hl 1 rfl) ?_
          refine lv_iload hx hb dL_isStep_246 (lv_at hl 7 rfl) ?_
          refine fq_L (As := [.int (iI (u18))]) (rest := []) ⟨hx, hb, hml, hown, hts⟩ (oc_remove l D cyI A (c := c) (ny := ny) (x := tx) (n := tn) (k := u18) (by omega)) (cwV 1 hts gL_isStep_X7_remove rfl rfl rfl (by decide +kernel) ⟨Nat.le_of_ble_eq_true rfl, Nat.le_of_ble_eq_true rfl⟩) hK hT rfl hl.1 rfl (Nat.le_of_ble_eq_true rfl) dL_isStep_248 ⟨Nat.zero_le _, Nat.zero_le _⟩ (fun z248 q248_ hq248_ H locs hT => ?_)
          obtain ⟨hz248, hr248⟩ := hq248_
          have hz248 : z248 = rmR c u18 := hz248
          obtain ⟨c248, n248, x248_, n248_⟩ := q248_
          have hc248 : c248 = if 0 ≤ rmR c u18 then rmC c u18 else c := congrArg (fun z : OS => z.1) hr248
          have hn248 : n248 = if 0 ≤ rmR c u18 then recN ny else ny := congrArg (fun z : OS => z.2.1) hr248
          rw [show x248_ = tx from congrArg (fun z : OS => z.2.2.1) hr248, show n248_ = tn from congrArg (fun z : OS => z.2.2.2) hr248] at hT
          have hg := hT.go
          dsimp only at hg
          have hrm := rm_ok hC0 (k := u18) (by omega) hc248
          rw [hrm.1] at hz248
          refine lv_iload hx hb dL_isStep_251 (lv_at hl 6 rfl) ?_
          refine fp_iconst hx hb dL_isStep_253 ?_
          refine fp_isub hx hb dL_isStep_254 ?_
          refine fp_icmp_ne (tgt := 275) hx hb (by omega) dL_isStep_255 (by decide) (fun q255 => ?_) (fun q255 => ?_)
          · skip
            exfalso; omega
          · skip
            refine lv_aload_n hx hb dL_isStep_258 rfl (lv_at hl 1 rfl) ?_
            refine fp_iconst hx hb dL_isStep_259 ?_
            refine fq_L (As := [.int (iI (4))]) (rest := []) ⟨hx, hb, hml, hown, hts⟩ (oc_count l D cyI A (c := c248) (ny := n248) (x := tx) (n := tn) (w := 4) (by omega)) (cwV 1 hts gL_isStep_X7_count rfl rfl rfl (by decide +kernel) ⟨Nat.le_of_ble_eq_true rfl, Nat.le_of_ble_eq_true rfl⟩) hK hT rfl hl.1 rfl (Nat.le_of_ble_eq_true rfl) dL_isStep_260 ⟨Nat.zero_le _, Nat.zero_le _⟩ (fun z260 q260_ hq260_ H locs hT => ?_)
            obtain ⟨hz260, hr260⟩ := hq260_
            have hz260 : z260 = cnR c248 n248 tn 4 := hz260
            subst hr260
            have hz260 : z260 = pgC c248 (c248 0) := hz260
            have hpn := pg_nn hg.1.1.1
            have hiq : itsC c u18 = c (u18 * 4 + 3) + (c (u18 * 4 + 1) + bI (¬ c (u18 * 4 + 2) = 0)) := rfl
            refine lv_iload hx hb dL_isStep_263 (lv_at hl 8 rfl) ?_
            refine lv_iload hx hb dL_isStep_265 (lv_at hl 0 rfl) ?_
            refine fp_isub hx hb dL_isStep_267 ?_
            refine fp_icmp_ne (tgt := 275) hx hb (by omega) dL_isStep_268 (by decide) (fun q268 => ?_) (fun q268 => ?_)
            · skip
              exfalso; omega
            · skip
              refine fp_iconst hx hb dL_isStep_271 ?_
              refine lv_goto (tgt := 276) hx hb dL_isStep_272 (by decide) ?_
              exact fq_ret2 (Po := (fun q r : OS => TrS (q.1) (r.1))) hx hb hr hlocks hT (TrS_c hI hrm.2.2.2) dL_isStep_276
        refine fp_if_le (tgt := 241) hx hb (by omega) dL_isStep_234 (by decide) (fun q234 => ?_) (fun q234 => ?_)
        · skip
          refine fp_iconst hx hb dL_isStep_241 ?_
          exact jn32 0 (by first | rw [bI_t (by omega)] | rw [bI_f (by omega)]) H locs hT ls (lv_sub hl [5, 6, 7, 8, 4, 3, 2, 1, 0] rfl)
        · skip
          refine fp_iconst hx hb dL_isStep_237 ?_
          refine lv_goto (tgt := 242) hx hb dL_isStep_238 (by decide) ?_
          exact jn32 1 (by first | rw [bI_t (by omega)] | rw [bI_f (by omega)]) H locs hT ls (lv_sub hl [5, 6, 7, 8, 4, 3, 2, 1, 0] rfl)
      · skip
        refine lv_aload_n hx hb dL_isStep_196 rfl (lv_at hl 5 rfl) ?_
        refine lv_iload hx hb dL_isStep_197 (lv_at hl 2 rfl) ?_
        refine fq_L (As := [.int (iI (u18))]) (rest := []) ⟨hx, hb, hml, hown, hts⟩ (oc_remove l D cyI A (c := c) (ny := ny) (x := tx) (n := tn) (k := u18) (by omega)) (cwV 1 hts gL_isStep_X7_remove rfl rfl rfl (by decide +kernel) ⟨Nat.le_of_ble_eq_true rfl, Nat.le_of_ble_eq_true rfl⟩) hK hT rfl hl.1 rfl (Nat.le_of_ble_eq_true rfl) dL_isStep_199 ⟨Nat.zero_le _, Nat.zero_le _⟩ (fun z199 q199_ hq199_ H locs hT => ?_)
        obtain ⟨hz199, hr199⟩ := hq199_
        have hz199 : z199 = rmR c u18 := hz199
        obtain ⟨c199, n199, x199_, n199_⟩ := q199_
        have hc199 : c199 = if 0 ≤ rmR c u18 then rmC c u18 else c := congrArg (fun z : OS => z.1) hr199
        have hn199 : n199 = if 0 ≤ rmR c u18 then recN ny else ny := congrArg (fun z : OS => z.2.1) hr199
        rw [show x199_ = tx from congrArg (fun z : OS => z.2.2.1) hr199, show n199_ = tn from congrArg (fun z : OS => z.2.2.2) hr199] at hT
        have hg := hT.go
        dsimp only at hg
        have hrm := rm_no (k := u18) (by omega) hc199
        rw [hrm.1] at hz199
        refine fp_iconst hx hb dL_isStep_202 ?_
        refine fp_icmp_ne (tgt := 210) hx hb (by omega) dL_isStep_203 (by decide) (fun q203 => ?_) (fun q203 => ?_)
        · skip
          exfalso; omega
        · skip
          refine fp_iconst hx hb dL_isStep_206 ?_
          refine lv_goto (tgt := 211) hx hb dL_isStep_207 (by decide) ?_
          exact fq_ret2 (Po := (fun q r : OS => TrS (q.1) (r.1))) hx hb hr hlocks hT (by dsimp only; rw [hrm.2]; exact hI) dL_isStep_211
    · skip
      refine lv_tableIn (off := 233) (tgt := 277) hx hb dL_isStep_44 (by rw [hsv]; decide) (by rw [hsv]; decide) (by rw [hsv]; decide) (by decide) ?_
      refine fp_iconst hx hb dL_isStep_277 ?_
      refine lv_iload_n hx hb dL_isStep_278 rfl (lv_at hl 8 rfl) ?_
      refine fp_iconst hx hb dL_isStep_279 ?_
      refine fq_P (As := [.int (iI (ya)), .int (iI (3))]) (rest := [.int (iI (1))]) ⟨hx, hb, hml, hown, hts⟩ (c_L_up l D cyI (ya) (3) (by omega)) (va_cwS 2 hts gL_isStep_L_up rfl rfl rfl (by decide +kernel) ⟨Nat.le_of_ble_eq_true rfl, Nat.le_of_ble_eq_true rfl⟩) hK rfl hl.1 rfl (Nat.le_of_ble_eq_true rfl) dL_isStep_280 ⟨Nat.zero_le _, Nat.zero_le _⟩ ?_
      have hu280 := upV_rg (ya) (n := 3) (by omega)
      obtain ⟨u280, eu280⟩ : ∃ z : Int, z = upV (ya) (3) := ⟨_, rfl⟩
      rw [← eu280]
      rw [← eu280] at hu280
      refine fp_iadd hx hb dL_isStep_283 ?_
      refine lv_istore (lv' := [(9, .int (iI (1 + u280))), (8, .int (iI (z33))), (7, .int (iI (z25))), (6, .int (iI (u18))), (5, .int (iI (z7))), (4, .int (iI (s2))), (0, .ref (A 0)), (1, .ref (B 0)), (2, .int (iI (xa))), (3, .int (iI (ya)))]) hx hb dL_isStep_284 hl (by decide) rfl (fun ls hl => ?_)
      refine lv_iload_n hx hb dL_isStep_286 rfl (lv_at hl 9 rfl) ?_
      refine fp_iconst hx hb dL_isStep_287 ?_
      refine fq_shr hx hb dL_isStep_288 (fun s288 hs288 => ?_)
      refine fp_iconst hx hb dL_isStep_289 ?_
      refine fq_P (As := [.int (iI (s288)), .int (iI (3))]) (rest := []) ⟨hx, hb, hml, hown, hts⟩ (c_L_up l D cyI (s288) (3) (by omega)) (va_cwS 2 hts gL_isStep_L_up rfl rfl rfl (by decide +kernel) ⟨Nat.le_of_ble_eq_true rfl, Nat.le_of_ble_eq_true rfl⟩) hK rfl hl.1 rfl (Nat.le_of_ble_eq_true rfl) dL_isStep_290 ⟨Nat.zero_le _, Nat.zero_le _⟩ ?_
      have hu290 := upV_rg (s288) (n := 3) (by omega)
      obtain ⟨u290, eu290⟩ : ∃ z : Int, z = upV (s288) (3) := ⟨_, rfl⟩
      rw [← eu290]
      rw [← eu290] at hu290
      refine lv_istore (lv' := [(10, .int (iI (u290))), (9, .int (iI (1 + u280))), (8, .int (iI (z33))), (7, .int (iI (z25))), (6, .int (iI (u18))), (5, .int (iI (z7))), (4, .int (iI (s2))), (0, .ref (A 0)), (1, .ref (B 0)), (2, .int (iI (xa))), (3, .int (iI (ya)))]) hx hb dL_isStep_293 hl (by decide) rfl (fun ls hl => ?_)
      refine lv_aload_n hx hb dL_isStep_295 rfl (lv_at hl 7 rfl) ?_
      refine lv_iload hx hb dL_isStep_296 (lv_at hl 4 rfl) ?_
      refine lv_iload hx hb dL_isStep_298 (lv_at hl 1 rfl) ?_
      refine lv_iload hx hb dL_isStep_300 (lv_at hl 0 rfl) ?_
      refine fq_L (As := [.int (iI (u18)), .int (iI (1 + u280)), .int (iI (u290))]) (rest := []) ⟨hx, hb, hml, hown, hts⟩ (oc_change l D cyI A (c := c) (ny := ny) (x := tx) (n := tn) (k := u18) (t := 1 + u280) (p := u290) (by omega) (by omega) (by omega)) (cwV 3 hts gL_isStep_X7_change rfl rfl rfl (by decide +kernel) ⟨Nat.le_of_ble_eq_true rfl, Nat.le_of_ble_eq_true rfl⟩) hK hT rfl hl.1 rfl (Nat.le_of_ble_eq_true rfl) dL_isStep_302 ⟨Nat.zero_le _, Nat.zero_le _⟩ (fun z302 q302_ hq302_ H locs hT => ?_)
      obtain ⟨hz302, hr302⟩ := hq302_
      have hz302 : z302 = chR c u18 (1 + u280) u290 := hz302
      obtain ⟨c302, n302, x302_, n302_⟩ := q302_
      have hc302 : c302 = if 0 ≤ chR c u18 (1 + u280) u290 then chC c u18 (1 + u280) u290 else c := congrArg (fun z : OS => z.1) hr302
      have hn302 : n302 = if 0 ≤ chR c u18 (1 + u280) u290 then recN ny else ny := congrArg (fun z : OS => z.2.1) hr302
      rw [show x302_ = tx from congrArg (fun z : OS => z.2.2.1) hr302, show n302_ = tn from congrArg (fun z : OS => z.2.2.2) hr302] at hT
      have hg := hT.go
      dsimp only at hg
      have htp : (1 ≤ 1 + u280 ∧ 1 + u280 ≤ 3) ∧ (0 ≤ u290 ∧ u290 ≤ 2) := by omega
      refine lv_istore (lv' := [(11, .int (iI (z302))), (10, .int (iI (u290))), (9, .int (iI (1 + u280))), (8, .int (iI (z33))), (7, .int (iI (z25))), (6, .int (iI (u18))), (5, .int (iI (z7))), (4, .int (iI (s2))), (0, .ref (A 0)), (1, .ref (B 0)), (2, .int (iI (xa))), (3, .int (iI (ya)))]) hx hb dL_isStep_305 hl (by decide) rfl (fun ls hl => ?_)
      refine lv_iload hx hb dL_isStep_307 (lv_at hl 5 rfl) ?_
      refine lv_iload hx hb dL_isStep_309 (lv_at hl 6 rfl) ?_
      refine fp_icmp_ne (tgt := 328) hx hb (by omega) dL_isStep_311 (by decide) (fun q311 => ?_) (fun q311 => ?_)
      · skip
        have hch := ch_ok hC0 (k := u18) (by omega) htp hc302
        rw [← hz302] at hch
        refine lv_aload_n hx hb dL_isStep_328 rfl (lv_at hl 8 rfl) ?_
        refine lv_iload hx hb dL_isStep_329 (lv_at hl 5 rfl) ?_
        refine fp_iconst hx hb dL_isStep_331 ?_
        refine fq_L (As := [.int (iI (u18)), .int (iI (0))]) (rest := []) ⟨hx, hb, hml, hown, hts⟩ (oc_lot l D cyI A (c := c302) (ny := n302) (x := tx) (n := tn) (k := u18) (w := 0) (by omega) (by omega)) (cwV 2 hts gL_isStep_X7_lot rfl rfl rfl (by decide +kernel) ⟨Nat.le_of_ble_eq_true rfl, Nat.le_of_ble_eq_true rfl⟩) hK hT rfl hl.1 rfl (Nat.le_of_ble_eq_true rfl) dL_isStep_332 ⟨Nat.zero_le _, Nat.zero_le _⟩ (fun z332 q332_ hq332_ H locs hT => ?_)
        obtain ⟨hz332, hr332⟩ := hq332_
        have hz332 : z332 = ltR c302 u18 0 := hz332
        subst hr332
        have hz332 : z332 = c302 (u18 * 4 + 1) := hz332.trans (lq_0 (by omega))
        refine lv_iload hx hb dL_isStep_335 (lv_at hl 2 rfl) ?_
        refine fp_icmp_ne (tgt := 414) hx hb (by omega) dL_isStep_337 (by decide) (fun q337 => ?_) (fun q337 => ?_)
        · skip
          exfalso; omega
        · skip
          refine lv_aload_n hx hb dL_isStep_340 rfl (lv_at hl 8 rfl) ?_
          refine lv_iload hx hb dL_isStep_341 (lv_at hl 5 rfl) ?_
          refine fp_iconst hx hb dL_isStep_343 ?_
          refine fq_L (As := [.int (iI (u18)), .int (iI (1))]) (rest := []) ⟨hx, hb, hml, hown, hts⟩ (oc_lot l D cyI A (c := c302) (ny := n302) (x := tx) (n := tn) (k := u18) (w := 1) (by omega) (by omega)) (cwV 2 hts gL_isStep_X7_lot rfl rfl rfl (by decide +kernel) ⟨Nat.le_of_ble_eq_true rfl, Nat.le_of_ble_eq_true rfl⟩) hK hT rfl hl.1 rfl (Nat.le_of_ble_eq_true rfl) dL_isStep_344 ⟨Nat.zero_le _, Nat.zero_le _⟩ (fun z344 q344_ hq344_ H locs hT => ?_)
          obtain ⟨hz344, hr344⟩ := hq344_
          have hz344 : z344 = ltR c302 u18 1 := hz344
          subst hr344
          have hz344 : z344 = c302 (u18 * 4 + 2) := hz344.trans (lq_1 (by omega))
          refine lv_iload hx hb dL_isStep_347 (lv_at hl 1 rfl) ?_
          refine fp_icmp_ne (tgt := 414) hx hb (by omega) dL_isStep_349 (by decide) (fun q349 => ?_) (fun q349 => ?_)
          · skip
            exfalso; omega
          · skip
            refine lv_aload_n hx hb dL_isStep_352 rfl (lv_at hl 8 rfl) ?_
            refine fp_bipush hx hb dL_isStep_353 (by decide) ?_
            refine fq_L (As := [.int (iI (8))]) (rest := []) ⟨hx, hb, hml, hown, hts⟩ (oc_count l D cyI A (c := c302) (ny := n302) (x := tx) (n := tn) (w := 8) (by omega)) (cwV 1 hts gL_isStep_X7_count rfl rfl rfl (by decide +kernel) ⟨Nat.le_of_ble_eq_true rfl, Nat.le_of_ble_eq_true rfl⟩) hK hT rfl hl.1 rfl (Nat.le_of_ble_eq_true rfl) dL_isStep_355 ⟨Nat.zero_le _, Nat.zero_le _⟩ (fun z355 q355_ hq355_ H locs hT => ?_)
            obtain ⟨hz355, hr355⟩ := hq355_
            have hz355 : z355 = cnR c302 n302 tn 8 := hz355
            subst hr355
            have hz355 : z355 = blC c302 := hz355
            refine lv_iload hx hb dL_isStep_358 (lv_at hl 3 rfl) ?_
            refine fp_icmp_ne (tgt := 414) hx hb (by omega) dL_isStep_360 (by decide) (fun q360 => ?_) (fun q360 => ?_)
            · skip
              exfalso; omega
            · skip
              refine lv_iload hx hb dL_isStep_363 (lv_at hl 0 rfl) ?_
              refine fp_bipush hx hb dL_isStep_365 (by decide) ?_
              refine fp_icmp_ne (tgt := 383) hx hb (by omega) dL_isStep_367 (by decide) (fun q367 => ?_) (fun q367 => ?_)
              · skip
                refine lv_iload hx hb dL_isStep_383 (lv_at hl 0 rfl) ?_
                refine lv_aload_n hx hb dL_isStep_385 rfl (lv_at hl 8 rfl) ?_
                refine fp_iconst hx hb dL_isStep_386 ?_
                refine fq_L (As := [.int (iI (4))]) (rest := [.int (iI (z302))]) ⟨hx, hb, hml, hown, hts⟩ (oc_count l D cyI A (c := c302) (ny := n302) (x := tx) (n := tn) (w := 4) (by omega)) (cwV 1 hts gL_isStep_X7_count rfl rfl rfl (by decide +kernel) ⟨Nat.le_of_ble_eq_true rfl, Nat.le_of_ble_eq_true rfl⟩) hK hT rfl hl.1 rfl (Nat.le_of_ble_eq_true rfl) dL_isStep_387 ⟨Nat.zero_le _, Nat.zero_le _⟩ (fun z387 q387_ hq387_ H locs hT => ?_)
                obtain ⟨hz387, hr387⟩ := hq387_
                have hz387 : z387 = cnR c302 n302 tn 4 := hz387
                subst hr387
                have hz387 : z387 = pgC c302 (c302 0) := hz387
                have hpn := pg_nn hg.1.1.1
                refine fp_icmp_ne (tgt := 414) hx hb (by omega) dL_isStep_390 (by decide) (fun q390 => ?_) (fun q390 => ?_)
                · skip
                  exfalso; omega
                · skip
                  refine lv_iload hx hb dL_isStep_393 (lv_at hl 1 rfl) ?_
                  refine fp_if_eq (tgt := 410) hx hb (by omega) dL_isStep_395 (by decide) (fun q395 => ?_) (fun q395 => ?_)
                  · skip
                    refine fp_iconst hx hb dL_isStep_410 ?_
                    refine lv_goto (tgt := 415) hx hb dL_isStep_411 (by decide) ?_
                    exact fq_ret2 (Po := (fun q r : OS => TrS (q.1) (r.1))) hx hb hr hlocks hT (by dsimp only; first | (rw [hch.2]; exact hI) | exact TrS_c hI hch.2.2) dL_isStep_415
                  · skip
                    refine lv_aload_n hx hb dL_isStep_398 rfl (lv_at hl 8 rfl) ?_
                    refine lv_iload hx hb dL_isStep_399 (lv_at hl 5 rfl) ?_
                    refine fp_iconst hx hb dL_isStep_401 ?_
                    refine fq_L (As := [.int (iI (u18)), .int (iI (3))]) (rest := []) ⟨hx, hb, hml, hown, hts⟩ (oc_lot l D cyI A (c := c302) (ny := n302) (x := tx) (n := tn) (k := u18) (w := 3) (by omega) (by omega)) (cwV 2 hts gL_isStep_X7_lot rfl rfl rfl (by decide +kernel) ⟨Nat.le_of_ble_eq_true rfl, Nat.le_of_ble_eq_true rfl⟩) hK hT rfl hl.1 rfl (Nat.le_of_ble_eq_true rfl) dL_isStep_402 ⟨Nat.zero_le _, Nat.zero_le _⟩ (fun z402 q402_ hq402_ H locs hT => ?_)
                    obtain ⟨hz402, hr402⟩ := hq402_
                    have hz402 : z402 = ltR c302 u18 3 := hz402
                    subst hr402
                    have hz402 : z402 = if c302 (u18 * 4 + 2) = 0 then -5 else c302 (u18 * 4 + 4) := hz402.trans (lq_3 (by omega))
                    rw [if_neg (by omega)] at hz402
                    have hL2 := lot_f hg.1.1.1 (k := u18) (by omega)
                    unfold LotOK at hL2
                    refine lv_iload hx hb dL_isStep_405 (lv_at hl 2 rfl) ?_
                    refine fp_icmp_gt (tgt := 414) hx hb (by omega) dL_isStep_407 (by decide) (fun q407 => ?_) (fun q407 => ?_)
                    · skip
                      exfalso; omega
                    · skip
                      refine fp_iconst hx hb dL_isStep_410 ?_
                      refine lv_goto (tgt := 415) hx hb dL_isStep_411 (by decide) ?_
                      exact fq_ret2 (Po := (fun q r : OS => TrS (q.1) (r.1))) hx hb hr hlocks hT (by dsimp only; first | (rw [hch.2]; exact hI) | exact TrS_c hI hch.2.2) dL_isStep_415
              · skip
                refine lv_aload_n hx hb dL_isStep_370 rfl (lv_at hl 8 rfl) ?_
                refine fp_iconst hx hb dL_isStep_371 ?_
                refine fq_L (As := [.int (iI (4))]) (rest := []) ⟨hx, hb, hml, hown, hts⟩ (oc_count l D cyI A (c := c302) (ny := n302) (x := tx) (n := tn) (w := 4) (by omega)) (cwV 1 hts gL_isStep_X7_count rfl rfl rfl (by decide +kernel) ⟨Nat.le_of_ble_eq_true rfl, Nat.le_of_ble_eq_true rfl⟩) hK hT rfl hl.1 rfl (Nat.le_of_ble_eq_true rfl) dL_isStep_372 ⟨Nat.zero_le _, Nat.zero_le _⟩ (fun z372 q372_ hq372_ H locs hT => ?_)
                obtain ⟨hz372, hr372⟩ := hq372_
                have hz372 : z372 = cnR c302 n302 tn 4 := hz372
                subst hr372
                have hz372 : z372 = pgC c302 (c302 0) := hz372
                have hpn := pg_nn hg.1.1.1
                refine lv_iload hx hb dL_isStep_375 (lv_at hl 4 rfl) ?_
                refine fp_icmp_ne (tgt := 414) hx hb (by omega) dL_isStep_377 (by decide) (fun q377 => ?_) (fun q377 => ?_)
                · skip
                  exfalso; omega
                · skip
                  refine lv_goto (tgt := 393) hx hb dL_isStep_380 (by decide) ?_
                  refine lv_iload hx hb dL_isStep_393 (lv_at hl 1 rfl) ?_
                  refine fp_if_eq (tgt := 410) hx hb (by omega) dL_isStep_395 (by decide) (fun q395 => ?_) (fun q395 => ?_)
                  · skip
                    refine fp_iconst hx hb dL_isStep_410 ?_
                    refine lv_goto (tgt := 415) hx hb dL_isStep_411 (by decide) ?_
                    exact fq_ret2 (Po := (fun q r : OS => TrS (q.1) (r.1))) hx hb hr hlocks hT (by dsimp only; first | (rw [hch.2]; exact hI) | exact TrS_c hI hch.2.2) dL_isStep_415
                  · skip
                    refine lv_aload_n hx hb dL_isStep_398 rfl (lv_at hl 8 rfl) ?_
                    refine lv_iload hx hb dL_isStep_399 (lv_at hl 5 rfl) ?_
                    refine fp_iconst hx hb dL_isStep_401 ?_
                    refine fq_L (As := [.int (iI (u18)), .int (iI (3))]) (rest := []) ⟨hx, hb, hml, hown, hts⟩ (oc_lot l D cyI A (c := c302) (ny := n302) (x := tx) (n := tn) (k := u18) (w := 3) (by omega) (by omega)) (cwV 2 hts gL_isStep_X7_lot rfl rfl rfl (by decide +kernel) ⟨Nat.le_of_ble_eq_true rfl, Nat.le_of_ble_eq_true rfl⟩) hK hT rfl hl.1 rfl (Nat.le_of_ble_eq_true rfl) dL_isStep_402 ⟨Nat.zero_le _, Nat.zero_le _⟩ (fun z402 q402_ hq402_ H locs hT => ?_)
                    obtain ⟨hz402, hr402⟩ := hq402_
                    have hz402 : z402 = ltR c302 u18 3 := hz402
                    subst hr402
                    have hz402 : z402 = if c302 (u18 * 4 + 2) = 0 then -5 else c302 (u18 * 4 + 4) := hz402.trans (lq_3 (by omega))
                    rw [if_neg (by omega)] at hz402
                    have hL2 := lot_f hg.1.1.1 (k := u18) (by omega)
                    unfold LotOK at hL2
                    refine lv_iload hx hb dL_isStep_405 (lv_at hl 2 rfl) ?_
                    refine fp_icmp_gt (tgt := 414) hx hb (by omega) dL_isStep_407 (by decide) (fun q407 => ?_) (fun q407 => ?_)
                    · skip
                      exfalso; omega
                    · skip
                      refine fp_iconst hx hb dL_isStep_410 ?_
                      refine lv_goto (tgt := 415) hx hb dL_isStep_411 (by decide) ?_
                      exact fq_ret2 (Po := (fun q r : OS => TrS (q.1) (r.1))) hx hb hr hlocks hT (by dsimp only; first | (rw [hch.2]; exact hI) | exact TrS_c hI hch.2.2) dL_isStep_415
      · skip
        have hch := ch_no (k := u18) (by omega) hc302
        rw [hch.1] at hz302
        refine lv_iload hx hb dL_isStep_314 (lv_at hl 0 rfl) ?_
        refine fp_iconst hx hb dL_isStep_316 ?_
        refine fp_icmp_ne (tgt := 324) hx hb (by omega) dL_isStep_317 (by decide) (fun q317 => ?_) (fun q317 => ?_)
        · skip
          exfalso; omega
        · skip
          refine fp_iconst hx hb dL_isStep_320 ?_
          refine lv_goto (tgt := 415) hx hb dL_isStep_321 (by decide) ?_
          exact fq_ret2 (Po := (fun q r : OS => TrS (q.1) (r.1))) hx hb hr hlocks hT (by dsimp only; first | (rw [hch.2]; exact hI) | exact TrS_c hI hch.2.2) dL_isStep_415
    · skip
      refine lv_tableIn (off := 372) (tgt := 416) hx hb dL_isStep_44 (by rw [hsv]; decide) (by rw [hsv]; decide) (by rw [hsv]; decide) (by decide) ?_
      refine lv_iload_n hx hb dL_isStep_416 rfl (lv_at hl 8 rfl) ?_
      refine lv_iload hx hb dL_isStep_417 (lv_at hl 3 rfl) ?_
      refine fp_iconst hx hb dL_isStep_419 ?_
      refine fp_iadd hx hb dL_isStep_420 ?_
      refine fq_P (As := [.int (iI (ya)), .int (iI (z7 + 1))]) (rest := []) ⟨hx, hb, hml, hown, hts⟩ (c_L_up l D cyI (ya) (z7 + 1) (by omega)) (va_cwS 2 hts gL_isStep_L_up rfl rfl rfl (by decide +kernel) ⟨Nat.le_of_ble_eq_true rfl, Nat.le_of_ble_eq_true rfl⟩) hK rfl hl.1 rfl (Nat.le_of_ble_eq_true rfl) dL_isStep_421 ⟨Nat.zero_le _, Nat.zero_le _⟩ ?_
      have hu421 := upV_rg (ya) (n := z7 + 1) (by omega)
      obtain ⟨u421, eu421⟩ : ∃ z : Int, z = upV (ya) (z7 + 1) := ⟨_, rfl⟩
      rw [← eu421]
      rw [← eu421] at hu421
      refine lv_istore (lv' := [(9, .int (iI (u421))), (8, .int (iI (z33))), (7, .int (iI (z25))), (6, .int (iI (u18))), (5, .int (iI (z7))), (4, .int (iI (s2))), (0, .ref (A 0)), (1, .ref (B 0)), (2, .int (iI (xa))), (3, .int (iI (ya)))]) hx hb dL_isStep_424 hl (by decide) rfl (fun ls hl => ?_)
      refine lv_aload_n hx hb dL_isStep_426 rfl (lv_at hl 6 rfl) ?_
      refine lv_iload hx hb dL_isStep_427 (lv_at hl 3 rfl) ?_
      refine lv_iload hx hb dL_isStep_429 (lv_at hl 0 rfl) ?_
      refine fq_L (As := [.int (iI (u18)), .int (iI (u421))]) (rest := []) ⟨hx, hb, hml, hown, hts⟩ (oc_move l D cyI A (c := c) (ny := ny) (x := tx) (n := tn) (k := u18) (t := u421) (by omega) (by omega)) (cwV 2 hts gL_isStep_X7_move rfl rfl rfl (by decide +kernel) ⟨Nat.le_of_ble_eq_true rfl, Nat.le_of_ble_eq_true rfl⟩) hK hT rfl hl.1 rfl (Nat.le_of_ble_eq_true rfl) dL_isStep_431 ⟨Nat.zero_le _, Nat.zero_le _⟩ (fun z431 q431_ hq431_ H locs hT => ?_)
      obtain ⟨hz431, hr431⟩ := hq431_
      have hz431 : z431 = mvR c u18 u421 := hz431
      obtain ⟨c431, n431, x431_, n431_⟩ := q431_
      have hc431 : c431 = if 0 ≤ mvR c u18 u421 then shL c u18 u421 else c := congrArg (fun z : OS => z.1) hr431
      have hn431 : n431 = if 0 ≤ mvR c u18 u421 then recN ny else ny := congrArg (fun z : OS => z.2.1) hr431
      rw [show x431_ = tx from congrArg (fun z : OS => z.2.2.1) hr431, show n431_ = tn from congrArg (fun z : OS => z.2.2.2) hr431] at hT
      have hg := hT.go
      dsimp only at hg
      have hpn := pg_nn hg.1.1.1
      have hcn := cs_nn hg.1.1.1
      have hbn := bl_nn hg.1.1.1
      refine lv_istore (lv' := [(10, .int (iI (z431))), (9, .int (iI (u421))), (8, .int (iI (z33))), (7, .int (iI (z25))), (6, .int (iI (u18))), (5, .int (iI (z7))), (4, .int (iI (s2))), (0, .ref (A 0)), (1, .ref (B 0)), (2, .int (iI (xa))), (3, .int (iI (ya)))]) hx hb dL_isStep_434 hl (by decide) rfl (fun ls hl => ?_)
      refine lv_iload hx hb dL_isStep_436 (lv_at hl 4 rfl) ?_
      refine lv_iload hx hb dL_isStep_438 (lv_at hl 5 rfl) ?_
      refine fp_icmp_eq (tgt := 450) hx hb (by omega) dL_isStep_440 (by decide) (fun q440 => ?_) (fun q440 => ?_)
      · skip
        have hmv := mv_no (a := u18) (b := u421) (by omega) hc431
        rw [hmv.1] at hz431
        refine lv_iload hx hb dL_isStep_450 (lv_at hl 0 rfl) ?_
        refine fp_iconst hx hb dL_isStep_452 ?_
        refine fp_icmp_ne (tgt := 460) hx hb (by omega) dL_isStep_453 (by decide) (fun q453 => ?_) (fun q453 => ?_)
        · skip
          exfalso; omega
        · skip
          refine fp_iconst hx hb dL_isStep_456 ?_
          refine lv_goto (tgt := 532) hx hb dL_isStep_457 (by decide) ?_
          exact fq_ret2 (Po := (fun q r : OS => TrS (q.1) (r.1))) hx hb hr hlocks hT (by dsimp only; first | (rw [hmv.2]; exact hI) | exact TrS_c hI hmv.2.2.2 | exact TrS_c (TrS_c hI hmv.2.2.2) hmw.2.2.2) dL_isStep_532
      · skip
        refine lv_iload hx hb dL_isStep_443 (lv_at hl 1 rfl) ?_
        refine lv_iload hx hb dL_isStep_445 (lv_at hl 5 rfl) ?_
        refine fp_icmp_ne (tgt := 464) hx hb (by omega) dL_isStep_447 (by decide) (fun q447 => ?_) (fun q447 => ?_)
        · skip
          have hmv := mv_ok hC0 (a := u18) (b := u421) (by omega) (by omega) hc431
          rw [← hz431] at hmv
          refine lv_iload hx hb dL_isStep_464 (lv_at hl 0 rfl) ?_
          refine lv_iload hx hb dL_isStep_466 (lv_at hl 4 rfl) ?_
          refine lv_iload hx hb dL_isStep_468 (lv_at hl 1 rfl) ?_
          refine fp_icmp_ne (tgt := 478) hx hb (by omega) dL_isStep_470 (by decide) (fun q470 => ?_) (fun q470 => ?_)
          · skip
            have hm2 := hmv.2.1 q470
            refine lv_aload_n hx hb dL_isStep_478 rfl (lv_at hl 7 rfl) ?_
            refine fp_bipush hx hb dL_isStep_479 (by decide) ?_
            refine fq_L (As := [.int (iI (9))]) (rest := [.int (iI (z431))]) ⟨hx, hb, hml, hown, hts⟩ (oc_count l D cyI A (c := c431) (ny := n431) (x := tx) (n := tn) (w := 9) (by omega)) (cwV 1 hts gL_isStep_X7_count rfl rfl rfl (by decide +kernel) ⟨Nat.le_of_ble_eq_true rfl, Nat.le_of_ble_eq_true rfl⟩) hK hT rfl hl.1 rfl (Nat.le_of_ble_eq_true rfl) dL_isStep_481 ⟨Nat.zero_le _, Nat.zero_le _⟩ (fun z481 q481_ hq481_ H locs hT => ?_)
            obtain ⟨hz481, hr481⟩ := hq481_
            have hz481 : z481 = cnR c431 n431 tn 9 := hz481
            subst hr481
            have hz481 : z481 = csC c431 := hz481
            refine fp_icmp_ne (tgt := 531) hx hb (by omega) dL_isStep_484 (by decide) (fun q484 => ?_) (fun q484 => ?_)
            · skip
              exfalso; omega
            · skip
              refine lv_aload_n hx hb dL_isStep_487 rfl (lv_at hl 7 rfl) ?_
              refine fp_iconst hx hb dL_isStep_488 ?_
              refine fq_L (As := [.int (iI (4))]) (rest := []) ⟨hx, hb, hml, hown, hts⟩ (oc_count l D cyI A (c := c431) (ny := n431) (x := tx) (n := tn) (w := 4) (by omega)) (cwV 1 hts gL_isStep_X7_count rfl rfl rfl (by decide +kernel) ⟨Nat.le_of_ble_eq_true rfl, Nat.le_of_ble_eq_true rfl⟩) hK hT rfl hl.1 rfl (Nat.le_of_ble_eq_true rfl) dL_isStep_489 ⟨Nat.zero_le _, Nat.zero_le _⟩ (fun z489 q489_ hq489_ H locs hT => ?_)
              obtain ⟨hz489, hr489⟩ := hq489_
              have hz489 : z489 = cnR c431 n431 tn 4 := hz489
              subst hr489
              have hz489 : z489 = pgC c431 (c431 0) := hz489
              refine lv_iload hx hb dL_isStep_492 (lv_at hl 3 rfl) ?_
              refine fp_icmp_ne (tgt := 531) hx hb (by omega) dL_isStep_494 (by decide) (fun q494 => ?_) (fun q494 => ?_)
              · skip
                exfalso; omega
              · skip
                refine lv_aload_n hx hb dL_isStep_497 rfl (lv_at hl 7 rfl) ?_
                refine fp_bipush hx hb dL_isStep_498 (by decide) ?_
                refine fq_L (As := [.int (iI (8))]) (rest := []) ⟨hx, hb, hml, hown, hts⟩ (oc_count l D cyI A (c := c431) (ny := n431) (x := tx) (n := tn) (w := 8) (by omega)) (cwV 1 hts gL_isStep_X7_count rfl rfl rfl (by decide +kernel) ⟨Nat.le_of_ble_eq_true rfl, Nat.le_of_ble_eq_true rfl⟩) hK hT rfl hl.1 rfl (Nat.le_of_ble_eq_true rfl) dL_isStep_500 ⟨Nat.zero_le _, Nat.zero_le _⟩ (fun z500 q500_ hq500_ H locs hT => ?_)
                obtain ⟨hz500, hr500⟩ := hq500_
                have hz500 : z500 = cnR c431 n431 tn 8 := hz500
                subst hr500
                have hz500 : z500 = blC c431 := hz500
                refine lv_iload hx hb dL_isStep_503 (lv_at hl 2 rfl) ?_
                refine fp_icmp_ne (tgt := 531) hx hb (by omega) dL_isStep_505 (by decide) (fun q505 => ?_) (fun q505 => ?_)
                · skip
                  exfalso; omega
                · skip
                  refine lv_iload hx hb dL_isStep_508 (lv_at hl 4 rfl) ?_
                  refine lv_iload hx hb dL_isStep_510 (lv_at hl 1 rfl) ?_
                  refine fp_icmp_eq (tgt := 527) hx hb (by omega) dL_isStep_512 (by decide) (fun q512 => ?_) (fun q512 => ?_)
                  · skip
                    refine fp_iconst hx hb dL_isStep_527 ?_
                    refine lv_goto (tgt := 532) hx hb dL_isStep_528 (by decide) ?_
                    exact fq_ret2 (Po := (fun q r : OS => TrS (q.1) (r.1))) hx hb hr hlocks hT (by dsimp only; first | (rw [hmv.2]; exact hI) | exact TrS_c hI hmv.2.2.2 | exact TrS_c (TrS_c hI hmv.2.2.2) hmw.2.2.2) dL_isStep_532
                  · skip
                    have hC9 := hg.1.1.1
                    refine lv_aload_n hx hb dL_isStep_515 rfl (lv_at hl 7 rfl) ?_
                    refine lv_iload hx hb dL_isStep_516 (lv_at hl 1 rfl) ?_
                    refine lv_iload hx hb dL_isStep_518 (lv_at hl 4 rfl) ?_
                    refine fq_L (As := [.int (iI (u421)), .int (iI (u18))]) (rest := []) ⟨hx, hb, hml, hown, hts⟩ (oc_move l D cyI A (c := c431) (ny := n431) (x := tx) (n := tn) (k := u421) (t := u18) (by omega) (by omega)) (cwV 2 hts gL_isStep_X7_move rfl rfl rfl (by decide +kernel) ⟨Nat.le_of_ble_eq_true rfl, Nat.le_of_ble_eq_true rfl⟩) hK hT rfl hl.1 rfl (Nat.le_of_ble_eq_true rfl) dL_isStep_520 ⟨Nat.zero_le _, Nat.zero_le _⟩ (fun z520 q520_ hq520_ H locs hT => ?_)
                    obtain ⟨hz520, hr520⟩ := hq520_
                    have hz520 : z520 = mvR c431 u421 u18 := hz520
                    obtain ⟨c520, n520, x520_, n520_⟩ := q520_
                    have hc520 : c520 = if 0 ≤ mvR c431 u421 u18 then shL c431 u421 u18 else c431 := congrArg (fun z : OS => z.1) hr520
                    have hn520 : n520 = if 0 ≤ mvR c431 u421 u18 then recN n431 else n431 := congrArg (fun z : OS => z.2.1) hr520
                    rw [show x520_ = tx from congrArg (fun z : OS => z.2.2.1) hr520, show n520_ = tn from congrArg (fun z : OS => z.2.2.2) hr520] at hT
                    have hg := hT.go
                    dsimp only at hg
                    have hcn5 := cs_nn hg.1.1.1
                    have hmw := mv_ok hC9 (a := u421) (b := u18) (by omega) (by omega) hc520
                    rw [← hz520] at hmw
                    have hm3 := hmw.2.1 (by omega)
                    refine fp_iconst hx hb dL_isStep_523 ?_
                    refine fp_icmp_eq (tgt := 531) hx hb (by omega) dL_isStep_524 (by decide) (fun q524 => ?_) (fun q524 => ?_)
                    · skip
                      exfalso; omega
                    · skip
                      refine fp_iconst hx hb dL_isStep_527 ?_
                      refine lv_goto (tgt := 532) hx hb dL_isStep_528 (by decide) ?_
                      exact fq_ret2 (Po := (fun q r : OS => TrS (q.1) (r.1))) hx hb hr hlocks hT (by dsimp only; first | (rw [hmv.2]; exact hI) | exact TrS_c hI hmv.2.2.2 | exact TrS_c (TrS_c hI hmv.2.2.2) hmw.2.2.2) dL_isStep_532
          · skip
            have hm2 := hmv.1 q470
            refine fp_bipush hx hb dL_isStep_473 (by decide) ?_
            refine lv_goto (tgt := 484) hx hb dL_isStep_475 (by decide) ?_
            refine fp_icmp_ne (tgt := 531) hx hb (by omega) dL_isStep_484 (by decide) (fun q484 => ?_) (fun q484 => ?_)
            · skip
              exfalso; omega
            · skip
              refine lv_aload_n hx hb dL_isStep_487 rfl (lv_at hl 7 rfl) ?_
              refine fp_iconst hx hb dL_isStep_488 ?_
              refine fq_L (As := [.int (iI (4))]) (rest := []) ⟨hx, hb, hml, hown, hts⟩ (oc_count l D cyI A (c := c431) (ny := n431) (x := tx) (n := tn) (w := 4) (by omega)) (cwV 1 hts gL_isStep_X7_count rfl rfl rfl (by decide +kernel) ⟨Nat.le_of_ble_eq_true rfl, Nat.le_of_ble_eq_true rfl⟩) hK hT rfl hl.1 rfl (Nat.le_of_ble_eq_true rfl) dL_isStep_489 ⟨Nat.zero_le _, Nat.zero_le _⟩ (fun z489 q489_ hq489_ H locs hT => ?_)
              obtain ⟨hz489, hr489⟩ := hq489_
              have hz489 : z489 = cnR c431 n431 tn 4 := hz489
              subst hr489
              have hz489 : z489 = pgC c431 (c431 0) := hz489
              refine lv_iload hx hb dL_isStep_492 (lv_at hl 3 rfl) ?_
              refine fp_icmp_ne (tgt := 531) hx hb (by omega) dL_isStep_494 (by decide) (fun q494 => ?_) (fun q494 => ?_)
              · skip
                exfalso; omega
              · skip
                refine lv_aload_n hx hb dL_isStep_497 rfl (lv_at hl 7 rfl) ?_
                refine fp_bipush hx hb dL_isStep_498 (by decide) ?_
                refine fq_L (As := [.int (iI (8))]) (rest := []) ⟨hx, hb, hml, hown, hts⟩ (oc_count l D cyI A (c := c431) (ny := n431) (x := tx) (n := tn) (w := 8) (by omega)) (cwV 1 hts gL_isStep_X7_count rfl rfl rfl (by decide +kernel) ⟨Nat.le_of_ble_eq_true rfl, Nat.le_of_ble_eq_true rfl⟩) hK hT rfl hl.1 rfl (Nat.le_of_ble_eq_true rfl) dL_isStep_500 ⟨Nat.zero_le _, Nat.zero_le _⟩ (fun z500 q500_ hq500_ H locs hT => ?_)
                obtain ⟨hz500, hr500⟩ := hq500_
                have hz500 : z500 = cnR c431 n431 tn 8 := hz500
                subst hr500
                have hz500 : z500 = blC c431 := hz500
                refine lv_iload hx hb dL_isStep_503 (lv_at hl 2 rfl) ?_
                refine fp_icmp_ne (tgt := 531) hx hb (by omega) dL_isStep_505 (by decide) (fun q505 => ?_) (fun q505 => ?_)
                · skip
                  exfalso; omega
                · skip
                  refine lv_iload hx hb dL_isStep_508 (lv_at hl 4 rfl) ?_
                  refine lv_iload hx hb dL_isStep_510 (lv_at hl 1 rfl) ?_
                  refine fp_icmp_eq (tgt := 527) hx hb (by omega) dL_isStep_512 (by decide) (fun q512 => ?_) (fun q512 => ?_)
                  · skip
                    refine fp_iconst hx hb dL_isStep_527 ?_
                    refine lv_goto (tgt := 532) hx hb dL_isStep_528 (by decide) ?_
                    exact fq_ret2 (Po := (fun q r : OS => TrS (q.1) (r.1))) hx hb hr hlocks hT (by dsimp only; first | (rw [hmv.2]; exact hI) | exact TrS_c hI hmv.2.2.2 | exact TrS_c (TrS_c hI hmv.2.2.2) hmw.2.2.2) dL_isStep_532
                  · skip
                    have hC9 := hg.1.1.1
                    refine lv_aload_n hx hb dL_isStep_515 rfl (lv_at hl 7 rfl) ?_
                    refine lv_iload hx hb dL_isStep_516 (lv_at hl 1 rfl) ?_
                    refine lv_iload hx hb dL_isStep_518 (lv_at hl 4 rfl) ?_
                    refine fq_L (As := [.int (iI (u421)), .int (iI (u18))]) (rest := []) ⟨hx, hb, hml, hown, hts⟩ (oc_move l D cyI A (c := c431) (ny := n431) (x := tx) (n := tn) (k := u421) (t := u18) (by omega) (by omega)) (cwV 2 hts gL_isStep_X7_move rfl rfl rfl (by decide +kernel) ⟨Nat.le_of_ble_eq_true rfl, Nat.le_of_ble_eq_true rfl⟩) hK hT rfl hl.1 rfl (Nat.le_of_ble_eq_true rfl) dL_isStep_520 ⟨Nat.zero_le _, Nat.zero_le _⟩ (fun z520 q520_ hq520_ H locs hT => ?_)
                    obtain ⟨hz520, hr520⟩ := hq520_
                    have hz520 : z520 = mvR c431 u421 u18 := hz520
                    obtain ⟨c520, n520, x520_, n520_⟩ := q520_
                    have hc520 : c520 = if 0 ≤ mvR c431 u421 u18 then shL c431 u421 u18 else c431 := congrArg (fun z : OS => z.1) hr520
                    have hn520 : n520 = if 0 ≤ mvR c431 u421 u18 then recN n431 else n431 := congrArg (fun z : OS => z.2.1) hr520
                    rw [show x520_ = tx from congrArg (fun z : OS => z.2.2.1) hr520, show n520_ = tn from congrArg (fun z : OS => z.2.2.2) hr520] at hT
                    have hg := hT.go
                    dsimp only at hg
                    have hcn5 := cs_nn hg.1.1.1
                    have hmw := mv_ok hC9 (a := u421) (b := u18) (by omega) (by omega) hc520
                    rw [← hz520] at hmw
                    have hm3 := hmw.2.1 (by omega)
                    refine fp_iconst hx hb dL_isStep_523 ?_
                    refine fp_icmp_eq (tgt := 531) hx hb (by omega) dL_isStep_524 (by decide) (fun q524 => ?_) (fun q524 => ?_)
                    · skip
                      exfalso; omega
                    · skip
                      refine fp_iconst hx hb dL_isStep_527 ?_
                      refine lv_goto (tgt := 532) hx hb dL_isStep_528 (by decide) ?_
                      exact fq_ret2 (Po := (fun q r : OS => TrS (q.1) (r.1))) hx hb hr hlocks hT (by dsimp only; first | (rw [hmv.2]; exact hI) | exact TrS_c hI hmv.2.2.2 | exact TrS_c (TrS_c hI hmv.2.2.2) hmw.2.2.2) dL_isStep_532
        · skip
          have hmv := mv_no (a := u18) (b := u421) (by omega) hc431
          rw [hmv.1] at hz431
          refine lv_iload hx hb dL_isStep_450 (lv_at hl 0 rfl) ?_
          refine fp_iconst hx hb dL_isStep_452 ?_
          refine fp_icmp_ne (tgt := 460) hx hb (by omega) dL_isStep_453 (by decide) (fun q453 => ?_) (fun q453 => ?_)
          · skip
            exfalso; omega
          · skip
            refine fp_iconst hx hb dL_isStep_456 ?_
            refine lv_goto (tgt := 532) hx hb dL_isStep_457 (by decide) ?_
            exact fq_ret2 (Po := (fun q r : OS => TrS (q.1) (r.1))) hx hb hr hlocks hT (by dsimp only; first | (rw [hmv.2]; exact hI) | exact TrS_c hI hmv.2.2.2 | exact TrS_c (TrS_c hI hmv.2.2.2) hmw.2.2.2) dL_isStep_532
    · skip
      refine lv_tableIn (off := 489) (tgt := 533) hx hb dL_isStep_44 (by rw [hsv]; decide) (by rw [hsv]; decide) (by rw [hsv]; decide) (by decide) ?_
      exact jn8   H locs hT ls (lv_sub hl [5, 6, 7, 8, 4, 3, 2, 1, 0] rfl)
    · skip
      refine lv_tableIn (off := 489) (tgt := 533) hx hb dL_isStep_44 (by rw [hsv]; decide) (by rw [hsv]; decide) (by rw [hsv]; decide) (by decide) ?_
      exact jn8   H locs hT ls (lv_sub hl [5, 6, 7, 8, 4, 3, 2, 1, 0] rfl)
    · skip
      refine lv_tableIn (off := 489) (tgt := 533) hx hb dL_isStep_44 (by rw [hsv]; decide) (by rw [hsv]; decide) (by rw [hsv]; decide) (by decide) ?_
      exact jn8   H locs hT ls (lv_sub hl [5, 6, 7, 8, 4, 3, 2, 1, 0] rfl)
    · skip
      refine lv_tableIn (off := 649) (tgt := 693) hx hb dL_isStep_44 (by rw [hsv]; decide) (by rw [hsv]; decide) (by rw [hsv]; decide) (by decide) ?_
      refine fp_iconst hx hb dL_isStep_693 ?_
      refine lv_iload_n hx hb dL_isStep_694 rfl (lv_at hl 8 rfl) ?_
      refine fp_iconst hx hb dL_isStep_695 ?_
      refine fq_P (As := [.int (iI (ya)), .int (iI (3))]) (rest := [.int (iI (4))]) ⟨hx, hb, hml, hown, hts⟩ (c_L_up l D cyI (ya) (3) (by omega)) (va_cwS 2 hts gL_isStep_L_up rfl rfl rfl (by decide +kernel) ⟨Nat.le_of_ble_eq_true rfl, Nat.le_of_ble_eq_true rfl⟩) hK rfl hl.1 rfl (Nat.le_of_ble_eq_true rfl) dL_isStep_696 ⟨Nat.zero_le _, Nat.zero_le _⟩ ?_
      have hu696 := upV_rg (ya) (n := 3) (by omega)
      obtain ⟨u696, eu696⟩ : ∃ z : Int, z = upV (ya) (3) := ⟨_, rfl⟩
      rw [← eu696]
      rw [← eu696] at hu696
      refine fq_shl4 hx hb (by omega) dL_isStep_699 (fun s699 hs699 => ?_)
      refine lv_istore (lv' := [(9, .int (iI (s699))), (8, .int (iI (z33))), (7, .int (iI (z25))), (6, .int (iI (u18))), (5, .int (iI (z7))), (4, .int (iI (s2))), (0, .ref (A 0)), (1, .ref (B 0)), (2, .int (iI (xa))), (3, .int (iI (ya)))]) hx hb dL_isStep_700 hl (by decide) rfl (fun ls hl => ?_)
      refine lv_aload_n hx hb dL_isStep_702 rfl (lv_at hl 6 rfl) ?_
      refine fp_iconst hx hb dL_isStep_703 ?_
      refine lv_iload hx hb dL_isStep_704 (lv_at hl 0 rfl) ?_
      refine fq_L (As := [.int (iI (0)), .int (iI (s699))]) (rest := []) ⟨hx, hb, hml, hown, hts⟩ (oc_set l D cyI A (c := c) (ny := ny) (x := tx) (n := tn) (w := 0) (v := s699) (by omega) (by omega)) (cwV 2 hts gL_isStep_X7_set rfl rfl rfl (by decide +kernel) ⟨Nat.le_of_ble_eq_true rfl, Nat.le_of_ble_eq_true rfl⟩) hK hT rfl hl.1 rfl (Nat.le_of_ble_eq_true rfl) dL_isStep_706 ⟨Nat.zero_le _, Nat.zero_le _⟩ (fun z706 q706_ hq706_ H locs hT => ?_)
      obtain ⟨hz706, hr706⟩ := hq706_
      have hz706 : z706 = stR c 0 s699 := hz706
      obtain ⟨c706, n706, x706_, n706_⟩ := q706_
      have hc706 : c706 = if 0 ≤ stR c 0 s699 then upI c (49 + 0) s699 else c := congrArg (fun z : OS => z.1) hr706
      have hn706 : n706 = if 0 ≤ stR c 0 s699 then recN ny else ny := congrArg (fun z : OS => z.2.1) hr706
      rw [show x706_ = tx from congrArg (fun z : OS => z.2.2.1) hr706, show n706_ = tn from congrArg (fun z : OS => z.2.2.2) hr706] at hT
      have hg := hT.go
      dsimp only at hg
      have hs1 := st_ok hC0 (w := 0) (v := s699) (by omega) (by omega) hc706
      have hr1 := set_rg hC0 (w := 0) (by omega)
      refine lv_aload_n hx hb dL_isStep_709 rfl (lv_at hl 7 rfl) ?_
      refine fp_iconst hx hb dL_isStep_710 ?_
      refine lv_iload hx hb dL_isStep_711 (lv_at hl 0 rfl) ?_
      refine fq_R (As := [.int (iI (0)), .int (iI (s699))]) (rest := [.int (iI (z706))]) ⟨hx, hb, hml, hown, hts⟩ (oc_set l D cyI B (c := e) (ny := my) (x := ux) (n := un) (w := 0) (v := s699) (by omega) (by omega)) (cwV 2 hts gL_isStep_X7_set rfl rfl rfl (by decide +kernel) ⟨Nat.le_of_ble_eq_true rfl, Nat.le_of_ble_eq_true rfl⟩) hK hT rfl hl.1 rfl (Nat.le_of_ble_eq_true rfl) dL_isStep_713 ⟨Nat.zero_le _, Nat.zero_le _⟩ (fun z713 q713_ hq713_ H locs hT => ?_)
      obtain ⟨hz713, hr713⟩ := hq713_
      have hz713 : z713 = stR e 0 s699 := hz713
      obtain ⟨c713, n713, x713_, n713_⟩ := q713_
      have hc713 : c713 = if 0 ≤ stR e 0 s699 then upI e (49 + 0) s699 else e := congrArg (fun z : OS => z.1) hr713
      have hn713 : n713 = if 0 ≤ stR e 0 s699 then recN my else my := congrArg (fun z : OS => z.2.1) hr713
      rw [show x713_ = ux from congrArg (fun z : OS => z.2.2.1) hr713, show n713_ = un from congrArg (fun z : OS => z.2.2.2) hr713] at hT
      have hg := hT.go
      dsimp only at hg
      have hs2 := st_ok hE0 (w := 0) (v := s699) (by omega) (by omega) hc713
      have hq0 : z706 = z713 := by rw [hz706, hz713, hs1.2.2.1, hs2.2.2.1, hI.1.1]
      have hr7 : -5 ≤ z706 ∧ z706 ≤ 999 := by
        rw [hz706, hs1.2.2.1]
        split <;> omega
      refine fp_icmp_ne (tgt := 744) hx hb (by omega) dL_isStep_716 (by decide) (fun q716 => ?_) (fun q716 => ?_)
      · skip
        exfalso; omega
      · skip
        refine lv_aload_n hx hb dL_isStep_719 rfl (lv_at hl 6 rfl) ?_
        refine fp_bipush hx hb dL_isStep_720 (by decide) ?_
        refine fq_L (As := [.int (iI (10))]) (rest := []) ⟨hx, hb, hml, hown, hts⟩ (oc_count l D cyI A (c := c706) (ny := n706) (x := tx) (n := tn) (w := 10) (by omega)) (cwV 1 hts gL_isStep_X7_count rfl rfl rfl (by decide +kernel) ⟨Nat.le_of_ble_eq_true rfl, Nat.le_of_ble_eq_true rfl⟩) hK hT rfl hl.1 rfl (Nat.le_of_ble_eq_true rfl) dL_isStep_722 ⟨Nat.zero_le _, Nat.zero_le _⟩ (fun z722 q722_ hq722_ H locs hT => ?_)
        obtain ⟨hz722, hr722⟩ := hq722_
        have hz722 : z722 = cnR c706 n706 tn 10 := hz722
        subst hr722
        have hz722 : z722 = c706 (49 + 0) := hz722
        refine lv_iload hx hb dL_isStep_725 (lv_at hl 0 rfl) ?_
        refine fp_icmp_ne (tgt := 744) hx hb (by omega) dL_isStep_727 (by decide) (fun q727 => ?_) (fun q727 => ?_)
        · skip
          exfalso; omega
        · skip
          refine lv_aload_n hx hb dL_isStep_730 rfl (lv_at hl 6 rfl) ?_
          refine fp_iconst hx hb dL_isStep_731 ?_
          refine fq_L (As := [.int (iI (4))]) (rest := []) ⟨hx, hb, hml, hown, hts⟩ (oc_count l D cyI A (c := c706) (ny := n706) (x := tx) (n := tn) (w := 4) (by omega)) (cwV 1 hts gL_isStep_X7_count rfl rfl rfl (by decide +kernel) ⟨Nat.le_of_ble_eq_true rfl, Nat.le_of_ble_eq_true rfl⟩) hK hT rfl hl.1 rfl (Nat.le_of_ble_eq_true rfl) dL_isStep_732 ⟨Nat.zero_le _, Nat.zero_le _⟩ (fun z732 q732_ hq732_ H locs hT => ?_)
          obtain ⟨hz732, hr732⟩ := hq732_
          have hz732 : z732 = cnR c706 n706 tn 4 := hz732
          subst hr732
          have hz732 : z732 = pgC c706 (c706 0) := hz732
          have hpn := pg_nn hg.1.1.1
          refine lv_iload hx hb dL_isStep_735 (lv_at hl 2 rfl) ?_
          refine fp_icmp_ne (tgt := 744) hx hb (by omega) dL_isStep_737 (by decide) (fun q737 => ?_) (fun q737 => ?_)
          · skip
            exfalso; omega
          · skip
            refine fp_iconst hx hb dL_isStep_740 ?_
            refine lv_goto (tgt := 745) hx hb dL_isStep_741 (by decide) ?_
            exact fq_ret2 (Po := (fun q r : OS => TrS (q.1) (r.1))) hx hb hr hlocks hT (by unfold TrS; dsimp only; rw [hs1.1, hs2.1, hs1.2.1 _ (by omega), hs1.2.1 _ (by omega), hs1.2.1 _ (by omega), hs1.2.1 _ (by omega), hs2.2.1 _ (by omega), hs2.2.1 _ (by omega), hs2.2.1 _ (by omega), hs2.2.1 _ (by omega)]; exact ⟨⟨rfl, hI.1.2⟩, hI.2⟩) dL_isStep_745
    · skip
      refine lv_tableIn (off := 702) (tgt := 746) hx hb dL_isStep_44 (by rw [hsv]; decide) (by rw [hsv]; decide) (by rw [hsv]; decide) (by decide) ?_
      refine fp_iconst hx hb dL_isStep_746 ?_
      refine lv_iload hx hb dL_isStep_747 (lv_at hl 4 rfl) ?_
      refine fp_iconst hx hb dL_isStep_749 ?_
      refine fq_P (As := [.int (iI (s2)), .int (iI (3))]) (rest := [.int (iI (1))]) ⟨hx, hb, hml, hown, hts⟩ (c_L_up l D cyI (s2) (3) (by omega)) (va_cwS 2 hts gL_isStep_L_up rfl rfl rfl (by decide +kernel) ⟨Nat.le_of_ble_eq_true rfl, Nat.le_of_ble_eq_true rfl⟩) hK rfl hl.1 rfl (Nat.le_of_ble_eq_true rfl) dL_isStep_750 ⟨Nat.zero_le _, Nat.zero_le _⟩ ?_
      have hu750 := upV_rg (s2) (n := 3) (by omega)
      obtain ⟨u750, eu750⟩ : ∃ z : Int, z = upV (s2) (3) := ⟨_, rfl⟩
      rw [← eu750]
      rw [← eu750] at hu750
      refine fp_iadd hx hb dL_isStep_753 ?_
      refine lv_istore (lv' := [(9, .int (iI (1 + u750))), (8, .int (iI (z33))), (7, .int (iI (z25))), (6, .int (iI (u18))), (5, .int (iI (z7))), (4, .int (iI (s2))), (0, .ref (A 0)), (1, .ref (B 0)), (2, .int (iI (xa))), (3, .int (iI (ya)))]) hx hb dL_isStep_754 hl (by decide) rfl (fun ls hl => ?_)
      refine lv_iload_n hx hb dL_isStep_756 rfl (lv_at hl 9 rfl) ?_
      refine fp_bipush hx hb dL_isStep_757 (by decide) ?_
      refine fq_P (As := [.int (iI (ya)), .int (iI (33))]) (rest := []) ⟨hx, hb, hml, hown, hts⟩ (c_L_up l D cyI (ya) (33) (by omega)) (va_cwS 2 hts gL_isStep_L_up rfl rfl rfl (by decide +kernel) ⟨Nat.le_of_ble_eq_true rfl, Nat.le_of_ble_eq_true rfl⟩) hK rfl hl.1 rfl (Nat.le_of_ble_eq_true rfl) dL_isStep_759 ⟨Nat.zero_le _, Nat.zero_le _⟩ ?_
      have hu759 := upV_rg (ya) (n := 33) (by omega)
      obtain ⟨u759, eu759⟩ : ∃ z : Int, z = upV (ya) (33) := ⟨_, rfl⟩
      rw [← eu759]
      rw [← eu759] at hu759
      refine lv_istore (lv' := [(10, .int (iI (u759))), (9, .int (iI (1 + u750))), (8, .int (iI (z33))), (7, .int (iI (z25))), (6, .int (iI (u18))), (5, .int (iI (z7))), (4, .int (iI (s2))), (0, .ref (A 0)), (1, .ref (B 0)), (2, .int (iI (xa))), (3, .int (iI (ya)))]) hx hb dL_isStep_762 hl (by decide) rfl (fun ls hl => ?_)
      refine lv_aload_n hx hb dL_isStep_764 rfl (lv_at hl 7 rfl) ?_
      refine lv_iload hx hb dL_isStep_765 (lv_at hl 1 rfl) ?_
      refine lv_iload hx hb dL_isStep_767 (lv_at hl 0 rfl) ?_
      refine fq_L (As := [.int (iI (1 + u750)), .int (iI (u759))]) (rest := []) ⟨hx, hb, hml, hown, hts⟩ (oc_set l D cyI A (c := c) (ny := ny) (x := tx) (n := tn) (w := 1 + u750) (v := u759) (by omega) (by omega)) (cwV 2 hts gL_isStep_X7_set rfl rfl rfl (by decide +kernel) ⟨Nat.le_of_ble_eq_true rfl, Nat.le_of_ble_eq_true rfl⟩) hK hT rfl hl.1 rfl (Nat.le_of_ble_eq_true rfl) dL_isStep_769 ⟨Nat.zero_le _, Nat.zero_le _⟩ (fun z769 q769_ hq769_ H locs hT => ?_)
      obtain ⟨hz769, hr769⟩ := hq769_
      have hz769 : z769 = stR c (1 + u750) u759 := hz769
      obtain ⟨c769, n769, x769_, n769_⟩ := q769_
      have hc769 : c769 = if 0 ≤ stR c (1 + u750) u759 then upI c (49 + (1 + u750)) u759 else c := congrArg (fun z : OS => z.1) hr769
      have hn769 : n769 = if 0 ≤ stR c (1 + u750) u759 then recN ny else ny := congrArg (fun z : OS => z.2.1) hr769
      rw [show x769_ = tx from congrArg (fun z : OS => z.2.2.1) hr769, show n769_ = tn from congrArg (fun z : OS => z.2.2.2) hr769] at hT
      have hg := hT.go
      dsimp only at hg
      have hs1 := st_ok hC0 (w := 1 + u750) (v := u759) (by omega) (by omega) hc769
      have hr1 := set_rg hC0 (w := 1 + u750) (by omega)
      have hr7 : -5 ≤ z769 ∧ z769 ≤ 999 := by
        rw [hz769, hs1.2.2.1]
        split <;> omega
      have hq7 : z769 = -5 ↔ c (49 + (1 + u750)) = u759 := by
        rw [hz769, hs1.2.2.1]
        split
        · rename_i hq; exact ⟨fun _ => hq, fun _ => rfl⟩
        · rename_i hq; exact ⟨fun z => by omega, fun z => absurd z hq⟩
      refine fp_bipush hx hb dL_isStep_772 (by decide) ?_
      have jn67 : ∀ (b1 : Int), (b1 = bI (c (49 + (1 + u750)) = u759)) → ∀ (H : Heap) (locs : List Loc), ST D cyI A B (fp_A (OB cyI A I C ++ (OB cyI B J E ++ []))) sx.heap (c769, n769, tx, tn) (e, my, ux, un) H locs → ∀ (ls : Array Slot), lv_has ls 14 [(0, .ref (A 0)), (1, .ref (B 0)), (2, .int (iI (xa))), (3, .int (iI (ya))), (4, .int (iI (s2))), (5, .int (iI (z7))), (6, .int (iI (u18))), (7, .int (iI (z25))), (8, .int (iI (z33))), (9, .int (iI (1 + u750))), (10, .int (iI (u759)))] → W pg l en ({ frames := 7, cells := 0, slots := 0, locals := 171 } : Room) sx mi ar bl mt cd H locs 0 0 (MQ bl (fp_Qw D (OB cyI A I C ++ (OB cyI B J E ++ [])) (fun u : SS2 => (GO u.1 u.2.1 u.2.2.2.2.1 ∧ GO u.2.2.1 u.2.2.2.1 u.2.2.2.2.2) ∧ (fun q r : OS => TrS (q.1) (r.1)) u.2.2.2.2.1 u.2.2.2.2.2) (fun _ : SS2 => some (.int (iI 1))) (fun u : SS2 => OB cyI A u.1 u.2.1 ++ (OB cyI B u.2.2.1 u.2.2.2.1 ++ []))) ar sx 0 0 (fp_A (OB cyI A I C ++ (OB cyI B J E ++ [])))) (F0 mi 782 ls [.int (iI (b1))]) := by
        intro b1 hb1 H locs hT ls hl
        have hg := hT.go
        dsimp only at hg
        refine lv_aload_n hx hb dL_isStep_782 rfl (lv_at hl 1 rfl) ?_
        refine lv_iload hx hb dL_isStep_783 (lv_at hl 9 rfl) ?_
        refine fp_iconst hx hb dL_isStep_785 ?_
        refine lv_iload hx hb dL_isStep_786 (lv_at hl 10 rfl) ?_
        refine fp_imul hx hb dL_isStep_788 ?_
        refine fq_R (As := [.int (iI (1 + u750)), .int (iI (3 * u759))]) (rest := [.int (iI (b1))]) ⟨hx, hb, hml, hown, hts⟩ (oc_set l D cyI B (c := e) (ny := my) (x := ux) (n := un) (w := 1 + u750) (v := 3 * u759) (by omega) (by omega)) (cwV 2 hts gL_isStep_X7_set rfl rfl rfl (by decide +kernel) ⟨Nat.le_of_ble_eq_true rfl, Nat.le_of_ble_eq_true rfl⟩) hK hT rfl hl.1 rfl (Nat.le_of_ble_eq_true rfl) dL_isStep_789 ⟨Nat.zero_le _, Nat.zero_le _⟩ (fun z789 q789_ hq789_ H locs hT => ?_)
        obtain ⟨hz789, hr789⟩ := hq789_
        have hz789 : z789 = stR e (1 + u750) (3 * u759) := hz789
        obtain ⟨c789, n789, x789_, n789_⟩ := q789_
        have hc789 : c789 = if 0 ≤ stR e (1 + u750) (3 * u759) then upI e (49 + (1 + u750)) (3 * u759) else e := congrArg (fun z : OS => z.1) hr789
        have hn789 : n789 = if 0 ≤ stR e (1 + u750) (3 * u759) then recN my else my := congrArg (fun z : OS => z.2.1) hr789
        rw [show x789_ = ux from congrArg (fun z : OS => z.2.2.1) hr789, show n789_ = un from congrArg (fun z : OS => z.2.2.2) hr789] at hT
        have hg := hT.go
        dsimp only at hg
        have hs2 := st_ok hE0 (w := 1 + u750) (v := 3 * u759) (by omega) (by omega) hc789
        have hr2 := set_rg hE0 (w := 1 + u750) (by omega)
        have hr8 : -5 ≤ z789 ∧ z789 ≤ 999 := by
          rw [hz789, hs2.2.2.1]
          split <;> omega
        have h3 : e (49 + (1 + u750)) = 3 * c (49 + (1 + u750)) := by
          have h : u750 = 0 ∨ u750 = 1 ∨ u750 = 2 := by omega
          rcases h with h | h | h <;> rw [h]
          · exact hI.1.2
          · exact hI.2.1.1
          · exact hI.2.1.2
        have hq8 : z789 = -5 ↔ c (49 + (1 + u750)) = u759 := by
          rw [hz789, hs2.2.2.1]
          split
          · rename_i hq; exact ⟨fun _ => by omega, fun _ => rfl⟩
          · rename_i hq; exact ⟨fun z => by omega, fun z => by omega⟩
        refine fp_bipush hx hb dL_isStep_792 (by decide) ?_
        have jn68 : ∀ (b2 : Int), (b2 = bI (c (49 + (1 + u750)) = u759)) → ∀ (H : Heap) (locs : List Loc), ST D cyI A B (fp_A (OB cyI A I C ++ (OB cyI B J E ++ []))) sx.heap (c769, n769, tx, tn) (c789, n789, ux, un) H locs → ∀ (ls : Array Slot), lv_has ls 14 [(0, .ref (A 0)), (1, .ref (B 0)), (2, .int (iI (xa))), (3, .int (iI (ya))), (4, .int (iI (s2))), (5, .int (iI (z7))), (6, .int (iI (u18))), (7, .int (iI (z25))), (8, .int (iI (z33))), (9, .int (iI (1 + u750))), (10, .int (iI (u759)))] → W pg l en ({ frames := 7, cells := 0, slots := 0, locals := 171 } : Room) sx mi ar bl mt cd H locs 0 0 (MQ bl (fp_Qw D (OB cyI A I C ++ (OB cyI B J E ++ [])) (fun u : SS2 => (GO u.1 u.2.1 u.2.2.2.2.1 ∧ GO u.2.2.1 u.2.2.2.1 u.2.2.2.2.2) ∧ (fun q r : OS => TrS (q.1) (r.1)) u.2.2.2.2.1 u.2.2.2.2.2) (fun _ : SS2 => some (.int (iI 1))) (fun u : SS2 => OB cyI A u.1 u.2.1 ++ (OB cyI B u.2.2.1 u.2.2.2.1 ++ []))) ar sx 0 0 (fp_A (OB cyI A I C ++ (OB cyI B J E ++ [])))) (F0 mi 802 ls [.int (iI (b2)), .int (iI (b1))]) := by
          intro b2 hb2 H locs hT ls hl
          have hg := hT.go
          dsimp only at hg
          have hb01 := bI_01 (c (49 + (1 + u750)) = u759)
          refine fp_icmp_ne (tgt := 823) hx hb (by omega) dL_isStep_802 (by decide) (fun q802 => ?_) (fun q802 => ?_)
          · skip
            exfalso; omega
          · skip
            refine lv_aload_n hx hb dL_isStep_805 rfl (lv_at hl 0 rfl) ?_
            refine fp_bipush hx hb dL_isStep_806 (by decide) ?_
            refine lv_iload hx hb dL_isStep_808 (lv_at hl 9 rfl) ?_
            refine fp_iadd hx hb dL_isStep_810 ?_
            refine fq_L (As := [.int (iI (10 + (1 + u750)))]) (rest := []) ⟨hx, hb, hml, hown, hts⟩ (oc_count l D cyI A (c := c769) (ny := n769) (x := tx) (n := tn) (w := 10 + (1 + u750)) (by omega)) (cwV 1 hts gL_isStep_X7_count rfl rfl rfl (by decide +kernel) ⟨Nat.le_of_ble_eq_true rfl, Nat.le_of_ble_eq_true rfl⟩) hK hT rfl hl.1 rfl (Nat.le_of_ble_eq_true rfl) dL_isStep_811 ⟨Nat.zero_le _, Nat.zero_le _⟩ (fun z811 q811_ hq811_ H locs hT => ?_)
            obtain ⟨hz811, hr811⟩ := hq811_
            have hz811 : z811 = cnR c769 n769 tn (10 + (1 + u750)) := hz811
            subst hr811
            have hz811 := (hz811.trans (cn_s (by omega))).trans hs1.1
            refine lv_iload hx hb dL_isStep_814 (lv_at hl 10 rfl) ?_
            refine fp_icmp_ne (tgt := 823) hx hb (by omega) dL_isStep_816 (by decide) (fun q816 => ?_) (fun q816 => ?_)
            · skip
              refine fp_iconst hx hb dL_isStep_823 ?_
              rw [show (0 : Int) = 1 from (by omega)]
              exact fq_ret2 (Po := (fun q r : OS => TrS (q.1) (r.1))) hx hb hr hlocks hT (by
  have h : u750 = 0 ∨ u750 = 1 ∨ u750 = 2 := by omega
  have k1 := hs1.1
  have k2 := hs2.1
  have a1 := hs1.2.1
  have a2 := hs2.2.1
  unfold TrS
  dsimp only
  rcases h with h | h | h <;> rw [h] at k1 k2 a1 a2
  · rw [a1 (49 + 0) (by omega), a1 (49 + 2) (by omega), a1 (49 + 3) (by omega), a1 (49 + 4) (by omega), a2 (49 + 0) (by omega), a2 (49 + 2) (by omega), a2 (49 + 3) (by omega), a2 (49 + 4) (by omega)]
    exact ⟨⟨hI.1.1, k2.trans (congrArg (fun z => 3 * z) k1.symm)⟩, hI.2⟩
  · rw [a1 (49 + 0) (by omega), a1 (49 + 1) (by omega), a1 (49 + 3) (by omega), a1 (49 + 4) (by omega), a2 (49 + 0) (by omega), a2 (49 + 1) (by omega), a2 (49 + 3) (by omega), a2 (49 + 4) (by omega)]
    exact ⟨hI.1, ⟨k2.trans (congrArg (fun z => 3 * z) k1.symm), hI.2.1.2⟩, hI.2.2⟩
  · rw [a1 (49 + 0) (by omega), a1 (49 + 1) (by omega), a1 (49 + 2) (by omega), a1 (49 + 4) (by omega), a2 (49 + 0) (by omega), a2 (49 + 1) (by omega), a2 (49 + 2) (by omega), a2 (49 + 4) (by omega)]
    exact ⟨hI.1, ⟨hI.2.1.1, k2.trans (congrArg (fun z => 3 * z) k1.symm)⟩, hI.2.2⟩) dL_isStep_824
            · skip
              refine fp_iconst hx hb dL_isStep_819 ?_
              refine lv_goto (tgt := 824) hx hb dL_isStep_820 (by decide) ?_
              exact fq_ret2 (Po := (fun q r : OS => TrS (q.1) (r.1))) hx hb hr hlocks hT (by
  have h : u750 = 0 ∨ u750 = 1 ∨ u750 = 2 := by omega
  have k1 := hs1.1
  have k2 := hs2.1
  have a1 := hs1.2.1
  have a2 := hs2.2.1
  unfold TrS
  dsimp only
  rcases h with h | h | h <;> rw [h] at k1 k2 a1 a2
  · rw [a1 (49 + 0) (by omega), a1 (49 + 2) (by omega), a1 (49 + 3) (by omega), a1 (49 + 4) (by omega), a2 (49 + 0) (by omega), a2 (49 + 2) (by omega), a2 (49 + 3) (by omega), a2 (49 + 4) (by omega)]
    exact ⟨⟨hI.1.1, k2.trans (congrArg (fun z => 3 * z) k1.symm)⟩, hI.2⟩
  · rw [a1 (49 + 0) (by omega), a1 (49 + 1) (by omega), a1 (49 + 3) (by omega), a1 (49 + 4) (by omega), a2 (49 + 0) (by omega), a2 (49 + 1) (by omega), a2 (49 + 3) (by omega), a2 (49 + 4) (by omega)]
    exact ⟨hI.1, ⟨k2.trans (congrArg (fun z => 3 * z) k1.symm), hI.2.1.2⟩, hI.2.2⟩
  · rw [a1 (49 + 0) (by omega), a1 (49 + 1) (by omega), a1 (49 + 2) (by omega), a1 (49 + 4) (by omega), a2 (49 + 0) (by omega), a2 (49 + 1) (by omega), a2 (49 + 2) (by omega), a2 (49 + 4) (by omega)]
    exact ⟨hI.1, ⟨hI.2.1.1, k2.trans (congrArg (fun z => 3 * z) k1.symm)⟩, hI.2.2⟩) dL_isStep_824
        refine fp_icmp_ne (tgt := 801) hx hb (by omega) dL_isStep_794 (by decide) (fun q794 => ?_) (fun q794 => ?_)
        · skip
          refine fp_iconst hx hb dL_isStep_801 ?_
          exact jn68 0 (by first | exact (bI_t (by omega)).symm | exact (bI_f (by omega)).symm) H locs hT ls (lv_sub hl [0, 1, 2, 3, 4, 5, 6, 7, 8, 9, 10] rfl)
        · skip
          refine fp_iconst hx hb dL_isStep_797 ?_
          refine lv_goto (tgt := 802) hx hb dL_isStep_798 (by decide) ?_
          exact jn68 1 (by first | exact (bI_t (by omega)).symm | exact (bI_f (by omega)).symm) H locs hT ls (lv_sub hl [0, 1, 2, 3, 4, 5, 6, 7, 8, 9, 10] rfl)
      refine fp_icmp_ne (tgt := 781) hx hb (by omega) dL_isStep_774 (by decide) (fun q774 => ?_) (fun q774 => ?_)
      · skip
        refine fp_iconst hx hb dL_isStep_781 ?_
        exact jn67 0 (by first | exact (bI_t (by omega)).symm | exact (bI_f (by omega)).symm) H locs hT ls (lv_sub hl [7, 8, 9, 10, 6, 5, 4, 3, 2, 1, 0] rfl)
      · skip
        refine fp_iconst hx hb dL_isStep_777 ?_
        refine lv_goto (tgt := 782) hx hb dL_isStep_778 (by decide) ?_
        exact jn67 1 (by first | exact (bI_t (by omega)).symm | exact (bI_f (by omega)).symm) H locs hT ls (lv_sub hl [7, 8, 9, 10, 6, 5, 4, 3, 2, 1, 0] rfl)
    · skip
      refine lv_tableIn (off := 781) (tgt := 825) hx hb dL_isStep_44 (by rw [hsv]; decide) (by rw [hsv]; decide) (by rw [hsv]; decide) (by decide) ?_
      refine lv_aload_n hx hb dL_isStep_825 rfl (lv_at hl 5 rfl) ?_
      refine fq_L (As := []) (rest := []) ⟨hx, hb, hml, hown, hts⟩ (oc_plan l D cyI A (c := c) (ny := ny) (x := tx) (n := tn) ) (cwV 0 hts gL_isStep_X7_plan rfl rfl rfl (by decide +kernel) ⟨Nat.le_of_ble_eq_true rfl, Nat.le_of_ble_eq_true rfl⟩) hK hT rfl hl.1 rfl (Nat.le_of_ble_eq_true rfl) dL_isStep_826 ⟨Nat.zero_le _, Nat.zero_le _⟩ (fun z826 q826_ hq826_ H locs hT => ?_)
      obtain ⟨g826, ho826, hz826, hr826⟩ := hq826_
      have hz826 : z826 = plR c g826 := hz826
      obtain ⟨c826, n826, x826_, n826_⟩ := q826_
      have hc826 : c826 = if 0 ≤ plR c g826 then cpI c g826 0 0 49 else c := congrArg (fun z : OS => z.1) hr826
      rw [show x826_ = tx from congrArg (fun z : OS => z.2.2.1) hr826, show n826_ = tn from congrArg (fun z : OS => z.2.2.2) hr826] at hT
      have hg := hT.go
      dsimp only at hg
      have hpk := plan_ok ⟨hC0, h90⟩ ho826 hz826 hc826
      have hcn := cs_nn hpk.2.1
      have hX8 := hpk.2.1.2.2
      unfold SetOK at hX8
      have hpl8 := pl_nn hpk.2.1
      have hpk2 := hpk.2.2.1
      refine lv_istore (lv' := [(9, .int (iI (z826))), (8, .int (iI (z33))), (7, .int (iI (z25))), (6, .int (iI (u18))), (5, .int (iI (z7))), (4, .int (iI (s2))), (0, .ref (A 0)), (1, .ref (B 0)), (2, .int (iI (xa))), (3, .int (iI (ya)))]) hx hb dL_isStep_829 hl (by decide) rfl (fun ls hl => ?_)
      refine lv_iload hx hb dL_isStep_831 (lv_at hl 0 rfl) ?_
      refine fp_bipush hx hb dL_isStep_833 (by decide) ?_
      refine fp_icmp_ne (tgt := 859) hx hb (by omega) dL_isStep_835 (by decide) (fun q835 => ?_) (fun q835 => ?_)
      · skip
        refine lv_aload_n hx hb dL_isStep_859 rfl (lv_at hl 6 rfl) ?_
        refine fp_iconst hx hb dL_isStep_860 ?_
        refine fq_L (As := [.int (iI (3))]) (rest := []) ⟨hx, hb, hml, hown, hts⟩ (oc_count l D cyI A (c := c826) (ny := n826) (x := tx) (n := tn) (w := 3) (by omega)) (cwV 1 hts gL_isStep_X7_count rfl rfl rfl (by decide +kernel) ⟨Nat.le_of_ble_eq_true rfl, Nat.le_of_ble_eq_true rfl⟩) hK hT rfl hl.1 rfl (Nat.le_of_ble_eq_true rfl) dL_isStep_861 ⟨Nat.zero_le _, Nat.zero_le _⟩ (fun z861 q861_ hq861_ H locs hT => ?_)
        obtain ⟨hz861, hr861⟩ := hq861_
        have hz861 : z861 = cnR c826 n826 tn 3 := hz861
        subst hr861
        have hz861 : z861 = fcC c826 := hz861
        refine lv_aload_n hx hb dL_isStep_864 rfl (lv_at hl 6 rfl) ?_
        refine fp_iconst hx hb dL_isStep_865 ?_
        refine fq_L (As := [.int (iI (1))]) (rest := [.int (iI (z861))]) ⟨hx, hb, hml, hown, hts⟩ (oc_count l D cyI A (c := c826) (ny := n826) (x := tx) (n := tn) (w := 1) (by omega)) (cwV 1 hts gL_isStep_X7_count rfl rfl rfl (by decide +kernel) ⟨Nat.le_of_ble_eq_true rfl, Nat.le_of_ble_eq_true rfl⟩) hK hT rfl hl.1 rfl (Nat.le_of_ble_eq_true rfl) dL_isStep_866 ⟨Nat.zero_le _, Nat.zero_le _⟩ (fun z866 q866_ hq866_ H locs hT => ?_)
        obtain ⟨hz866, hr866⟩ := hq866_
        have hz866 : z866 = cnR c826 n826 tn 1 := hz866
        subst hr866
        have hz866 : z866 = plC c826 1 + plC c826 2 := hz866
        have hfa := hpk.2.2.2.2.1
        refine fp_icmp_ne (tgt := 913) hx hb (by omega) dL_isStep_869 (by decide) (fun q869 => ?_) (fun q869 => ?_)
        · skip
          exfalso; omega
        · skip
          refine lv_iload hx hb dL_isStep_872 (lv_at hl 0 rfl) ?_
          refine fp_bipush hx hb dL_isStep_874 (by decide) ?_
          refine fp_icmp_eq (tgt := 890) hx hb (by omega) dL_isStep_876 (by decide) (fun q876 => ?_) (fun q876 => ?_)
          · skip
            refine lv_aload_n hx hb dL_isStep_890 rfl (lv_at hl 6 rfl) ?_
            refine fp_bipush hx hb dL_isStep_891 (by decide) ?_
            refine fq_L (As := [.int (iI (9))]) (rest := []) ⟨hx, hb, hml, hown, hts⟩ (oc_count l D cyI A (c := c826) (ny := n826) (x := tx) (n := tn) (w := 9) (by omega)) (cwV 1 hts gL_isStep_X7_count rfl rfl rfl (by decide +kernel) ⟨Nat.le_of_ble_eq_true rfl, Nat.le_of_ble_eq_true rfl⟩) hK hT rfl hl.1 rfl (Nat.le_of_ble_eq_true rfl) dL_isStep_893 ⟨Nat.zero_le _, Nat.zero_le _⟩ (fun z893 q893_ hq893_ H locs hT => ?_)
            obtain ⟨hz893, hr893⟩ := hq893_
            have hz893 : z893 = cnR c826 n826 tn 9 := hz893
            subst hr893
            have hz893 : z893 = csC c826 := hz893
            refine lv_aload_n hx hb dL_isStep_896 rfl (lv_at hl 6 rfl) ?_
            refine lv_aload_n hx hb dL_isStep_897 rfl (lv_at hl 6 rfl) ?_
            refine fp_bipush hx hb dL_isStep_898 (by decide) ?_
            refine fq_L (As := [.int (iI (10))]) (rest := [.ref (A 0), .int (iI (z893))]) ⟨hx, hb, hml, hown, hts⟩ (oc_count l D cyI A (c := c826) (ny := n826) (x := tx) (n := tn) (w := 10) (by omega)) (cwV 1 hts gL_isStep_X7_count rfl rfl rfl (by decide +kernel) ⟨Nat.le_of_ble_eq_true rfl, Nat.le_of_ble_eq_true rfl⟩) hK hT rfl hl.1 rfl (Nat.le_of_ble_eq_true rfl) dL_isStep_900 ⟨Nat.zero_le _, Nat.zero_le _⟩ (fun z900 q900_ hq900_ H locs hT => ?_)
            obtain ⟨hz900, hr900⟩ := hq900_
            have hz900 : z900 = cnR c826 n826 tn 10 := hz900
            subst hr900
            have hz900 : z900 = c826 (49 + 0) := hz900
            refine fq_L (As := [.int (iI (z900))]) (rest := [.int (iI (z893))]) ⟨hx, hb, hml, hown, hts⟩ (oc_leastCost l D cyI A (c := c826) (ny := n826) (x := tx) (n := tn) (sz := z900) (by omega)) (cwV 1 hts gL_isStep_X7_leastCost rfl rfl rfl (by decide +kernel) ⟨Nat.le_of_ble_eq_true rfl, Nat.le_of_ble_eq_true rfl⟩) hK hT rfl hl.1 rfl (Nat.le_of_ble_eq_true rfl) dL_isStep_903 ⟨Nat.zero_le _, Nat.zero_le _⟩ (fun z903 q903_ hq903_ H locs hT => ?_)
            obtain ⟨hz903, hr903⟩ := hq903_
            have hz903 : z903 = bsI (upI c826 (49 + 0) z900) z900 (c826 0).toNat 0 0 0 := hz903
            subst hr903
            rw [hz900] at hz903
            have hle := hpk.2.2.2.2.2.1
            refine fp_icmp_ne (tgt := 913) hx hb (by omega) dL_isStep_906 (by decide) (fun q906 => ?_) (fun q906 => ?_)
            · skip
              exfalso; omega
            · skip
              refine fp_iconst hx hb dL_isStep_909 ?_
              refine lv_goto (tgt := 914) hx hb dL_isStep_910 (by decide) ?_
              exact fq_ret2 (Po := (fun q r : OS => TrS (q.1) (r.1))) hx hb hr hlocks hT (plan_TrS ho826.1 hpk.1 hI) dL_isStep_914
          · skip
            refine lv_iload hx hb dL_isStep_879 (lv_at hl 0 rfl) ?_
            refine lv_aload_n hx hb dL_isStep_881 rfl (lv_at hl 6 rfl) ?_
            refine fp_bipush hx hb dL_isStep_882 (by decide) ?_
            refine fq_L (As := [.int (iI (9))]) (rest := [.int (iI (z826))]) ⟨hx, hb, hml, hown, hts⟩ (oc_count l D cyI A (c := c826) (ny := n826) (x := tx) (n := tn) (w := 9) (by omega)) (cwV 1 hts gL_isStep_X7_count rfl rfl rfl (by decide +kernel) ⟨Nat.le_of_ble_eq_true rfl, Nat.le_of_ble_eq_true rfl⟩) hK hT rfl hl.1 rfl (Nat.le_of_ble_eq_true rfl) dL_isStep_884 ⟨Nat.zero_le _, Nat.zero_le _⟩ (fun z884 q884_ hq884_ H locs hT => ?_)
            obtain ⟨hz884, hr884⟩ := hq884_
            have hz884 : z884 = cnR c826 n826 tn 9 := hz884
            subst hr884
            have hz884 : z884 = csC c826 := hz884
            refine fp_icmp_ne (tgt := 913) hx hb (by omega) dL_isStep_887 (by decide) (fun q887 => ?_) (fun q887 => ?_)
            · skip
              exfalso; omega
            · skip
              refine lv_aload_n hx hb dL_isStep_890 rfl (lv_at hl 6 rfl) ?_
              refine fp_bipush hx hb dL_isStep_891 (by decide) ?_
              refine fq_L (As := [.int (iI (9))]) (rest := []) ⟨hx, hb, hml, hown, hts⟩ (oc_count l D cyI A (c := c826) (ny := n826) (x := tx) (n := tn) (w := 9) (by omega)) (cwV 1 hts gL_isStep_X7_count rfl rfl rfl (by decide +kernel) ⟨Nat.le_of_ble_eq_true rfl, Nat.le_of_ble_eq_true rfl⟩) hK hT rfl hl.1 rfl (Nat.le_of_ble_eq_true rfl) dL_isStep_893 ⟨Nat.zero_le _, Nat.zero_le _⟩ (fun z893 q893_ hq893_ H locs hT => ?_)
              obtain ⟨hz893, hr893⟩ := hq893_
              have hz893 : z893 = cnR c826 n826 tn 9 := hz893
              subst hr893
              have hz893 : z893 = csC c826 := hz893
              refine lv_aload_n hx hb dL_isStep_896 rfl (lv_at hl 6 rfl) ?_
              refine lv_aload_n hx hb dL_isStep_897 rfl (lv_at hl 6 rfl) ?_
              refine fp_bipush hx hb dL_isStep_898 (by decide) ?_
              refine fq_L (As := [.int (iI (10))]) (rest := [.ref (A 0), .int (iI (z893))]) ⟨hx, hb, hml, hown, hts⟩ (oc_count l D cyI A (c := c826) (ny := n826) (x := tx) (n := tn) (w := 10) (by omega)) (cwV 1 hts gL_isStep_X7_count rfl rfl rfl (by decide +kernel) ⟨Nat.le_of_ble_eq_true rfl, Nat.le_of_ble_eq_true rfl⟩) hK hT rfl hl.1 rfl (Nat.le_of_ble_eq_true rfl) dL_isStep_900 ⟨Nat.zero_le _, Nat.zero_le _⟩ (fun z900 q900_ hq900_ H locs hT => ?_)
              obtain ⟨hz900, hr900⟩ := hq900_
              have hz900 : z900 = cnR c826 n826 tn 10 := hz900
              subst hr900
              have hz900 : z900 = c826 (49 + 0) := hz900
              refine fq_L (As := [.int (iI (z900))]) (rest := [.int (iI (z893))]) ⟨hx, hb, hml, hown, hts⟩ (oc_leastCost l D cyI A (c := c826) (ny := n826) (x := tx) (n := tn) (sz := z900) (by omega)) (cwV 1 hts gL_isStep_X7_leastCost rfl rfl rfl (by decide +kernel) ⟨Nat.le_of_ble_eq_true rfl, Nat.le_of_ble_eq_true rfl⟩) hK hT rfl hl.1 rfl (Nat.le_of_ble_eq_true rfl) dL_isStep_903 ⟨Nat.zero_le _, Nat.zero_le _⟩ (fun z903 q903_ hq903_ H locs hT => ?_)
              obtain ⟨hz903, hr903⟩ := hq903_
              have hz903 : z903 = bsI (upI c826 (49 + 0) z900) z900 (c826 0).toNat 0 0 0 := hz903
              subst hr903
              rw [hz900] at hz903
              have hle := hpk.2.2.2.2.2.1
              refine fp_icmp_ne (tgt := 913) hx hb (by omega) dL_isStep_906 (by decide) (fun q906 => ?_) (fun q906 => ?_)
              · skip
                exfalso; omega
              · skip
                refine fp_iconst hx hb dL_isStep_909 ?_
                refine lv_goto (tgt := 914) hx hb dL_isStep_910 (by decide) ?_
                exact fq_ret2 (Po := (fun q r : OS => TrS (q.1) (r.1))) hx hb hr hlocks hT (plan_TrS ho826.1 hpk.1 hI) dL_isStep_914
      · skip
        exfalso; omega
