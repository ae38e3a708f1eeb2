set_option maxHeartbeats 8000000 in
set_option maxRecDepth 100000 in
theorem law_loop {pg : Program} {l : Launch} {en : Env} {sx : State} {mi : MethodId} {bl : List Frame} {mt : Method} {cd : Code} {D : va_G} {cyI : ClassId} {b L : Nat} {xs : Nat → Int32} (hx : pg.tables.exec = Jvm.exec) (hb : cd.code = code) (hml : cd.maxLocals = 4) (hown : sx.vm.findClass RL = some mi.cls) (hts : ∀ w ∈ wsL_law, w.before #[Value.ref b] sx = true) (hK : fp_K D cyI sx) (hX : va_X b L xs sx sx.heap) (hbl : b < sx.heap.size) (hr : mt.sig.returnType = ret) (hlocks : mt.locks = false) {u v : Nat} (hL : L ≤ 2048) : ∀ (n : Nat) (i : Int), 0 ≤ i ∧ i ≤ L → (L : Int) - i + 1 ≤ (n : Int) → ∀ (H : Heap) (locs : List Loc), LawI D cyI sx u v H locs → ∀ ls : Array Slot, lv_has ls 4 [(0, .ref b), (1, .ref u), (2, .ref v), (3, .int (iI i))] → W pg l en room_1 sx mi #[Value.ref b] bl mt cd H locs 46 5318 (lw_Z bl #[Value.ref b] sx) (F0 mi 18 ls []) := by
  intro n
  induction n with
  | zero =>
    intro i h1 h2
    exact absurd h2 (by omega)
  | succ n ih =>
    intro i hi0 hfu H locs hI ls hl
    have hS := LawI_S hI
    refine lv_iload_n hx hb dL_law_18 rfl (lv_at hl 3 rfl) ?_
    refine lv_aload_n hx hb dL_law_19 rfl (lv_at hl 0 rfl) ?_
    refine fp_slen hx hb hX hbl hS dL_law_20 ?_
    refine fp_iconst hx hb dL_law_21 ?_
    refine fp_isub hx hb dL_law_22 ?_
    refine fp_icmp_gt (tgt := 698) hx hb (by omega) dL_law_23 (by decide) (fun q23 => ?_) (fun q23 => ?_)
    · skip
      refine lv_iconst (v := 1) hx hb dL_law_698 (by decide) ?_
      refine va_forget (fun q hq => hS.2.2 q hq) ?_
      refine W.widen (k := 600000) (n := 7302250) (by decide) (by decide) ?_
      exact lw_ret hx hb hr hlocks dL_law_699
    · skip
      have hi4 : 0 ≤ i ∧ i + 4 ≤ L := by omega
      have kk : ∀ (H : Heap) (locs : List Loc), LawI D cyI sx u v H locs → ∀ ls : Array Slot, lv_has ls 4 [(0, .ref b), (1, .ref u), (2, .ref v), (3, .int (iI i))] → W pg l en room_1 sx mi #[Value.ref b] bl mt cd H locs 46 5318 (lw_Z bl #[Value.ref b] sx) (F0 mi 692 ls []) := by
        intro H locs hI ls hl
        skip
        refine fp_iinc (k := 3) (lv' := [(3, .int (iI (i + 4))), (0, .ref b), (1, .ref u), (2, .ref v)]) hx hb dL_law_692 hl rfl (by decide) rfl (fun ls hl => ?_)
        refine lv_goto (tgt := 18) hx hb dL_law_695 (by decide) ?_
        exact ih (i + 4) (by omega) (by omega) H locs hI ls (lv_sub hl [1, 2, 3, 0] rfl)
      refine lv_aload_n hx hb dL_law_26 rfl (lv_at hl 0 rfl) ?_
      refine lv_iload_n hx hb dL_law_27 rfl (lv_at hl 3 rfl) ?_
      refine fp_sld hx hb hX hbl hS (k := i) (by omega) hL dL_law_28 ?_
      refine fp_bipush hx hb dL_law_29 (by decide) ?_
      refine fp_iandx hx hb dL_law_31 (fun op9 hop => ?_)
      rcases Decidable.em (op9 < 0 ∨ 19 < op9) with hsw | hsw
      · skip
        refine lv_tableOut (tgt := 692) hx hb dL_law_32 (by rw [iI_toInt hop]; exact hsw) (by decide) ?_
        exact kk _ _ hI ls (lv_sub hl [0, 1, 2, 3] rfl)
      · skip
        have hsv : op9 = 0 ∨ op9 = 1 ∨ op9 = 2 ∨ op9 = 3 ∨ op9 = 4 ∨ op9 = 5 ∨ op9 = 6 ∨ op9 = 7 ∨ op9 = 8 ∨ op9 = 9 ∨ op9 = 10 ∨ op9 = 11 ∨ op9 = 12 ∨ op9 = 13 ∨ op9 = 14 ∨ op9 = 15 ∨ op9 = 16 ∨ op9 = 17 ∨ op9 = 18 ∨ op9 = 19 := by omega
        rcases hsv with hsv | hsv | hsv | hsv | hsv | hsv | hsv | hsv | hsv | hsv | hsv | hsv | hsv | hsv | hsv | hsv | hsv | hsv | hsv | hsv
        · skip
          refine lv_tableIn (off := 96) (tgt := 128) hx hb dL_law_32 (by rw [hsv]; decide) (by rw [hsv]; decide) (by rw [hsv]; decide) (by decide) ?_
          exact law_add hx hb hml hown hts hK hX hbl hi4 hL hI kk (lv_sub hl [0, 1, 2, 3] rfl)
        · skip
          refine lv_tableIn (off := 129) (tgt := 161) hx hb dL_law_32 (by rw [hsv]; decide) (by rw [hsv]; decide) (by rw [hsv]; decide) (by decide) ?_
          exact law_load hx hb hml hown hts hK hX hbl hi4 hL hI kk (lv_sub hl [0, 1, 2, 3] rfl)
        · skip
          refine lv_tableIn (off := 142) (tgt := 174) hx hb dL_law_32 (by rw [hsv]; decide) (by rw [hsv]; decide) (by rw [hsv]; decide) (by decide) ?_
          exact law_remove hx hb hml hown hts hK hX hbl hi4 hL hI kk (lv_sub hl [0, 1, 2, 3] rfl)
        · skip
          refine lv_tableIn (off := 165) (tgt := 197) hx hb dL_law_32 (by rw [hsv]; decide) (by rw [hsv]; decide) (by rw [hsv]; decide) (by decide) ?_
          exact law_change hx hb hml hown hts hK hX hbl hi4 hL hI kk (lv_sub hl [0, 1, 2, 3] rfl)
        · skip
          refine lv_tableIn (off := 208) (tgt := 240) hx hb dL_law_32 (by rw [hsv]; decide) (by rw [hsv]; decide) (by rw [hsv]; decide) (by decide) ?_
          exact law_move hx hb hml hown hts hK hX hbl hi4 hL hI kk (lv_sub hl [0, 1, 2, 3] rfl)
        · skip
          refine lv_tableIn (off := 241) (tgt := 273) hx hb dL_law_32 (by rw [hsv]; decide) (by rw [hsv]; decide) (by rw [hsv]; decide) (by decide) ?_
          exact law_choose hx hb hml hown hts hK hX hbl hi4 hL hI kk (lv_sub hl [0, 1, 2, 3] rfl)
        · skip
          refine lv_tableIn (off := 300) (tgt := 332) hx hb dL_law_32 (by rw [hsv]; decide) (by rw [hsv]; decide) (by rw [hsv]; decide) (by decide) ?_
          exact law_plan hx hb hml hown hts hK hX hbl hi4 hL hI kk (lv_sub hl [0, 1, 2, 3] rfl)
        · skip
          refine lv_tableIn (off := 313) (tgt := 345) hx hb dL_law_32 (by rw [hsv]; decide) (by rw [hsv]; decide) (by rw [hsv]; decide) (by decide) ?_
          exact law_set hx hb hml hown hts hK hX hbl hi4 hL hI kk (lv_sub hl [0, 1, 2, 3] rfl)
        · skip
          refine lv_tableIn (off := 346) (tgt := 378) hx hb dL_law_32 (by rw [hsv]; decide) (by rw [hsv]; decide) (by rw [hsv]; decide) (by decide) ?_
          exact law_type hx hb hml hown hts hK hX hbl hi4 hL hI kk (lv_sub hl [0, 1, 2, 3] rfl)
        · skip
          refine lv_tableIn (off := 371) (tgt := 403) hx hb dL_law_32 (by rw [hsv]; decide) (by rw [hsv]; decide) (by rw [hsv]; decide) (by decide) ?_
          exact law_clear hx hb hml hown hts hK hX hbl hi4 hL hI kk (lv_sub hl [0, 1, 2, 3] rfl)
        · skip
          refine lv_tableIn (off := 384) (tgt := 416) hx hb dL_law_32 (by rw [hsv]; decide) (by rw [hsv]; decide) (by rw [hsv]; decide) (by decide) ?_
          exact law_undo hx hb hml hown hts hK hX hbl hi4 hL hI kk (lv_sub hl [0, 1, 2, 3] rfl)
        · skip
          refine lv_tableIn (off := 397) (tgt := 429) hx hb dL_law_32 (by rw [hsv]; decide) (by rw [hsv]; decide) (by rw [hsv]; decide) (by decide) ?_
          exact law_keep hx hb hml hown hts hK hX hbl hi4 hL hI kk (lv_sub hl [0, 1, 2, 3] rfl)
        · skip
          refine lv_tableIn (off := 410) (tgt := 442) hx hb dL_law_32 (by rw [hsv]; decide) (by rw [hsv]; decide) (by rw [hsv]; decide) (by decide) ?_
          exact law_restore hx hb hml hown hts hK hX hbl hi4 hL hI kk (lv_sub hl [0, 1, 2, 3] rfl)
        · skip
          refine lv_tableIn (off := 423) (tgt := 455) hx hb dL_law_32 (by rw [hsv]; decide) (by rw [hsv]; decide) (by rw [hsv]; decide) (by decide) ?_
          exact law_lot hx hb hml hown hts hK hX hbl hi4 hL hI kk (lv_sub hl [0, 1, 2, 3] rfl)
        · skip
          refine lv_tableIn (off := 456) (tgt := 488) hx hb dL_law_32 (by rw [hsv]; decide) (by rw [hsv]; decide) (by rw [hsv]; decide) (by decide) ?_
          exact law_page hx hb hml hown hts hK hX hbl hi4 hL hI kk (lv_sub hl [0, 1, 2, 3] rfl)
        · skip
          refine lv_tableIn (off := 489) (tgt := 521) hx hb dL_law_32 (by rw [hsv]; decide) (by rw [hsv]; decide) (by rw [hsv]; decide) (by decide) ?_
          exact law_gathering hx hb hml hown hts hK hX hbl hi4 hL hI kk (lv_sub hl [0, 1, 2, 3] rfl)
        · skip
          refine lv_tableIn (off := 522) (tgt := 554) hx hb dL_law_32 (by rw [hsv]; decide) (by rw [hsv]; decide) (by rw [hsv]; decide) (by decide) ?_
          exact law_ifChosen hx hb hml hown hts hK hX hbl hi4 hL hI kk (lv_sub hl [0, 1, 2, 3] rfl)
        · skip
          refine lv_tableIn (off := 581) (tgt := 613) hx hb dL_law_32 (by rw [hsv]; decide) (by rw [hsv]; decide) (by rw [hsv]; decide) (by decide) ?_
          exact law_cheapest hx hb hml hown hts hK hX hbl hi4 hL hI kk (lv_sub hl [0, 1, 2, 3] rfl)
        · skip
          refine lv_tableIn (off := 614) (tgt := 646) hx hb dL_law_32 (by rw [hsv]; decide) (by rw [hsv]; decide) (by rw [hsv]; decide) (by decide) ?_
          exact law_leastCost hx hb hml hown hts hK hX hbl hi4 hL hI kk (lv_sub hl [0, 1, 2, 3] rfl)
        · skip
          refine lv_tableIn (off := 637) (tgt := 669) hx hb dL_law_32 (by rw [hsv]; decide) (by rw [hsv]; decide) (by rw [hsv]; decide) (by decide) ?_
          exact law_count hx hb hml hown hts hK hX hbl hi4 hL hI kk (lv_sub hl [0, 1, 2, 3] rfl)
