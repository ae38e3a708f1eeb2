set_option maxRecDepth 100000 in
theorem big_L_isStep : Cond.code yL_isStep cL_isStep 14 (some .boolean) ∈ lw_tbl := by
  show _ ∈ k2_sels lw_privs ++ (tables_1_1 ++ (tables_1_2 ++ tables_1_3))
  exact List.mem_append_right _ (List.mem_append_right _ (List.mem_append_right _ (List.mem_of_getElem? (i := 64) rfl)))
set_option maxRecDepth 100000 in
theorem big_L_isWell : Cond.code yL_isWell cL_isWell 14 (some .boolean) ∈ lw_tbl := by
  show _ ∈ k2_sels lw_privs ++ (tables_1_1 ++ (tables_1_2 ++ tables_1_3))
  exact List.mem_append_right _ (List.mem_append_right _ (List.mem_append_right _ (List.mem_of_getElem? (i := 129) rfl)))
set_option maxRecDepth 100000 in
theorem big_L_isAlike : Cond.code yL_isAlike cL_isAlike 5 (some .boolean) ∈ lw_tbl := by
  show _ ∈ k2_sels lw_privs ++ (tables_1_1 ++ (tables_1_2 ++ tables_1_3))
  exact List.mem_append_right _ (List.mem_append_left _ (List.mem_of_getElem? (i := 212) rfl))
set_option maxRecDepth 100000 in
theorem big_L_isRetold : Cond.code yL_isRetold cL_isRetold 6 (some .boolean) ∈ lw_tbl := by
  show _ ∈ k2_sels lw_privs ++ (tables_1_1 ++ (tables_1_2 ++ tables_1_3))
  exact List.mem_append_right _ (List.mem_append_left _ (List.mem_of_getElem? (i := 215) rfl))
set_option maxRecDepth 20000 in
theorem in_wsL_law_r1 : ∀ w ∈ wsL_law_r1, w ∈ lw_tbl := fun w h => (goodIn_p wsL_law_r1 [33, 36] (by decide +kernel) (by decide +kernel) w h).1
set_option maxRecDepth 20000 in
theorem in_wsL_law_r2 : ∀ w ∈ wsL_law_r2, w ∈ lw_tbl := fun w h => (goodIn_p wsL_law_r2 [41, 47] (by decide +kernel) (by decide +kernel) w h).1
set_option maxRecDepth 20000 in
theorem in_wsL_law_r3 : ∀ w ∈ wsL_law_r3, w ∈ lw_tbl := fun w h => (goodIn_p wsL_law_r3 [57, 66, 81] (by decide +kernel) (by decide +kernel) w h).1
set_option maxRecDepth 20000 in
theorem in_wsL_law_r4 : ∀ w ∈ wsL_law_r4, w ∈ lw_tbl := fun w h => (goodIn_p wsL_law_r4 [96, 114, 144] (by decide +kernel) (by decide +kernel) w h).1
set_option maxRecDepth 20000 in
theorem in_wsL_law_r5 : ∀ w ∈ wsL_law_r5, w ∈ lw_tbl := fun w h => (goodIn_p wsL_law_r5 [194, 197, 201, 205] (by decide +kernel) (by decide +kernel) w h).1
set_option maxRecDepth 20000 in
theorem in_wsL_law_r6 : ∀ w ∈ wsL_law_r6, w ∈ lw_tbl := fun w h => (goodIn_p wsL_law_r6 [209, 213, 219, 224, 227] (by decide +kernel) (by decide +kernel) w h).1
set_option maxRecDepth 20000 in
theorem in_wsL_law_r7 : ∀ w ∈ wsL_law_r7, w ∈ lw_tbl := by
  show ∀ w ∈ (([Cond.static yL_isStep] : List Cond) ++ (Cond.code yL_isStep cL_isStep 14 (some .boolean) :: ([Cond.methodLink RL 9 yX7_count, Cond.instanceMethod yX7_count, Cond.selects RX7 yX7_count yX7_count, Cond.code yX7_count cX7_count 2 (some .int), Cond.methodLink RX7 181 yX2_lay, Cond.instanceMethod yX2_lay, Cond.selects RX2 yX2_lay yX2_lay, Cond.code yX2_lay cX2_lay 4 none, Cond.methodLink RX2 39 yX0_setting, Cond.methodLink RX2 45 yX0_lots, Cond.instanceMethod yX0_lots, Cond.selects RX0 yX0_lots yX0_lots, Cond.code yX0_lots cX0_lots 1 (some .int), Cond.methodLink RX2 49 yX2_layLot, Cond.instanceMethod yX2_layLot, Cond.selects RX2 yX2_layLot yX2_layLot, Cond.code yX2_layLot cX2_layLot 4 none, Cond.methodLink RX2 61 yX0_blank, Cond.instanceMethod yX0_blank, Cond.selects RX0 yX0_blank yX0_blank, Cond.code yX0_blank cX0_blank 2 (some .int), Cond.methodLink RX2 57 yX2_layPage] : List Cond))), w ∈ lw_tbl
  exact (List.forall_mem_append.mpr ⟨(fun w h => (goodIn_p ([Cond.static yL_isStep] : List Cond) [] (by decide +kernel) (by decide +kernel) w h).1), List.forall_mem_cons.mpr ⟨big_L_isStep, (fun w h => (goodIn_p ([Cond.methodLink RL 9 yX7_count, Cond.instanceMethod yX7_count, Cond.selects RX7 yX7_count yX7_count, Cond.code yX7_count cX7_count 2 (some .int), Cond.methodLink RX7 181 yX2_lay, Cond.instanceMethod yX2_lay, Cond.selects RX2 yX2_lay yX2_lay, Cond.code yX2_lay cX2_lay 4 none, Cond.methodLink RX2 39 yX0_setting, Cond.methodLink RX2 45 yX0_lots, Cond.instanceMethod yX0_lots, Cond.selects RX0 yX0_lots yX0_lots, Cond.code yX0_lots cX0_lots 1 (some .int), Cond.methodLink RX2 49 yX2_layLot, Cond.instanceMethod yX2_layLot, Cond.selects RX2 yX2_layLot yX2_layLot, Cond.code yX2_layLot cX2_layLot 4 none, Cond.methodLink RX2 61 yX0_blank, Cond.instanceMethod yX0_blank, Cond.selects RX0 yX0_blank yX0_blank, Cond.code yX0_blank cX0_blank 2 (some .int), Cond.methodLink RX2 57 yX2_layPage] : List Cond) [238, 242, 247, 251, 255] (by decide +kernel) (by decide +kernel) w h).1)⟩⟩)
set_option maxRecDepth 20000 in
theorem in_wsL_law_r8 : ∀ w ∈ wsL_law_r8, w ∈ lw_tbl := fun w h => (goodIn_p wsL_law_r8 [259, 264, 268, 272, 275, 278] (by decide +kernel) (by decide +kernel) w h).1
set_option maxRecDepth 20000 in
theorem in_wsL_law_r9 : ∀ w ∈ wsL_law_r9, w ∈ lw_tbl := fun w h => (goodIn_p wsL_law_r9 [283, 289, 294, 298, 303] (by decide +kernel) (by decide +kernel) w h).1
set_option maxRecDepth 20000 in
theorem in_wsL_law_r10 : ∀ w ∈ wsL_law_r10, w ∈ lw_tbl := fun w h => (goodIn_p wsL_law_r10 [307, 311, 315, 319, 324, 329] (by decide +kernel) (by decide +kernel) w h).1
set_option maxRecDepth 20000 in
theorem in_wsL_law_r11 : ∀ w ∈ wsL_law_r11, w ∈ lw_tbl := fun w h => (goodIn_p wsL_law_r11 [333, 337, 341, 344, 348, 352] (by decide +kernel) (by decide +kernel) w h).1
set_option maxRecDepth 20000 in
theorem in_wsL_law_r12 : ∀ w ∈ wsL_law_r12, w ∈ lw_tbl := fun w h => (goodIn_p wsL_law_r12 [356, 361, 365, 566, 571, 447] (by decide +kernel) (by decide +kernel) w h).1
set_option maxRecDepth 20000 in
theorem in_wsL_law_r13 : ∀ w ∈ wsL_law_r13, w ∈ lw_tbl := fun w h => (goodIn_p wsL_law_r13 [575, 455, 398, 402, 377, 381] (by decide +kernel) (by decide +kernel) w h).1
set_option maxRecDepth 20000 in
theorem in_wsL_law_r14 : ∀ w ∈ wsL_law_r14, w ∈ lw_tbl := fun w h => (goodIn_p wsL_law_r14 [385, 389, 394, 406, 413] (by decide +kernel) (by decide +kernel) w h).1
set_option maxRecDepth 20000 in
theorem in_wsL_law_r15 : ∀ w ∈ wsL_law_r15, w ∈ lw_tbl := fun w h => (goodIn_p wsL_law_r15 [580, 545, 586, 591, 595, 515] (by decide +kernel) (by decide +kernel) w h).1
set_option maxRecDepth 20000 in
theorem in_wsL_law_r16 : ∀ w ∈ wsL_law_r16, w ∈ lw_tbl := fun w h => (goodIn_p wsL_law_r16 [480, 602, 606, 476, 485] (by decide +kernel) (by decide +kernel) w h).1
set_option maxRecDepth 20000 in
theorem in_wsL_law_r17 : ∀ w ∈ wsL_law_r17, w ∈ lw_tbl := fun w h => (goodIn_p wsL_law_r17 [493, 497, 500, 506, 510] (by decide +kernel) (by decide +kernel) w h).1
set_option maxRecDepth 20000 in
theorem in_wsL_law_r18 : ∀ w ∈ wsL_law_r18, w ∈ lw_tbl := fun w h => (goodIn_p wsL_law_r18 [519, 524, 528, 532, 536] (by decide +kernel) (by decide +kernel) w h).1
set_option maxRecDepth 20000 in
theorem in_wsL_law_r19 : ∀ w ∈ wsL_law_r19, w ∈ lw_tbl := fun w h => (goodIn_p wsL_law_r19 [541, 549, 556, 610, 468] (by decide +kernel) (by decide +kernel) w h).1
set_option maxRecDepth 20000 in
theorem in_wsL_law_r20 : ∀ w ∈ wsL_law_r20, w ∈ lw_tbl := by
  show ∀ w ∈ (([Cond.selects RX7 yX7_leastCost yX7_leastCost, Cond.code yX7_leastCost cX7_leastCost 2 (some .int), Cond.methodLink RL 71 yX7_undo, Cond.instanceMethod yX7_undo, Cond.selects RX7 yX7_undo yX7_undo, Cond.code yX7_undo cX7_undo 1 (some .int), Cond.methodLink RX7 175 yX1_takeLatest, Cond.instanceMethod yX1_takeLatest, Cond.selects RX1 yX1_takeLatest yX1_takeLatest, Cond.code yX1_takeLatest cX1_takeLatest 2 none, Cond.methodLink RX1 34 yX0_readFrom, Cond.instanceMethod yX0_readFrom, Cond.selects RX0 yX0_readFrom yX0_readFrom, Cond.code yX0_readFrom cX0_readFrom 3 none, Cond.methodLink RL 74 yL_areSettings, Cond.static yL_areSettings, Cond.code yL_areSettings cL_areSettings 4 (some .boolean), Cond.methodLink RL 92 yL_isWell, Cond.static yL_isWell] : List Cond) ++ (Cond.code yL_isWell cL_isWell 14 (some .boolean) :: ([Cond.methodLink RL 77 yX7_page, Cond.instanceMethod yX7_page, Cond.selects RX7 yX7_page yX7_page, Cond.code yX7_page cX7_page 3 (some .int)] : List Cond))), w ∈ lw_tbl
  exact (List.forall_mem_append.mpr ⟨(fun w h => (goodIn_p ([Cond.selects RX7 yX7_leastCost yX7_leastCost, Cond.code yX7_leastCost cX7_leastCost 2 (some .int), Cond.methodLink RL 71 yX7_undo, Cond.instanceMethod yX7_undo, Cond.selects RX7 yX7_undo yX7_undo, Cond.code yX7_undo cX7_undo 1 (some .int), Cond.methodLink RX7 175 yX1_takeLatest, Cond.instanceMethod yX1_takeLatest, Cond.selects RX1 yX1_takeLatest yX1_takeLatest, Cond.code yX1_takeLatest cX1_takeLatest 2 none, Cond.methodLink RX1 34 yX0_readFrom, Cond.instanceMethod yX0_readFrom, Cond.selects RX0 yX0_readFrom yX0_readFrom, Cond.code yX0_readFrom cX0_readFrom 3 none, Cond.methodLink RL 74 yL_areSettings, Cond.static yL_areSettings, Cond.code yL_areSettings cL_areSettings 4 (some .boolean), Cond.methodLink RL 92 yL_isWell, Cond.static yL_isWell] : List Cond) [560, 614, 618, 622, 625] (by decide +kernel) (by decide +kernel) w h).1), List.forall_mem_cons.mpr ⟨big_L_isWell, (fun w h => (goodIn_p ([Cond.methodLink RL 77 yX7_page, Cond.instanceMethod yX7_page, Cond.selects RX7 yX7_page yX7_page, Cond.code yX7_page cX7_page 3 (some .int)] : List Cond) [632] (by decide +kernel) (by decide +kernel) w h).1)⟩⟩)
set_option maxRecDepth 20000 in
theorem in_wsL_law_r21 : ∀ w ∈ wsL_law_r21, w ∈ lw_tbl := fun w h => (goodIn_p wsL_law_r21 [636, 642, 649, 653, 657] (by decide +kernel) (by decide +kernel) w h).1
set_option maxRecDepth 20000 in
theorem in_wsL_law_r22 : ∀ w ∈ wsL_law_r22, w ∈ lw_tbl := by
  show ∀ w ∈ (([Cond.methodLink RX2 98 yX2_isPlatePage, Cond.instanceMethod yX2_isPlatePage, Cond.selects RX2 yX2_isPlatePage yX2_isPlatePage, Cond.code yX2_isPlatePage cX2_isPlatePage 2 (some .boolean), Cond.methodLink RX7 220 yX2_blanksIn, Cond.instanceMethod yX2_blanksIn, Cond.selects RX2 yX2_blanksIn yX2_blanksIn, Cond.code yX2_blanksIn cX2_blanksIn 4 (some .int), Cond.methodLink RX7 223 yX2_coloured, Cond.methodLink RL 96 yL_isAlike, Cond.static yL_isAlike] : List Cond) ++ (Cond.code yL_isAlike cL_isAlike 5 (some .boolean) :: (([Cond.methodLink RL 33 yL_isRetold, Cond.static yL_isRetold] : List Cond) ++ (Cond.code yL_isRetold cL_isRetold 6 (some .boolean) :: ([Cond.methodLink RL 15 yX7_clearText, Cond.instanceMethod yX7_clearText, Cond.selects RX7 yX7_clearText yX7_clearText, Cond.code yX7_clearText cX7_clearText 2 (some .int), Cond.methodLink RX7 169 yX6_empty, Cond.instanceMethod yX6_empty, Cond.selects RX6 yX6_empty yX6_empty, Cond.code yX6_empty cX6_empty 1 none, Cond.methodLink RL 26 yX7_type] : List Cond))))), w ∈ lw_tbl
  exact (List.forall_mem_append.mpr ⟨(fun w h => (goodIn_p ([Cond.methodLink RX2 98 yX2_isPlatePage, Cond.instanceMethod yX2_isPlatePage, Cond.selects RX2 yX2_isPlatePage yX2_isPlatePage, Cond.code yX2_isPlatePage cX2_isPlatePage 2 (some .boolean), Cond.methodLink RX7 220 yX2_blanksIn, Cond.instanceMethod yX2_blanksIn, Cond.selects RX2 yX2_blanksIn yX2_blanksIn, Cond.code yX2_blanksIn cX2_blanksIn 4 (some .int), Cond.methodLink RX7 223 yX2_coloured, Cond.methodLink RL 96 yL_isAlike, Cond.static yL_isAlike] : List Cond) [661, 665] (by decide +kernel) (by decide +kernel) w h).1), List.forall_mem_cons.mpr ⟨big_L_isAlike, (List.forall_mem_append.mpr ⟨(fun w h => (goodIn_p ([Cond.methodLink RL 33 yL_isRetold, Cond.static yL_isRetold] : List Cond) [] (by decide +kernel) (by decide +kernel) w h).1), List.forall_mem_cons.mpr ⟨big_L_isRetold, (fun w h => (goodIn_p ([Cond.methodLink RL 15 yX7_clearText, Cond.instanceMethod yX7_clearText, Cond.selects RX7 yX7_clearText yX7_clearText, Cond.code yX7_clearText cX7_clearText 2 (some .int), Cond.methodLink RX7 169 yX6_empty, Cond.instanceMethod yX6_empty, Cond.selects RX6 yX6_empty yX6_empty, Cond.code yX6_empty cX6_empty 1 none, Cond.methodLink RL 26 yX7_type] : List Cond) [369, 373] (by decide +kernel) (by decide +kernel) w h).1)⟩⟩)⟩⟩)
set_option maxRecDepth 20000 in
theorem in_wsL_law_r23 : ∀ w ∈ wsL_law_r23, w ∈ lw_tbl := fun w h => (goodIn_p wsL_law_r23 [418, 422, 427, 431, 435, 439] (by decide +kernel) (by decide +kernel) w h).1
set_option maxRecDepth 20000 in
theorem in_wsL_law_r24 : ∀ w ∈ wsL_law_r24, w ∈ lw_tbl := fun w h => (goodIn_p wsL_law_r24 [443, 451, 460, 464, 472] (by decide +kernel) (by decide +kernel) w h).1
theorem in_wsX70 : ∀ w ∈ wsX70, w ∈ lw_tbl := by decide +kernel
theorem in_wsX00 : ∀ w ∈ wsX00, w ∈ lw_tbl := by decide +kernel
theorem in_wsX10 : ∀ w ∈ wsX10, w ∈ lw_tbl := by decide +kernel
theorem in_wsX60 : ∀ w ∈ wsX60, w ∈ lw_tbl := by decide +kernel
theorem in_wsX40 : ∀ w ∈ wsX40, w ∈ lw_tbl := by decide +kernel
theorem in_wsX20 : ∀ w ∈ wsX20, w ∈ lw_tbl := by decide +kernel
theorem in_wsX30 : ∀ w ∈ wsX30, w ∈ lw_tbl := by decide +kernel
theorem in_wsX50 : ∀ w ∈ wsX50, w ∈ lw_tbl := by decide +kernel
set_option maxRecDepth 20000 in
theorem wsL_law_in : ∀ w ∈ wsL_law, w ∈ lw_tbl := by
  show ∀ w ∈ (wsL_law_r1 ++ (wsL_law_r2 ++ (wsL_law_r3 ++ (wsL_law_r4 ++ (wsL_law_r5 ++ (wsL_law_r6 ++ (wsL_law_r7 ++ (wsL_law_r8 ++ (wsL_law_r9 ++ (wsL_law_r10 ++ (wsL_law_r11 ++ (wsL_law_r12 ++ (wsL_law_r13 ++ (wsL_law_r14 ++ (wsL_law_r15 ++ (wsL_law_r16 ++ (wsL_law_r17 ++ (wsL_law_r18 ++ (wsL_law_r19 ++ (wsL_law_r20 ++ (wsL_law_r21 ++ (wsL_law_r22 ++ (wsL_law_r23 ++ wsL_law_r24))))))))))))))))))))))) ++ wsX70 ++ wsX00 ++ wsX10 ++ wsX60 ++ wsX40 ++ wsX20 ++ wsX30 ++ wsX50 ++ ([] : List Cond), w ∈ lw_tbl
  exact List.forall_mem_append.mpr ⟨List.forall_mem_append.mpr ⟨List.forall_mem_append.mpr ⟨List.forall_mem_append.mpr ⟨List.forall_mem_append.mpr ⟨List.forall_mem_append.mpr ⟨List.forall_mem_append.mpr ⟨List.forall_mem_append.mpr ⟨List.forall_mem_append.mpr ⟨List.forall_mem_append.mpr ⟨in_wsL_law_r1, List.forall_mem_append.mpr ⟨in_wsL_law_r2, List.forall_mem_append.mpr ⟨in_wsL_law_r3, List.forall_mem_append.mpr ⟨in_wsL_law_r4, List.forall_mem_append.mpr ⟨in_wsL_law_r5, List.forall_mem_append.mpr ⟨in_wsL_law_r6, List.forall_mem_append.mpr ⟨in_wsL_law_r7, List.forall_mem_append.mpr ⟨in_wsL_law_r8, List.forall_mem_append.mpr ⟨in_wsL_law_r9, List.forall_mem_append.mpr ⟨in_wsL_law_r10, List.forall_mem_append.mpr ⟨in_wsL_law_r11, List.forall_mem_append.mpr ⟨in_wsL_law_r12, List.forall_mem_append.mpr ⟨in_wsL_law_r13, List.forall_mem_append.mpr ⟨in_wsL_law_r14, List.forall_mem_append.mpr ⟨in_wsL_law_r15, List.forall_mem_append.mpr ⟨in_wsL_law_r16, List.forall_mem_append.mpr ⟨in_wsL_law_r17, List.forall_mem_append.mpr ⟨in_wsL_law_r18, List.forall_mem_append.mpr ⟨in_wsL_law_r19, List.forall_mem_append.mpr ⟨in_wsL_law_r20, List.forall_mem_append.mpr ⟨in_wsL_law_r21, List.forall_mem_append.mpr ⟨in_wsL_law_r22, List.forall_mem_append.mpr ⟨in_wsL_law_r23, in_wsL_law_r24⟩⟩⟩⟩⟩⟩⟩⟩⟩⟩⟩⟩⟩⟩⟩⟩⟩⟩⟩⟩⟩⟩⟩, in_wsX70⟩, in_wsX00⟩, in_wsX10⟩, in_wsX60⟩, in_wsX40⟩, in_wsX20⟩, in_wsX30⟩, in_wsX50⟩, fun _ h => absurd h List.not_mem_nil⟩
theorem inlX0 : ∀ w ∈ wsX00, w ∈ wsL_law := fun _ h => List.mem_append_left _ (List.mem_append_left _ (List.mem_append_left _ (List.mem_append_left _ (List.mem_append_left _ (List.mem_append_left _ (List.mem_append_left _ (List.mem_append_right _ h)))))))
theorem inX0 : ∀ w ∈ wsX00, w ∈ lw_tbl := fun w h => wsL_law_in w (inlX0 w h)
theorem inlX1 : ∀ w ∈ wsX10, w ∈ wsL_law := fun _ h => List.mem_append_left _ (List.mem_append_left _ (List.mem_append_left _ (List.mem_append_left _ (List.mem_append_left _ (List.mem_append_left _ (List.mem_append_right _ h))))))
theorem inX1 : ∀ w ∈ wsX10, w ∈ lw_tbl := fun w h => wsL_law_in w (inlX1 w h)
theorem inlX2 : ∀ w ∈ wsX20, w ∈ wsL_law := fun _ h => List.mem_append_left _ (List.mem_append_left _ (List.mem_append_left _ (List.mem_append_right _ h)))
theorem inX2 : ∀ w ∈ wsX20, w ∈ lw_tbl := fun w h => wsL_law_in w (inlX2 w h)
theorem inlX3 : ∀ w ∈ wsX30, w ∈ wsL_law := fun _ h => List.mem_append_left _ (List.mem_append_left _ (List.mem_append_right _ h))
theorem inX3 : ∀ w ∈ wsX30, w ∈ lw_tbl := fun w h => wsL_law_in w (inlX3 w h)
theorem inlX4 : ∀ w ∈ wsX40, w ∈ wsL_law := fun _ h => List.mem_append_left _ (List.mem_append_left _ (List.mem_append_left _ (List.mem_append_left _ (List.mem_append_right _ h))))
theorem inX4 : ∀ w ∈ wsX40, w ∈ lw_tbl := fun w h => wsL_law_in w (inlX4 w h)
theorem inlX5 : ∀ w ∈ wsX50, w ∈ wsL_law := fun _ h => List.mem_append_left _ (List.mem_append_right _ h)
theorem inX5 : ∀ w ∈ wsX50, w ∈ lw_tbl := fun w h => wsL_law_in w (inlX5 w h)
theorem inlX6 : ∀ w ∈ wsX60, w ∈ wsL_law := fun _ h => List.mem_append_left _ (List.mem_append_left _ (List.mem_append_left _ (List.mem_append_left _ (List.mem_append_left _ (List.mem_append_right _ h)))))
theorem inX6 : ∀ w ∈ wsX60, w ∈ lw_tbl := fun w h => wsL_law_in w (inlX6 w h)
theorem inlX7 : ∀ w ∈ wsX70, w ∈ wsL_law := fun _ h => List.mem_append_left _ (List.mem_append_left _ (List.mem_append_left _ (List.mem_append_left _ (List.mem_append_left _ (List.mem_append_left _ (List.mem_append_left _ (List.mem_append_left _ (List.mem_append_right _ h))))))))
theorem inX7 : ∀ w ∈ wsX70, w ∈ lw_tbl := fun w h => wsL_law_in w (inlX7 w h)
theorem inX8 : ∀ w ∈ wsX80, w ∈ lw_tbl := by decide +kernel
theorem inJ9 : ∀ w ∈ wsJ90, w ∈ lw_tbl := by decide +kernel
