theorem lwi_0 : Cond.instantiable RX0 1 ∈ lw_tbl := by decide +kernel
theorem lwi_1 : Cond.instantiable RX1 2 ∈ lw_tbl := by decide +kernel
theorem lwi_2 : Cond.instantiable RX2 7 ∈ lw_tbl := by decide +kernel
theorem lwi_3 : Cond.instantiable RX3 4 ∈ lw_tbl := by decide +kernel
theorem lwi_4 : Cond.instantiable RX4 3 ∈ lw_tbl := by decide +kernel
theorem lwi_5 : Cond.instantiable RX5 1 ∈ lw_tbl := by decide +kernel
theorem lwi_6 : Cond.instantiable RX6 2 ∈ lw_tbl := by decide +kernel
theorem lwi_7 : Cond.instantiable RX7 9 ∈ lw_tbl := by decide +kernel
theorem lwa : Cond.arrayClass .int ∈ lw_tbl := by decide +kernel
theorem lwn_0 : Cond.methodLinkNest RX4 45 yX7_isText "FacingPlates" ∈ lw_tbl := by decide +kernel
theorem lwn_1 : Cond.methodLinkNest RX2 53 yX7_gatheringsFor "FacingPlates" ∈ lw_tbl := by decide +kernel
theorem lwn_2 : Cond.methodLinkNest RX2 101 yX7_sideOfPage "FacingPlates" ∈ lw_tbl := by decide +kernel
theorem lwn_3 : Cond.methodLinkNest RX3 86 yX7_gatheringsFor "FacingPlates" ∈ lw_tbl := by decide +kernel
theorem lwn_4 : Cond.methodLinkNest RX3 130 yX7_gatheringOfPage "FacingPlates" ∈ lw_tbl := by decide +kernel
theorem lwn_5 : Cond.methodLinkNest RX3 136 yX7_sideOfPage "FacingPlates" ∈ lw_tbl := by decide +kernel
theorem lwn_6 : Cond.methodLinkNest RX2 79 yX7_gatheringOfPage "FacingPlates" ∈ lw_tbl := by decide +kernel
set_option maxHeartbeats 8000000 in
/-- YOUR PART: from the entry, for every script of at most 260 ints, the law comes to its end with true ('hflags': the launch's flags, for a law that throws: no stack traces) -/
theorem whole_start {p : Program} {e : Env} {s : State} {m : MethodId} {below : List Frame} {meth : Method} {c : Code} (l : Launch) (hflags : l.flags = flags0) {b L : Nat} {xs : Nat → Int32} (hL : L ≤ 260) (C0 : lw_At p s m meth c b L xs) : W p l e room_1 s m #[Value.ref b] below meth c s.heap [] 0 0 (lw_Z below #[Value.ref b] s) (entryFrame m ([Value.ref b] : List Value).toArray 5) := by
  obtain ⟨hx, hb, hr, hml, hown, hts0, hX, hbl, hlocks, hgv⟩ := C0
  have hts : ∀ w ∈ wsL_law, w.before #[Value.ref b] s = true := fun w h => hts0 w (wsL_law_in w h)
  obtain ⟨c0, i0, k0⟩ := u_known (C := RX0) (T := TX0) (N := 1) (n := 1) hts0 inX0 (hts0 _ lwi_0)
  obtain ⟨c1, i1, k1⟩ := u_known (C := RX1) (T := TX1) (N := 2) (n := 2) hts0 inX1 (hts0 _ lwi_1)
  obtain ⟨c2, i2, k2⟩ := u_known (C := RX2) (T := TX2) (N := 7) (n := 7) hts0 inX2 (hts0 _ lwi_2)
  obtain ⟨c3, i3, k3⟩ := u_known (C := RX3) (T := TX3) (N := 4) (n := 4) hts0 inX3 (hts0 _ lwi_3)
  obtain ⟨c4, i4, k4⟩ := u_known (C := RX4) (T := TX4) (N := 3) (n := 3) hts0 inX4 (hts0 _ lwi_4)
  obtain ⟨c5, i5, k5⟩ := u_known (C := RX5) (T := TX5) (N := 1) (n := 1) hts0 inX5 (hts0 _ lwi_5)
  obtain ⟨c6, i6, k6⟩ := u_known (C := RX6) (T := TX6) (N := 2) (n := 2) hts0 inX6 (hts0 _ lwi_6)
  obtain ⟨c7, i7, k7⟩ := u_known (C := RX7) (T := TX7) (N := 9) (n := 9) hts0 inX7 (hts0 _ lwi_7)
  obtain ⟨cyI, kA, comp, h1, h2, h3⟩ := Cond.arrayClass_spec (hts0 _ lwa)
  obtain ⟨D, hKc⟩ : ∃ D : va_G, ∀ (k : Nat) (q : vw_C), vwCl[k]? = some q → u_Kn s q.1 q.2.1 q.2.2 (D.1 k) (D.2 k) := by
    refine ⟨(fun k => if k = 0 then c0 else if k = 1 then c1 else if k = 2 then c2 else if k = 3 then c3 else if k = 4 then c4 else if k = 5 then c5 else if k = 6 then c6 else c7, fun k => if k = 0 then i0 else if k = 1 then i1 else if k = 2 then i2 else if k = 3 then i3 else if k = 4 then i4 else if k = 5 then i5 else if k = 6 then i6 else i7), ?_⟩
    intro k q hq
    match k, hq with
    | 0, hq => cases hq; exact k0
    | 1, hq => cases hq; exact k1
    | 2, hq => cases hq; exact k2
    | 3, hq => cases hq; exact k3
    | 4, hq => cases hq; exact k4
    | 5, hq => cases hq; exact k5
    | 6, hq => cases hq; exact k6
    | 7, hq => cases hq; exact k7
    | k + 8, hq => simp [vwCl] at hq
  have hK : fp_K D cyI s := by
    refine ⟨⟨hKc, fun k q h => ?_⟩, va_Nw.of rfl (hts0 _ lwn_0), va_Nw.of rfl (hts0 _ lwn_1), va_Nw.of rfl (hts0 _ lwn_2), va_Nw.of rfl (hts0 _ lwn_3), va_Nw.of rfl (hts0 _ lwn_4), va_Nw.of rfl (hts0 _ lwn_5), va_Nw.of rfl (hts0 _ lwn_6)⟩
    match k, h with
    | 0, h => cases h; exact ⟨fun n z => ⟨fun k h => (by cases h), kA, h2, comp, h3⟩, h1⟩
    | k + 1, h => simp at h
  have hl := lv_entry ([.ref b]) (n := 5) (Nat.le_of_ble_eq_true rfl)
  rw [lg_entry_eq]
  generalize (lg_sl ([.ref b]) ++ List.replicate (5 - (lg_sl ([.ref b])).length) Slot.unset).toArray = ls at hl ⊢
  exact law_entry hx hb hml hown hts hK hX hbl hr hlocks hL hl
