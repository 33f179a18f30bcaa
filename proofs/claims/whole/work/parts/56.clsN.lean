set_option maxHeartbeats 4000000 in
set_option maxRecDepth 100000 in
theorem c_X7_ways (l_ : Launch) (G : jG) (I : Nat → Nat → Int32) (J : Nat → Nat → Int64) (O : Nat → Nat → Nat) (man cell : Int32) {nd : Nat} (hnd : nd ≤ 10) (hD : I 0 0 = nI nd) {nm : Nat} (hnm : nm ≤ 4) (hM : I 0 1 = nI nm) (hW : wfD (I 0) nd) (hWc : ∀ m, m < nm → ∃ c, c < 8 ∧ I 0 (51 + m) = nI c) : jMi l_ G yX7_ways wsX7_ways ({ frames := 7, cells := 0, slots := 0, locals := 165 }) [.ref (G.2.2.1 (0, 0, 0)), .int man, .int cell] (I, J, O) (fun r u => r = waysC (I 0) nd nm man cell ∧ SCs (I, J, O) u) := by
  refine jMi_of (cc := cX7_ways) (maxL := 3) (ret := (some .int)) (lv0 := [(0, .ref (G.2.2.1 (0, 0, 0))), (1, .int man), (2, .int cell)]) (by decide) rfl (Nat.le_of_ble_eq_true rfl) rfl ?_
  intro pg_ ev_ s_ mi_ below meth cd_ A ls hC hB hl
  obtain ⟨hx, hb, hr, hml, hown, hts, hlocks, hK, hA⟩ := id hC
  have lk_44 := hts (.fieldLink RX7 44 "RiddlePrison" "foresight" "LRiddlePrison$Foresight;") (by decide +kernel)
  have lk_10 := hts (.fieldLink RX7 10 "RiddlePrison" "now" "LRiddlePrison$Prison;") (by decide +kernel)
  have ln_121 := (by decide +kernel : Cond.fieldLinkNest RX7 121 "RiddlePrison$Prison" "men" "[LRiddlePrison$Man;" "RiddlePrison" ∈ nsW)
  have ln_215 := (by decide +kernel : Cond.fieldLinkNest RX7 215 "RiddlePrison$Foresight" "rows" "[I" "RiddlePrison" ∈ nsW)
  have in_X7 := (fun w h => List.mem_cons_of_mem _ (List.mem_append_left _ (List.mem_append_left _ (List.mem_append_left _ (List.mem_append_left _ (List.mem_append_right _ h))))) : ∀ w ∈ wsX70, w ∈ wsX7_ways)
  have in_X4 := (fun w h => List.mem_cons_of_mem _ (List.mem_append_left _ (List.mem_append_left _ (List.mem_append_left _ (List.mem_append_right _ h)))) : ∀ w ∈ wsX40, w ∈ wsX7_ways)
  have in_X1 := (fun w h => List.mem_cons_of_mem _ (List.mem_append_left _ (List.mem_append_left _ (List.mem_append_right _ h))) : ∀ w ∈ wsX10, w ∈ wsX7_ways)
  refine lv_aload_n hx hb dX7_ways_0 rfl (lv_at hl 0 rfl) ?_
  refine lv_iload_n hx hb dX7_ways_1 rfl (lv_at hl 1 rfl) ?_
  refine j_cvi (0, 0, 0) [.int man] hC hB hl.1 (c_X7_isMan l_ G I J O man (by omega) (hM)) (cwV 1 hts gX7_ways_X7_isMan rfl rfl rfl (by decide +kernel) ⟨by decide, by decide⟩) dX7_ways_2 jk0 rfl rfl rfl rfl (Nat.le_of_ble_eq_true rfl) (fun r_2 u_2 H locs hp_2 hB => ?_)
  obtain ⟨rfl, rfl⟩ := hp_2
  refine jb_if_eq (tgt := 15) hx hb dX7_ways_5 (by decide) (fun c_5 => ?_) (fun c_5 => ?_)
  · refine lv_iconst (v := (-1 : Int32)) hx hb dX7_ways_15 (by decide) ?_
    exact j_iret hC hB dX7_ways_16 (⟨by simp [waysC, c_5], ⟨SCI.rf, SCJ.rf, rfl⟩⟩)
  · obtain ⟨mm, hmm, rfl⟩ := isB_nat c_5 (by omega)
    obtain ⟨cc, hcc, ecc⟩ := hWc mm hmm
    refine lv_iload_n hx hb dX7_ways_8 rfl (lv_at hl 2 rfl) ?_
    refine j_csi [.int cell] hC hB hl.1 (c_X7_isCell l_ G I J O cell) (va_cwS 1 hts gX7_ways_X7_isCell rfl rfl rfl (by decide +kernel) ⟨by decide, by decide⟩) dX7_ways_9 rfl rfl (Nat.le_of_ble_eq_true rfl) (fun r_9 u_9 H locs hp_9 hB => ?_)
    obtain ⟨rfl, rfl⟩ := hp_9
    refine jb_if_ne (tgt := 17) hx hb dX7_ways_12 (by decide) (fun c_12 => ?_) (fun c_12 => ?_)
    · obtain ⟨xx, hxx, rfl⟩ := isB_nat c_12 (by omega)
      refine lv_aload_n hx hb dX7_ways_17 rfl (lv_at hl 0 rfl) ?_
      refine j_get (0, 0, 0) 7 (v := .ref (G.2.2.1 (11, 0, 0))) hC hB in_X7 lk_44 dX7_ways_18 jk0 rfl rfl (by decide) rfl ?_
      refine lv_aload_n hx hb dX7_ways_21 rfl (lv_at hl 0 rfl) ?_
      refine j_get (0, 0, 0) 0 (v := .ref (G.2.2.1 (1, 0, 0))) hC hB in_X7 lk_10 dX7_ways_22 jk0 rfl rfl (by decide) rfl ?_
      refine j_getN (1, 0, 0) 1 (v := .ref (G.2.2.1 (3, 0, 0))) hC hB in_X4 ln_121 dX7_ways_25 (jk1 (by omega)) rfl rfl (by decide) rfl ?_
      refine lv_iload_n hx hb dX7_ways_28 rfl (lv_at hl 1 rfl) ?_
      refine j_ald (3, 0, 0) (5, 0, mm) 4 mm hC hB dX7_ways_29 (jk3 (by omega)) rfl rfl rfl (by omega) (by decide) rfl ?_
      refine j_cvv (11, 0, 0) [.ref (G.2.2.1 (5, 0, mm))] hC hB hl.1 (c_X1_follow l_ G I J O mm (by omega) (by omega) (ecc) (by omega) (hD) (hW)) (cwV 1 hts gX7_ways_X1_follow rfl rfl rfl (by decide +kernel) ⟨by decide, by decide⟩) dX7_ways_30 jk11 rfl rfl rfl rfl (Nat.le_of_ble_eq_true rfl) (fun u_30 H locs hp_30 hB => ?_)
      obtain ⟨x19_30, x27_30, x28_30, x29_30, hx_30, rfl⟩ := hp_30
      have hB : jB G A s_.heap (sr (sr (sr (sr (sr I 26 (upd (I 26) 0 (nI cc))) 19 (x19_30)) 27 (x27_30)) 28 (x28_30)) 29 (x29_30), J, O) H locs := hB
      refine lv_aload_n hx hb dX7_ways_33 rfl (lv_at hl 0 rfl) ?_
      refine j_get (0, 0, 0) 7 (v := .ref (G.2.2.1 (11, 0, 0))) hC hB in_X7 lk_44 dX7_ways_34 jk0 rfl rfl (by decide) rfl ?_
      refine j_getN (11, 0, 0) 5 (v := .ref (G.2.2.1 (21, 29, 0))) hC hB in_X1 ln_215 dX7_ways_37 jk11 rfl rfl (by decide) rfl ?_
      refine lv_iload_n hx hb dX7_ways_40 rfl (lv_at hl 2 rfl) ?_
      refine j_iLd 29 xx hC hB dX7_ways_41 (by decide) rfl (by simp only [lenI_29]; omega) ?_
      refine j_eqi (x := (sr (sr (sr (sr (sr I 26 (upd (I 26) 0 (nI cc))) 19 (x19_30)) 27 (x27_30)) 28 (x28_30)) 29 (x29_30)) 29 xx) (y := x29_30 xx) (sr_sj) ?_
      exact j_iret hC hB dX7_ways_42 (⟨by rw [(foM hcc ecc hx_30).2.2 xx hxx]; simp [waysC, tN, nIc (show mm < 2147483648 by omega), ceF_eq hcc ecc, nIc (show xx < 2147483648 by omega), c_5, c_12], ⟨SCI.sr (SCI.sr (SCI.sr (SCI.sr (SCI.sr (SCI.rf) (sccI (by decide))) scc19) (sccI (by decide))) (sccI (by decide))) (sccI (by decide)), SCJ.rf, rfl⟩⟩)
    · refine lv_iconst (v := (-1 : Int32)) hx hb dX7_ways_15 (by decide) ?_
      exact j_iret hC hB dX7_ways_16 (⟨by simp [waysC, c_5, c_12], ⟨SCI.rf, SCJ.rf, rfl⟩⟩)

set_option maxHeartbeats 4000000 in
set_option maxRecDepth 100000 in
theorem c_X7_reach (l_ : Launch) (G : jG) (I : Nat → Nat → Int32) (J : Nat → Nat → Int64) (O : Nat → Nat → Nat) (man : Int32) {nd : Nat} (hnd : nd ≤ 10) (hD : I 0 0 = nI nd) {nm : Nat} (hnm : nm ≤ 4) (hM : I 0 1 = nI nm) (hW : wfD (I 0) nd) (hWc : ∀ m, m < nm → ∃ c, c < 8 ∧ I 0 (51 + m) = nI c) : jMi l_ G yX7_reach wsX7_reach ({ frames := 7, cells := 0, slots := 0, locals := 165 }) [.ref (G.2.2.1 (0, 0, 0)), .int man] (I, J, O) (fun r u => r = reachC (I 0) nd nm man ∧ SCs (I, J, O) u) := by
  refine jMi_of (cc := cX7_reach) (maxL := 2) (ret := (some .int)) (lv0 := [(0, .ref (G.2.2.1 (0, 0, 0))), (1, .int man)]) (by decide) rfl (Nat.le_of_ble_eq_true rfl) rfl ?_
  intro pg_ ev_ s_ mi_ below meth cd_ A ls hC hB hl
  obtain ⟨hx, hb, hr, hml, hown, hts, hlocks, hK, hA⟩ := id hC
  have lk_44 := hts (.fieldLink RX7 44 "RiddlePrison" "foresight" "LRiddlePrison$Foresight;") (by decide +kernel)
  have lk_10 := hts (.fieldLink RX7 10 "RiddlePrison" "now" "LRiddlePrison$Prison;") (by decide +kernel)
  have ln_121 := (by decide +kernel : Cond.fieldLinkNest RX7 121 "RiddlePrison$Prison" "men" "[LRiddlePrison$Man;" "RiddlePrison" ∈ nsW)
  have in_X7 := (fun w h => List.mem_cons_of_mem _ (List.mem_append_left _ (List.mem_append_left _ (List.mem_append_left _ (List.mem_append_left _ (List.mem_append_right _ h))))) : ∀ w ∈ wsX70, w ∈ wsX7_reach)
  have in_X4 := (fun w h => List.mem_cons_of_mem _ (List.mem_append_left _ (List.mem_append_left _ (List.mem_append_left _ (List.mem_append_right _ h)))) : ∀ w ∈ wsX40, w ∈ wsX7_reach)
  refine lv_aload_n hx hb dX7_reach_0 rfl (lv_at hl 0 rfl) ?_
  refine lv_iload_n hx hb dX7_reach_1 rfl (lv_at hl 1 rfl) ?_
  refine j_cvi (0, 0, 0) [.int man] hC hB hl.1 (c_X7_isMan l_ G I J O man (by omega) (hM)) (cwV 1 hts gX7_reach_X7_isMan rfl rfl rfl (by decide +kernel) ⟨by decide, by decide⟩) dX7_reach_2 jk0 rfl rfl rfl rfl (Nat.le_of_ble_eq_true rfl) (fun r_2 u_2 H locs hp_2 hB => ?_)
  obtain ⟨rfl, rfl⟩ := hp_2
  refine jb_if_ne (tgt := 10) hx hb dX7_reach_5 (by decide) (fun c_5 => ?_) (fun c_5 => ?_)
  · obtain ⟨mm, hmm, rfl⟩ := isB_nat c_5 (by omega)
    obtain ⟨cc, hcc, ecc⟩ := hWc mm hmm
    refine lv_aload_n hx hb dX7_reach_10 rfl (lv_at hl 0 rfl) ?_
    refine j_get (0, 0, 0) 7 (v := .ref (G.2.2.1 (11, 0, 0))) hC hB in_X7 lk_44 dX7_reach_11 jk0 rfl rfl (by decide) rfl ?_
    refine lv_aload_n hx hb dX7_reach_14 rfl (lv_at hl 0 rfl) ?_
    refine j_get (0, 0, 0) 0 (v := .ref (G.2.2.1 (1, 0, 0))) hC hB in_X7 lk_10 dX7_reach_15 jk0 rfl rfl (by decide) rfl ?_
    refine j_getN (1, 0, 0) 1 (v := .ref (G.2.2.1 (3, 0, 0))) hC hB in_X4 ln_121 dX7_reach_18 (jk1 (by omega)) rfl rfl (by decide) rfl ?_
    refine lv_iload_n hx hb dX7_reach_21 rfl (lv_at hl 1 rfl) ?_
    refine j_ald (3, 0, 0) (5, 0, mm) 4 mm hC hB dX7_reach_22 (jk3 (by omega)) rfl rfl rfl (by omega) (by decide) rfl ?_
    refine j_cvv (11, 0, 0) [.ref (G.2.2.1 (5, 0, mm))] hC hB hl.1 (c_X1_follow l_ G I J O mm (by omega) (by omega) (ecc) (by omega) (hD) (hW)) (cwV 1 hts gX7_reach_X1_follow rfl rfl rfl (by decide +kernel) ⟨by decide, by decide⟩) dX7_reach_23 jk11 rfl rfl rfl rfl (Nat.le_of_ble_eq_true rfl) (fun u_23 H locs hp_23 hB => ?_)
    obtain ⟨x19_23, x27_23, x28_23, x29_23, hx_23, rfl⟩ := hp_23
    have hB : jB G A s_.heap (sr (sr (sr (sr (sr I 26 (upd (I 26) 0 (nI cc))) 19 (x19_23)) 27 (x27_23)) 28 (x28_23)) 29 (x29_23), J, O) H locs := hB
    refine lv_aload_n hx hb dX7_reach_26 rfl (lv_at hl 0 rfl) ?_
    refine j_get (0, 0, 0) 7 (v := .ref (G.2.2.1 (11, 0, 0))) hC hB in_X7 lk_44 dX7_reach_27 jk0 rfl rfl (by decide) rfl ?_
    refine j_cvi (11, 0, 0) [] hC hB hl.1 (c_X1_reached l_ G (sr (sr (sr (sr (sr I 26 (upd (I 26) 0 (nI cc))) 19 (x19_23)) 27 (x27_23)) 28 (x28_23)) 29 (x29_23)) J O) (cwV 0 hts gX7_reach_X1_reached rfl rfl rfl (by decide +kernel) ⟨by decide, by decide⟩) dX7_reach_30 jk11 rfl rfl rfl rfl (Nat.le_of_ble_eq_true rfl) (fun r_30 u_30 H locs hp_30 hB => ?_)
    obtain ⟨rfl, rfl⟩ := hp_30
    refine j_eqi (y := rchC (x28_23) 8) (rfl) ?_
    exact j_iret hC hB dX7_reach_33 (⟨by rw [rchC_cong (fun j hj => (foM hcc ecc hx_23).2.1 j hj)]; simp [reachC, tN, nIc (show mm < 2147483648 by omega), ceF_eq hcc ecc, c_5], ⟨SCI.sr (SCI.sr (SCI.sr (SCI.sr (SCI.sr (SCI.rf) (sccI (by decide))) scc19) (sccI (by decide))) (sccI (by decide))) (sccI (by decide)), SCJ.rf, rfl⟩⟩)
  · refine lv_iconst (v := (-1 : Int32)) hx hb dX7_reach_8 (by decide) ?_
    exact j_iret hC hB dX7_reach_9 (⟨by simp [reachC, c_5], ⟨SCI.rf, SCJ.rf, rfl⟩⟩)

set_option maxHeartbeats 4000000 in
set_option maxRecDepth 100000 in
theorem c_X7_round (l_ : Launch) (G : jG) (I : Nat → Nat → Int32) (J : Nat → Nat → Int64) (O : Nat → Nat → Nat) (man cells : Int32) {nd : Nat} (hnd : nd ≤ 10) (hD : I 0 0 = nI nd) {nm : Nat} (hnm : nm ≤ 4) (hM : I 0 1 = nI nm) (hW : wfD (I 0) nd) (hWc : ∀ m, m < nm → ∃ c, c < 8 ∧ I 0 (51 + m) = nI c) : jMi l_ G yX7_round wsX7_round ({ frames := 7, cells := 0, slots := 0, locals := 165 }) [.ref (G.2.2.1 (0, 0, 0)), .int man, .int cells] (I, J, O) (fun r u => r = roundC (I 0) nd nm man cells ∧ SCs (I, J, O) u) := by
  refine jMi_of (cc := cX7_round) (maxL := 3) (ret := (some .int)) (lv0 := [(0, .ref (G.2.2.1 (0, 0, 0))), (1, .int man), (2, .int cells)]) (by decide) rfl (Nat.le_of_ble_eq_true rfl) rfl ?_
  intro pg_ ev_ s_ mi_ below meth cd_ A ls hC hB hl
  obtain ⟨hx, hb, hr, hml, hown, hts, hlocks, hK, hA⟩ := id hC
  have lk_44 := hts (.fieldLink RX7 44 "RiddlePrison" "foresight" "LRiddlePrison$Foresight;") (by decide +kernel)
  have lk_10 := hts (.fieldLink RX7 10 "RiddlePrison" "now" "LRiddlePrison$Prison;") (by decide +kernel)
  have ln_121 := (by decide +kernel : Cond.fieldLinkNest RX7 121 "RiddlePrison$Prison" "men" "[LRiddlePrison$Man;" "RiddlePrison" ∈ nsW)
  have in_X7 := (fun w h => List.mem_cons_of_mem _ (List.mem_append_left _ (List.mem_append_left _ (List.mem_append_left _ (List.mem_append_left _ (List.mem_append_right _ h))))) : ∀ w ∈ wsX70, w ∈ wsX7_round)
  have in_X4 := (fun w h => List.mem_cons_of_mem _ (List.mem_append_left _ (List.mem_append_left _ (List.mem_append_left _ (List.mem_append_right _ h)))) : ∀ w ∈ wsX40, w ∈ wsX7_round)
  refine lv_aload_n hx hb dX7_round_0 rfl (lv_at hl 0 rfl) ?_
  refine lv_iload_n hx hb dX7_round_1 rfl (lv_at hl 1 rfl) ?_
  refine j_cvi (0, 0, 0) [.int man] hC hB hl.1 (c_X7_isMan l_ G I J O man (by omega) (hM)) (cwV 1 hts gX7_round_X7_isMan rfl rfl rfl (by decide +kernel) ⟨by decide, by decide⟩) dX7_round_2 jk0 rfl rfl rfl rfl (Nat.le_of_ble_eq_true rfl) (fun r_2 u_2 H locs hp_2 hB => ?_)
  obtain ⟨rfl, rfl⟩ := hp_2
  refine jb_if_eq (tgt := 18) hx hb dX7_round_5 (by decide) (fun c_5 => ?_) (fun c_5 => ?_)
  · refine lv_iconst (v := (-1 : Int32)) hx hb dX7_round_18 (by decide) ?_
    exact j_iret hC hB dX7_round_19 (⟨by simp [roundC, c_5], ⟨SCI.rf, SCJ.rf, rfl⟩⟩)
  · obtain ⟨mm, hmm, rfl⟩ := isB_nat c_5 (by omega)
    obtain ⟨cc, hcc, ecc⟩ := hWc mm hmm
    refine lv_iload_n hx hb dX7_round_8 rfl (lv_at hl 2 rfl) ?_
    refine lv_sipush (v := nI 256) hx hb dX7_round_9 (by decide) ?_
    refine j_csi [.int cells, .int (nI 256)] hC hB hl.1 (c_X7_isBelow l_ G I J O cells 256 (by omega)) (va_cwS 2 hts gX7_round_X7_isBelow rfl rfl rfl (by decide +kernel) ⟨by decide, by decide⟩) dX7_round_12 rfl rfl (Nat.le_of_ble_eq_true rfl) (fun r_12 u_12 H locs hp_12 hB => ?_)
    obtain ⟨rfl, rfl⟩ := hp_12
    refine jb_if_ne (tgt := 20) hx hb dX7_round_15 (by decide) (fun c_15 => ?_) (fun c_15 => ?_)
    · obtain ⟨xx, hxx, rfl⟩ := isB_nat c_15 (by omega)
      refine lv_aload_n hx hb dX7_round_20 rfl (lv_at hl 0 rfl) ?_
      refine j_get (0, 0, 0) 7 (v := .ref (G.2.2.1 (11, 0, 0))) hC hB in_X7 lk_44 dX7_round_21 jk0 rfl rfl (by decide) rfl ?_
      refine lv_aload_n hx hb dX7_round_24 rfl (lv_at hl 0 rfl) ?_
      refine j_get (0, 0, 0) 0 (v := .ref (G.2.2.1 (1, 0, 0))) hC hB in_X7 lk_10 dX7_round_25 jk0 rfl rfl (by decide) rfl ?_
      refine j_getN (1, 0, 0) 1 (v := .ref (G.2.2.1 (3, 0, 0))) hC hB in_X4 ln_121 dX7_round_28 (jk1 (by omega)) rfl rfl (by decide) rfl ?_
      refine lv_iload_n hx hb dX7_round_31 rfl (lv_at hl 1 rfl) ?_
      refine j_ald (3, 0, 0) (5, 0, mm) 4 mm hC hB dX7_round_32 (jk3 (by omega)) rfl rfl rfl (by omega) (by decide) rfl ?_
      refine j_cvv (11, 0, 0) [.ref (G.2.2.1 (5, 0, mm))] hC hB hl.1 (c_X1_follow l_ G I J O mm (by omega) (by omega) (ecc) (by omega) (hD) (hW)) (cwV 1 hts gX7_round_X1_follow rfl rfl rfl (by decide +kernel) ⟨by decide, by decide⟩) dX7_round_33 jk11 rfl rfl rfl rfl (Nat.le_of_ble_eq_true rfl) (fun u_33 H locs hp_33 hB => ?_)
      obtain ⟨x19_33, x27_33, x28_33, x29_33, hx_33, rfl⟩ := hp_33
      have hB : jB G A s_.heap (sr (sr (sr (sr (sr I 26 (upd (I 26) 0 (nI cc))) 19 (x19_33)) 27 (x27_33)) 28 (x28_33)) 29 (x29_33), J, O) H locs := hB
      refine lv_aload_n hx hb dX7_round_36 rfl (lv_at hl 0 rfl) ?_
      refine j_get (0, 0, 0) 7 (v := .ref (G.2.2.1 (11, 0, 0))) hC hB in_X7 lk_44 dX7_round_37 jk0 rfl rfl (by decide) rfl ?_
      refine lv_iload_n hx hb dX7_round_40 rfl (lv_at hl 2 rfl) ?_
      refine j_cvi (11, 0, 0) [.int (nI xx)] hC hB hl.1 (c_X1_shortestRound l_ G (sr (sr (sr (sr (sr I 26 (upd (I 26) 0 (nI cc))) 19 (x19_33)) 27 (x27_33)) 28 (x28_33)) 29 (x29_33)) J O xx ((opM (I 0) mm nd)) (fun j hj => (foM hcc ecc hx_33).1 j hj) (by omega) (by omega) ((sr_nj (show (26 : Nat) ≠ 29 by omega)).trans ((sr_nj (show (26 : Nat) ≠ 28 by omega)).trans ((sr_nj (show (26 : Nat) ≠ 27 by omega)).trans ((sr_nj (show (26 : Nat) ≠ 19 by omega)).trans (sr_sj.trans (pk_us)))))) (by omega) ((sr_nj (show (0 : Nat) ≠ 29 by omega)).trans ((sr_nj (show (0 : Nat) ≠ 28 by omega)).trans ((sr_nj (show (0 : Nat) ≠ 27 by omega)).trans ((sr_nj (show (0 : Nat) ≠ 19 by omega)).trans ((sr_nj (show (0 : Nat) ≠ 26 by omega)).trans (hD)))))) (hW)) (cwV 1 hts gX7_round_X1_shortestRound rfl rfl rfl (by decide +kernel) ⟨by decide, by decide⟩) dX7_round_41 jk11 rfl rfl rfl rfl (Nat.le_of_ble_eq_true rfl) (fun r_41 u_41 H locs hp_41 hB => ?_)
      obtain ⟨rfl, x31_41, rfl⟩ := hp_41
      have hB : jB G A s_.heap (sr (sr (sr (sr (sr (sr I 26 (upd (I 26) 0 (nI cc))) 19 (x19_33)) 27 (x27_33)) 28 (x28_33)) 29 (x29_33)) 31 (x31_41), J, O) H locs := hB
      refine j_eqi (y := rdC (I 0) (opM (I 0) mm nd) xx nd cc) (rfl) ?_
      exact j_iret hC hB dX7_round_44 (⟨by simp [roundC, tN, nIc (show mm < 2147483648 by omega), ceF_eq hcc ecc, nIc (show xx < 2147483648 by omega), c_5, c_15], ⟨SCI.sr (SCI.sr (SCI.sr (SCI.sr (SCI.sr (SCI.sr (SCI.rf) (sccI (by decide))) scc19) (sccI (by decide))) (sccI (by decide))) (sccI (by decide))) (sccI (by decide)), SCJ.rf, rfl⟩⟩)
    · refine lv_iconst (v := (-1 : Int32)) hx hb dX7_round_18 (by decide) ?_
      exact j_iret hC hB dX7_round_19 (⟨by simp [roundC, c_5, c_15], ⟨SCI.rf, SCJ.rf, rfl⟩⟩)

set_option maxHeartbeats 4000000 in
set_option maxRecDepth 100000 in
theorem c_X7_cut (l_ : Launch) (G : jG) (I : Nat → Nat → Int32) (J : Nat → Nat → Int64) (O : Nat → Nat → Nat) (man cell what : Int32) {nd : Nat} (hnd : nd ≤ 10) (hD : I 0 0 = nI nd) {nm : Nat} (hnm : nm ≤ 4) (hM : I 0 1 = nI nm) (hW : wfD (I 0) nd) (hWc : ∀ m, m < nm → ∃ c, c < 8 ∧ I 0 (51 + m) = nI c) : jMi l_ G yX7_cut wsX7_cut ({ frames := 7, cells := 0, slots := 0, locals := 165 }) [.ref (G.2.2.1 (0, 0, 0)), .int man, .int cell, .int what] (I, J, O) (fun r u => r = cuC (I 0) nd nm man cell what ∧ SCs (I, J, O) u) := by
  refine jMi_of (cc := cX7_cut) (maxL := 5) (ret := (some .int)) (lv0 := [(0, .ref (G.2.2.1 (0, 0, 0))), (1, .int man), (2, .int cell), (3, .int what)]) (by decide) rfl (Nat.le_of_ble_eq_true rfl) rfl ?_
  intro pg_ ev_ s_ mi_ below meth cd_ A ls hC hB hl
  obtain ⟨hx, hb, hr, hml, hown, hts, hlocks, hK, hA⟩ := id hC
  have lk_44 := hts (.fieldLink RX7 44 "RiddlePrison" "foresight" "LRiddlePrison$Foresight;") (by decide +kernel)
  have lk_10 := hts (.fieldLink RX7 10 "RiddlePrison" "now" "LRiddlePrison$Prison;") (by decide +kernel)
  have ln_121 := (by decide +kernel : Cond.fieldLinkNest RX7 121 "RiddlePrison$Prison" "men" "[LRiddlePrison$Man;" "RiddlePrison" ∈ nsW)
  have in_X7 := (fun w h => List.mem_cons_of_mem _ (List.mem_append_left _ (List.mem_append_left _ (List.mem_append_left _ (List.mem_append_left _ (List.mem_append_right _ h))))) : ∀ w ∈ wsX70, w ∈ wsX7_cut)
  have in_X4 := (fun w h => List.mem_cons_of_mem _ (List.mem_append_left _ (List.mem_append_left _ (List.mem_append_left _ (List.mem_append_right _ h)))) : ∀ w ∈ wsX40, w ∈ wsX7_cut)
  refine lv_aload_n hx hb dX7_cut_0 rfl (lv_at hl 0 rfl) ?_
  refine lv_iload_n hx hb dX7_cut_1 rfl (lv_at hl 1 rfl) ?_
  refine j_cvi (0, 0, 0) [.int man] hC hB hl.1 (c_X7_isMan l_ G I J O man (by omega) (hM)) (cwV 1 hts gX7_cut_X7_isMan rfl rfl rfl (by decide +kernel) ⟨by decide, by decide⟩) dX7_cut_2 jk0 rfl rfl rfl rfl (Nat.le_of_ble_eq_true rfl) (fun r_2 u_2 H locs hp_2 hB => ?_)
  obtain ⟨rfl, rfl⟩ := hp_2
  refine jb_if_eq (tgt := 23) hx hb dX7_cut_5 (by decide) (fun c_5 => ?_) (fun c_5 => ?_)
  · refine lv_iconst (v := (-1 : Int32)) hx hb dX7_cut_23 (by decide) ?_
    exact j_iret hC hB dX7_cut_24 (⟨by simp [cuC, c_5], ⟨SCI.rf, SCJ.rf, rfl⟩⟩)
  · obtain ⟨mm, hmm, rfl⟩ := isB_nat c_5 (by omega)
    obtain ⟨cc, hcc, ecc⟩ := hWc mm hmm
    refine lv_iload_n hx hb dX7_cut_8 rfl (lv_at hl 2 rfl) ?_
    refine j_csi [.int cell] hC hB hl.1 (c_X7_isCell l_ G I J O cell) (va_cwS 1 hts gX7_cut_X7_isCell rfl rfl rfl (by decide +kernel) ⟨by decide, by decide⟩) dX7_cut_9 rfl rfl (Nat.le_of_ble_eq_true rfl) (fun r_9 u_9 H locs hp_9 hB => ?_)
    obtain ⟨rfl, rfl⟩ := hp_9
    refine jb_if_eq (tgt := 23) hx hb dX7_cut_12 (by decide) (fun c_12 => ?_) (fun c_12 => ?_)
    · refine lv_iconst (v := (-1 : Int32)) hx hb dX7_cut_23 (by decide) ?_
      exact j_iret hC hB dX7_cut_24 (⟨by simp [cuC, c_5, c_12], ⟨SCI.rf, SCJ.rf, rfl⟩⟩)
    · obtain ⟨xx, hxx, rfl⟩ := isB_nat c_12 (by omega)
      refine lv_iload_n hx hb dX7_cut_15 rfl (lv_at hl 3 rfl) ?_
      refine lv_iconst (v := nI 2) hx hb dX7_cut_16 (by decide) ?_
      refine j_csi [.int what, .int (nI 2)] hC hB hl.1 (c_X7_isBelow l_ G I J O what 2 (by omega)) (va_cwS 2 hts gX7_cut_X7_isBelow rfl rfl rfl (by decide +kernel) ⟨by decide, by decide⟩) dX7_cut_17 rfl rfl (Nat.le_of_ble_eq_true rfl) (fun r_17 u_17 H locs hp_17 hB => ?_)
      obtain ⟨rfl, rfl⟩ := hp_17
      refine jb_if_ne (tgt := 25) hx hb dX7_cut_20 (by decide) (fun c_20 => ?_) (fun c_20 => ?_)
      · obtain ⟨ww, hww, rfl⟩ := isB_nat c_20 (by omega)
        refine lv_aload_n hx hb dX7_cut_25 rfl (lv_at hl 0 rfl) ?_
        refine j_get (0, 0, 0) 7 (v := .ref (G.2.2.1 (11, 0, 0))) hC hB in_X7 lk_44 dX7_cut_26 jk0 rfl rfl (by decide) rfl ?_
        refine lv_aload_n hx hb dX7_cut_29 rfl (lv_at hl 0 rfl) ?_
        refine j_get (0, 0, 0) 0 (v := .ref (G.2.2.1 (1, 0, 0))) hC hB in_X7 lk_10 dX7_cut_30 jk0 rfl rfl (by decide) rfl ?_
        refine j_getN (1, 0, 0) 1 (v := .ref (G.2.2.1 (3, 0, 0))) hC hB in_X4 ln_121 dX7_cut_33 (jk1 (by omega)) rfl rfl (by decide) rfl ?_
        refine lv_iload_n hx hb dX7_cut_36 rfl (lv_at hl 1 rfl) ?_
        refine j_ald (3, 0, 0) (5, 0, mm) 4 mm hC hB dX7_cut_37 (jk3 (by omega)) rfl rfl rfl (by omega) (by decide) rfl ?_
        refine j_cvv (11, 0, 0) [.ref (G.2.2.1 (5, 0, mm))] hC hB hl.1 (c_X1_follow l_ G I J O mm (by omega) (by omega) (ecc) (by omega) (hD) (hW)) (cwV 1 hts gX7_cut_X1_follow rfl rfl rfl (by decide +kernel) ⟨by decide, by decide⟩) dX7_cut_38 jk11 rfl rfl rfl rfl (Nat.le_of_ble_eq_true rfl) (fun u_38 H locs hp_38 hB => ?_)
        obtain ⟨x19_38, x27_38, x28_38, x29_38, hx_38, rfl⟩ := hp_38
        have hB : jB G A s_.heap (sr (sr (sr (sr (sr I 26 (upd (I 26) 0 (nI cc))) 19 (x19_38)) 27 (x27_38)) 28 (x28_38)) 29 (x29_38), J, O) H locs := hB
        refine lv_aload_n hx hb dX7_cut_41 rfl (lv_at hl 0 rfl) ?_
        refine j_get (0, 0, 0) 7 (v := .ref (G.2.2.1 (11, 0, 0))) hC hB in_X7 lk_44 dX7_cut_42 jk0 rfl rfl (by decide) rfl ?_
        refine lv_iload_n hx hb dX7_cut_45 rfl (lv_at hl 2 rfl) ?_
        refine j_cvi (11, 0, 0) [.int (nI xx)] hC hB hl.1 (c_X1_leastCut l_ G (sr (sr (sr (sr (sr I 26 (upd (I 26) 0 (nI cc))) 19 (x19_38)) 27 (x27_38)) 28 (x28_38)) 29 (x29_38)) J O xx ((opM (I 0) mm nd)) (fun j hj => (foM hcc ecc hx_38).1 j hj) (by omega) (by omega) ((sr_nj (show (26 : Nat) ≠ 29 by omega)).trans ((sr_nj (show (26 : Nat) ≠ 28 by omega)).trans ((sr_nj (show (26 : Nat) ≠ 27 by omega)).trans ((sr_nj (show (26 : Nat) ≠ 19 by omega)).trans (sr_sj.trans (pk_us)))))) (by omega) ((sr_nj (show (0 : Nat) ≠ 29 by omega)).trans ((sr_nj (show (0 : Nat) ≠ 28 by omega)).trans ((sr_nj (show (0 : Nat) ≠ 27 by omega)).trans ((sr_nj (show (0 : Nat) ≠ 19 by omega)).trans ((sr_nj (show (0 : Nat) ≠ 26 by omega)).trans (hD)))))) (hW)) (cwV 1 hts gX7_cut_X1_leastCut rfl rfl rfl (by decide +kernel) ⟨by decide, by decide⟩) dX7_cut_46 jk11 rfl rfl rfl rfl (Nat.le_of_ble_eq_true rfl) (fun r_46 u_46 H locs hp_46 hB => ?_)
        obtain ⟨hr_46, x28_46, x29_46, rfl⟩ := hp_46
        try simp only [show (sr (sr (sr (sr (sr I 26 (upd (I 26) 0 (nI cc))) 19 (x19_38)) 27 (x27_38)) 28 (x28_38)) 29 (x29_38)) 0 = I 0 from (sr_ne (show (0 : Nat) ≠ 29 by omega)).trans ((sr_ne (show (0 : Nat) ≠ 28 by omega)).trans ((sr_ne (show (0 : Nat) ≠ 27 by omega)).trans ((sr_ne (show (0 : Nat) ≠ 19 by omega)).trans ((sr_ne (show (0 : Nat) ≠ 26 by omega))))))] at hr_46
        try simp only [show (sr (sr (sr (sr (sr I 26 (upd (I 26) 0 (nI cc))) 19 (x19_38)) 27 (x27_38)) 28 (x28_38)) 29 (x29_38)) 0 = I 0 from (sr_ne (show (0 : Nat) ≠ 29 by omega)).trans ((sr_ne (show (0 : Nat) ≠ 28 by omega)).trans ((sr_ne (show (0 : Nat) ≠ 27 by omega)).trans ((sr_ne (show (0 : Nat) ≠ 19 by omega)).trans ((sr_ne (show (0 : Nat) ≠ 26 by omega))))))] at hB
        have hB : jB G A s_.heap (sr (sr (sr (sr (sr I 26 (upd (I 26) 0 (nI cc))) 19 (x19_38)) 27 (x27_38)) 28 (x28_46)) 29 (x29_46), J, O) H locs := by (rw [show sr (sr (sr (sr (sr I 26 (upd (I 26) 0 (nI cc))) 19 (x19_38)) 27 (x27_38)) 28 (x28_46)) 29 (x29_46) = sr (sr (sr (sr (sr (sr (sr I 26 (upd (I 26) 0 (nI cc))) 19 (x19_38)) 27 (x27_38)) 28 (x28_38)) 29 (x29_38)) 28 (x28_46)) 29 (x29_46) from by funext a; simp +decide only [sr]; (repeat' split) <;> first | rfl | (exfalso; omega) | (subst_vars; rfl)]; exact hB)
        refine j_eqi (y := lcC (I 0) (opM (I 0) mm nd) nd cc xx) hr_46 ?_
        refine lv_istore (lv' := [(4, .int (lcC (I 0) (opM (I 0) mm nd) nd cc xx)), (0, .ref (G.2.2.1 (0, 0, 0))), (1, .int (nI mm)), (2, .int (nI xx)), (3, .int (nI ww))]) hx hb dX7_cut_49 hl (by decide) rfl (fun ls hl => ?_)
        refine lv_iload hx hb dX7_cut_51 (lv_at hl 0 rfl) ?_
        refine lv_if_lt (tgt := 61) hx hb dX7_cut_53 (by decide) (fun c_53 => ?_) (fun c_53 => ?_)
        · refine lv_iload hx hb dX7_cut_61 (lv_at hl 0 rfl) ?_
          refine lv_goto (tgt := 71) hx hb dX7_cut_63 (by decide) ?_
          exact j_iret hC hB dX7_cut_71 (⟨by simp [cuC, tN, nIc (show mm < 2147483648 by omega), ceF_eq hcc ecc, nIc (show xx < 2147483648 by omega), nIq (show ww < 2147483648 by omega) (show 1 < 2147483648 by omega), c_5, c_12, c_20, c_53], ⟨SCI.sr (SCI.sr (SCI.sr (SCI.sr (SCI.sr (SCI.rf) (sccI (by decide))) scc19) (sccI (by decide))) (sccI (by decide))) (sccI (by decide)), SCJ.rf, rfl⟩⟩)
        · refine lv_iload_n hx hb dX7_cut_56 rfl (lv_at hl 4 rfl) ?_
          refine lv_iconst (v := nI 1) hx hb dX7_cut_57 (by decide) ?_
          refine jn_icmp_ne (tgt := 66) hx hb dX7_cut_58 (by decide) (by omega) (by omega) (fun c_58 => ?_) (fun c_58 => ?_)
          · refine lv_iload hx hb dX7_cut_66 (lv_at hl 0 rfl) ?_
            refine j_csi [.int (lcC (I 0) (opM (I 0) mm nd) nd cc xx)] hC hB hl.1 (c_J6_bitCount_0f7a4 l_ G (sr (sr (sr (sr (sr I 26 (upd (I 26) 0 (nI cc))) 19 (x19_38)) 27 (x27_38)) 28 (x28_46)) 29 (x29_46)) J O (lcC (I 0) (opM (I 0) mm nd) nd cc xx)) (va_cwS 1 hts gX7_cut_J6_bitCount_0f7a4 rfl rfl rfl (by decide +kernel) ⟨by decide, by decide⟩) dX7_cut_68 rfl rfl (Nat.le_of_ble_eq_true rfl) (fun r_68 u_68 H locs hp_68 hB => ?_)
            obtain ⟨rfl, rfl⟩ := hp_68
            refine j_eqi (y := bcJ (lcC (I 0) (opM (I 0) mm nd) nd cc xx)) (rfl) ?_
            exact j_iret hC hB dX7_cut_71 (⟨by simp [cuC, tN, nIc (show mm < 2147483648 by omega), ceF_eq hcc ecc, nIc (show xx < 2147483648 by omega), nIq (show ww < 2147483648 by omega) (show 1 < 2147483648 by omega), c_5, c_12, c_20, c_53, c_58], ⟨SCI.sr (SCI.sr (SCI.sr (SCI.sr (SCI.sr (SCI.rf) (sccI (by decide))) scc19) (sccI (by decide))) (sccI (by decide))) (sccI (by decide)), SCJ.rf, rfl⟩⟩)
          · refine lv_iload hx hb dX7_cut_61 (lv_at hl 0 rfl) ?_
            refine lv_goto (tgt := 71) hx hb dX7_cut_63 (by decide) ?_
            exact j_iret hC hB dX7_cut_71 (⟨by simp [cuC, tN, nIc (show mm < 2147483648 by omega), ceF_eq hcc ecc, nIc (show xx < 2147483648 by omega), nIq (show ww < 2147483648 by omega) (show 1 < 2147483648 by omega), c_5, c_12, c_20, c_53, eq_true c_58], ⟨SCI.sr (SCI.sr (SCI.sr (SCI.sr (SCI.sr (SCI.rf) (sccI (by decide))) scc19) (sccI (by decide))) (sccI (by decide))) (sccI (by decide)), SCJ.rf, rfl⟩⟩)
      · refine lv_iconst (v := (-1 : Int32)) hx hb dX7_cut_23 (by decide) ?_
        exact j_iret hC hB dX7_cut_24 (⟨by simp [cuC, c_5, c_12, c_20], ⟨SCI.rf, SCJ.rf, rfl⟩⟩)

set_option maxHeartbeats 4000000 in
set_option maxRecDepth 100000 in
theorem c_X7_bridges (l_ : Launch) (G : jG) (I : Nat → Nat → Int32) (J : Nat → Nat → Int64) (O : Nat → Nat → Nat) (man cell : Int32) {nd : Nat} (hnd : nd ≤ 10) (hD : I 0 0 = nI nd) {nm : Nat} (hnm : nm ≤ 4) (hM : I 0 1 = nI nm) (hW : wfD (I 0) nd) (hWc : ∀ m, m < nm → ∃ c, c < 8 ∧ I 0 (51 + m) = nI c) : jMi l_ G yX7_bridges wsX7_bridges ({ frames := 7, cells := 0, slots := 0, locals := 165 }) [.ref (G.2.2.1 (0, 0, 0)), .int man, .int cell] (I, J, O) (fun r u => r = brgC (I 0) nd nm man cell ∧ SCs (I, J, O) u) := by
  refine jMi_of (cc := cX7_bridges) (maxL := 3) (ret := (some .int)) (lv0 := [(0, .ref (G.2.2.1 (0, 0, 0))), (1, .int man), (2, .int cell)]) (by decide) rfl (Nat.le_of_ble_eq_true rfl) rfl ?_
  intro pg_ ev_ s_ mi_ below meth cd_ A ls hC hB hl
  obtain ⟨hx, hb, hr, hml, hown, hts, hlocks, hK, hA⟩ := id hC
  have lk_44 := hts (.fieldLink RX7 44 "RiddlePrison" "foresight" "LRiddlePrison$Foresight;") (by decide +kernel)
  have lk_10 := hts (.fieldLink RX7 10 "RiddlePrison" "now" "LRiddlePrison$Prison;") (by decide +kernel)
  have ln_121 := (by decide +kernel : Cond.fieldLinkNest RX7 121 "RiddlePrison$Prison" "men" "[LRiddlePrison$Man;" "RiddlePrison" ∈ nsW)
  have in_X7 := (fun w h => List.mem_cons_of_mem _ (List.mem_append_left _ (List.mem_append_left _ (List.mem_append_left _ (List.mem_append_left _ (List.mem_append_right _ h))))) : ∀ w ∈ wsX70, w ∈ wsX7_bridges)
  have in_X4 := (fun w h => List.mem_cons_of_mem _ (List.mem_append_left _ (List.mem_append_left _ (List.mem_append_left _ (List.mem_append_right _ h)))) : ∀ w ∈ wsX40, w ∈ wsX7_bridges)
  refine lv_aload_n hx hb dX7_bridges_0 rfl (lv_at hl 0 rfl) ?_
  refine lv_iload_n hx hb dX7_bridges_1 rfl (lv_at hl 1 rfl) ?_
  refine j_cvi (0, 0, 0) [.int man] hC hB hl.1 (c_X7_isMan l_ G I J O man (by omega) (hM)) (cwV 1 hts gX7_bridges_X7_isMan rfl rfl rfl (by decide +kernel) ⟨by decide, by decide⟩) dX7_bridges_2 jk0 rfl rfl rfl rfl (Nat.le_of_ble_eq_true rfl) (fun r_2 u_2 H locs hp_2 hB => ?_)
  obtain ⟨rfl, rfl⟩ := hp_2
  refine jb_if_eq (tgt := 15) hx hb dX7_bridges_5 (by decide) (fun c_5 => ?_) (fun c_5 => ?_)
  · refine lv_iconst (v := (-1 : Int32)) hx hb dX7_bridges_15 (by decide) ?_
    exact j_iret hC hB dX7_bridges_16 (⟨by simp [brgC, c_5], ⟨SCI.rf, SCJ.rf, rfl⟩⟩)
  · obtain ⟨mm, hmm, rfl⟩ := isB_nat c_5 (by omega)
    obtain ⟨cc, hcc, ecc⟩ := hWc mm hmm
    refine lv_iload_n hx hb dX7_bridges_8 rfl (lv_at hl 2 rfl) ?_
    refine j_csi [.int cell] hC hB hl.1 (c_X7_isCell l_ G I J O cell) (va_cwS 1 hts gX7_bridges_X7_isCell rfl rfl rfl (by decide +kernel) ⟨by decide, by decide⟩) dX7_bridges_9 rfl rfl (Nat.le_of_ble_eq_true rfl) (fun r_9 u_9 H locs hp_9 hB => ?_)
    obtain ⟨rfl, rfl⟩ := hp_9
    refine jb_if_ne (tgt := 17) hx hb dX7_bridges_12 (by decide) (fun c_12 => ?_) (fun c_12 => ?_)
    · obtain ⟨xx, hxx, rfl⟩ := isB_nat c_12 (by omega)
      refine lv_aload_n hx hb dX7_bridges_17 rfl (lv_at hl 0 rfl) ?_
      refine j_get (0, 0, 0) 7 (v := .ref (G.2.2.1 (11, 0, 0))) hC hB in_X7 lk_44 dX7_bridges_18 jk0 rfl rfl (by decide) rfl ?_
      refine lv_aload_n hx hb dX7_bridges_21 rfl (lv_at hl 0 rfl) ?_
      refine j_get (0, 0, 0) 0 (v := .ref (G.2.2.1 (1, 0, 0))) hC hB in_X7 lk_10 dX7_bridges_22 jk0 rfl rfl (by decide) rfl ?_
      refine j_getN (1, 0, 0) 1 (v := .ref (G.2.2.1 (3, 0, 0))) hC hB in_X4 ln_121 dX7_bridges_25 (jk1 (by omega)) rfl rfl (by decide) rfl ?_
      refine lv_iload_n hx hb dX7_bridges_28 rfl (lv_at hl 1 rfl) ?_
      refine j_ald (3, 0, 0) (5, 0, mm) 4 mm hC hB dX7_bridges_29 (jk3 (by omega)) rfl rfl rfl (by omega) (by decide) rfl ?_
      refine j_cvv (11, 0, 0) [.ref (G.2.2.1 (5, 0, mm))] hC hB hl.1 (c_X1_follow l_ G I J O mm (by omega) (by omega) (ecc) (by omega) (hD) (hW)) (cwV 1 hts gX7_bridges_X1_follow rfl rfl rfl (by decide +kernel) ⟨by decide, by decide⟩) dX7_bridges_30 jk11 rfl rfl rfl rfl (Nat.le_of_ble_eq_true rfl) (fun u_30 H locs hp_30 hB => ?_)
      obtain ⟨x19_30, x27_30, x28_30, x29_30, hx_30, rfl⟩ := hp_30
      have hB : jB G A s_.heap (sr (sr (sr (sr (sr I 26 (upd (I 26) 0 (nI cc))) 19 (x19_30)) 27 (x27_30)) 28 (x28_30)) 29 (x29_30), J, O) H locs := hB
      refine lv_aload_n hx hb dX7_bridges_33 rfl (lv_at hl 0 rfl) ?_
      refine j_get (0, 0, 0) 7 (v := .ref (G.2.2.1 (11, 0, 0))) hC hB in_X7 lk_44 dX7_bridges_34 jk0 rfl rfl (by decide) rfl ?_
      refine lv_iload_n hx hb dX7_bridges_37 rfl (lv_at hl 2 rfl) ?_
      refine j_cvi (11, 0, 0) [.int (nI xx)] hC hB hl.1 (c_X1_bridgesTo l_ G (sr (sr (sr (sr (sr I 26 (upd (I 26) 0 (nI cc))) 19 (x19_30)) 27 (x27_30)) 28 (x28_30)) 29 (x29_30)) J O xx ((opM (I 0) mm nd)) (fun j hj => (foM hcc ecc hx_30).1 j hj) (by omega) (by omega) ((sr_nj (show (26 : Nat) ≠ 29 by omega)).trans ((sr_nj (show (26 : Nat) ≠ 28 by omega)).trans ((sr_nj (show (26 : Nat) ≠ 27 by omega)).trans ((sr_nj (show (26 : Nat) ≠ 19 by omega)).trans (sr_sj.trans (pk_us)))))) (by omega) ((sr_nj (show (0 : Nat) ≠ 29 by omega)).trans ((sr_nj (show (0 : Nat) ≠ 28 by omega)).trans ((sr_nj (show (0 : Nat) ≠ 27 by omega)).trans ((sr_nj (show (0 : Nat) ≠ 19 by omega)).trans ((sr_nj (show (0 : Nat) ≠ 26 by omega)).trans (hD)))))) (hW)) (cwV 1 hts gX7_bridges_X1_bridgesTo rfl rfl rfl (by decide +kernel) ⟨by decide, by decide⟩) dX7_bridges_38 jk11 rfl rfl rfl rfl (Nat.le_of_ble_eq_true rfl) (fun r_38 u_38 H locs hp_38 hB => ?_)
      obtain ⟨hr_38, x28_38, x29_38, rfl⟩ := hp_38
      try simp only [show (sr (sr (sr (sr (sr I 26 (upd (I 26) 0 (nI cc))) 19 (x19_30)) 27 (x27_30)) 28 (x28_30)) 29 (x29_30)) 0 = I 0 from (sr_ne (show (0 : Nat) ≠ 29 by omega)).trans ((sr_ne (show (0 : Nat) ≠ 28 by omega)).trans ((sr_ne (show (0 : Nat) ≠ 27 by omega)).trans ((sr_ne (show (0 : Nat) ≠ 19 by omega)).trans ((sr_ne (show (0 : Nat) ≠ 26 by omega)))))), show (sr (sr (sr (sr (sr I 26 (upd (I 26) 0 (nI cc))) 19 (x19_30)) 27 (x27_30)) 28 (x28_30)) 29 (x29_30)) 28 = x28_30 from (sr_ne (show (28 : Nat) ≠ 29 by omega)).trans (sr_self)] at hr_38
      try simp only [show (sr (sr (sr (sr (sr I 26 (upd (I 26) 0 (nI cc))) 19 (x19_30)) 27 (x27_30)) 28 (x28_30)) 29 (x29_30)) 0 = I 0 from (sr_ne (show (0 : Nat) ≠ 29 by omega)).trans ((sr_ne (show (0 : Nat) ≠ 28 by omega)).trans ((sr_ne (show (0 : Nat) ≠ 27 by omega)).trans ((sr_ne (show (0 : Nat) ≠ 19 by omega)).trans ((sr_ne (show (0 : Nat) ≠ 26 by omega)))))), show (sr (sr (sr (sr (sr I 26 (upd (I 26) 0 (nI cc))) 19 (x19_30)) 27 (x27_30)) 28 (x28_30)) 29 (x29_30)) 28 = x28_30 from (sr_ne (show (28 : Nat) ≠ 29 by omega)).trans (sr_self)] at hB
      have hB : jB G A s_.heap (sr (sr (sr (sr (sr I 26 (upd (I 26) 0 (nI cc))) 19 (x19_30)) 27 (x27_30)) 28 (x28_38)) 29 (x29_38), J, O) H locs := by (rw [show sr (sr (sr (sr (sr I 26 (upd (I 26) 0 (nI cc))) 19 (x19_30)) 27 (x27_30)) 28 (x28_38)) 29 (x29_38) = sr (sr (sr (sr (sr (sr (sr I 26 (upd (I 26) 0 (nI cc))) 19 (x19_30)) 27 (x27_30)) 28 (x28_30)) 29 (x29_30)) 28 (x28_38)) 29 (x29_38) from by funext a; simp +decide only [sr]; (repeat' split) <;> first | rfl | (exfalso; omega) | (subst_vars; rfl)]; exact hB)
      refine j_eqi (y := brC (I 0) (opM (I 0) mm nd) nd cc xx (x28_30 xx)) hr_38 ?_
      exact j_iret hC hB dX7_bridges_41 (⟨by rw [(foM hcc ecc hx_30).2.1 xx hxx]; simp [brgC, tN, nIc (show mm < 2147483648 by omega), ceF_eq hcc ecc, nIc (show xx < 2147483648 by omega), c_5, c_12], ⟨SCI.sr (SCI.sr (SCI.sr (SCI.sr (SCI.sr (SCI.rf) (sccI (by decide))) scc19) (sccI (by decide))) (sccI (by decide))) (sccI (by decide)), SCJ.rf, rfl⟩⟩)
    · refine lv_iconst (v := (-1 : Int32)) hx hb dX7_bridges_15 (by decide) ?_
      exact j_iret hC hB dX7_bridges_16 (⟨by simp [brgC, c_5, c_12], ⟨SCI.rf, SCJ.rf, rfl⟩⟩)

set_option maxHeartbeats 4000000 in
set_option maxRecDepth 100000 in
theorem c_X7_hunt (l_ : Launch) (G : jG) (I : Nat → Nat → Int32) (J : Nat → Nat → Int64) (O : Nat → Nat → Nat) (man cell n : Int32) {nd : Nat} (hnd : nd ≤ 10) (hD : I 0 0 = nI nd) {nm : Nat} (hnm : nm ≤ 4) (hM : I 0 1 = nI nm) (hW : wfD (I 0) nd) (hWc : ∀ m, m < nm → ∃ c, c < 8 ∧ I 0 (51 + m) = nI c) : jMi l_ G yX7_hunt wsX7_hunt ({ frames := 7, cells := 0, slots := 0, locals := 173 }) [.ref (G.2.2.1 (0, 0, 0)), .int man, .int cell, .int n] (I, J, O) (fun r u => r = hunC (I 0) nd nm man cell n ∧ SCs (I, J, O) u) := by
  refine jMi_of (cc := cX7_hunt) (maxL := 4) (ret := (some .int)) (lv0 := [(0, .ref (G.2.2.1 (0, 0, 0))), (1, .int man), (2, .int cell), (3, .int n)]) (by decide) rfl (Nat.le_of_ble_eq_true rfl) rfl ?_
  intro pg_ ev_ s_ mi_ below meth cd_ A ls hC hB hl
  obtain ⟨hx, hb, hr, hml, hown, hts, hlocks, hK, hA⟩ := id hC
  have lk_44 := hts (.fieldLink RX7 44 "RiddlePrison" "foresight" "LRiddlePrison$Foresight;") (by decide +kernel)
  have lk_10 := hts (.fieldLink RX7 10 "RiddlePrison" "now" "LRiddlePrison$Prison;") (by decide +kernel)
  have ln_121 := (by decide +kernel : Cond.fieldLinkNest RX7 121 "RiddlePrison$Prison" "men" "[LRiddlePrison$Man;" "RiddlePrison" ∈ nsW)
  have in_X7 := (fun w h => List.mem_cons_of_mem _ (List.mem_append_left _ (List.mem_append_left _ (List.mem_append_left _ (List.mem_append_left _ (List.mem_append_right _ h))))) : ∀ w ∈ wsX70, w ∈ wsX7_hunt)
  have in_X4 := (fun w h => List.mem_cons_of_mem _ (List.mem_append_left _ (List.mem_append_left _ (List.mem_append_left _ (List.mem_append_right _ h)))) : ∀ w ∈ wsX40, w ∈ wsX7_hunt)
  refine lv_aload_n hx hb dX7_hunt_0 rfl (lv_at hl 0 rfl) ?_
  refine lv_iload_n hx hb dX7_hunt_1 rfl (lv_at hl 1 rfl) ?_
  refine j_cvi (0, 0, 0) [.int man] hC hB hl.1 (c_X7_isMan l_ G I J O man (by omega) (hM)) (cwV 1 hts gX7_hunt_X7_isMan rfl rfl rfl (by decide +kernel) ⟨by decide, by decide⟩) dX7_hunt_2 jk0 rfl rfl rfl rfl (Nat.le_of_ble_eq_true rfl) (fun r_2 u_2 H locs hp_2 hB => ?_)
  obtain ⟨rfl, rfl⟩ := hp_2
  refine jb_if_eq (tgt := 23) hx hb dX7_hunt_5 (by decide) (fun c_5 => ?_) (fun c_5 => ?_)
  · refine lv_iconst (v := (-1 : Int32)) hx hb dX7_hunt_23 (by decide) ?_
    exact j_iret hC hB dX7_hunt_24 (⟨by simp [hunC, c_5], ⟨SCI.rf, SCJ.rf, rfl⟩⟩)
  · obtain ⟨mm, hmm, rfl⟩ := isB_nat c_5 (by omega)
    obtain ⟨cc, hcc, ecc⟩ := hWc mm hmm
    refine lv_iload_n hx hb dX7_hunt_8 rfl (lv_at hl 2 rfl) ?_
    refine j_csi [.int cell] hC hB hl.1 (c_X7_isCell l_ G I J O cell) (va_cwS 1 hts gX7_hunt_X7_isCell rfl rfl rfl (by decide +kernel) ⟨by decide, by decide⟩) dX7_hunt_9 rfl rfl (Nat.le_of_ble_eq_true rfl) (fun r_9 u_9 H locs hp_9 hB => ?_)
    obtain ⟨rfl, rfl⟩ := hp_9
    refine jb_if_eq (tgt := 23) hx hb dX7_hunt_12 (by decide) (fun c_12 => ?_) (fun c_12 => ?_)
    · refine lv_iconst (v := (-1 : Int32)) hx hb dX7_hunt_23 (by decide) ?_
      exact j_iret hC hB dX7_hunt_24 (⟨by simp [hunC, c_5, c_12], ⟨SCI.rf, SCJ.rf, rfl⟩⟩)
    · obtain ⟨xx, hxx, rfl⟩ := isB_nat c_12 (by omega)
      refine lv_iload_n hx hb dX7_hunt_15 rfl (lv_at hl 3 rfl) ?_
      refine lv_iconst (v := nI 4) hx hb dX7_hunt_16 (by decide) ?_
      refine j_csi [.int n, .int (nI 4)] hC hB hl.1 (c_X7_isBelow l_ G I J O n 4 (by omega)) (va_cwS 2 hts gX7_hunt_X7_isBelow rfl rfl rfl (by decide +kernel) ⟨by decide, by decide⟩) dX7_hunt_17 rfl rfl (Nat.le_of_ble_eq_true rfl) (fun r_17 u_17 H locs hp_17 hB => ?_)
      obtain ⟨rfl, rfl⟩ := hp_17
      refine jb_if_ne (tgt := 25) hx hb dX7_hunt_20 (by decide) (fun c_20 => ?_) (fun c_20 => ?_)
      · obtain ⟨nn, hnn, rfl⟩ := isB_nat c_20 (by omega)
        refine lv_aload_n hx hb dX7_hunt_25 rfl (lv_at hl 0 rfl) ?_
        refine j_get (0, 0, 0) 7 (v := .ref (G.2.2.1 (11, 0, 0))) hC hB in_X7 lk_44 dX7_hunt_26 jk0 rfl rfl (by decide) rfl ?_
        refine lv_aload_n hx hb dX7_hunt_29 rfl (lv_at hl 0 rfl) ?_
        refine j_get (0, 0, 0) 0 (v := .ref (G.2.2.1 (1, 0, 0))) hC hB in_X7 lk_10 dX7_hunt_30 jk0 rfl rfl (by decide) rfl ?_
        refine j_getN (1, 0, 0) 1 (v := .ref (G.2.2.1 (3, 0, 0))) hC hB in_X4 ln_121 dX7_hunt_33 (jk1 (by omega)) rfl rfl (by decide) rfl ?_
        refine lv_iload_n hx hb dX7_hunt_36 rfl (lv_at hl 1 rfl) ?_
        refine j_ald (3, 0, 0) (5, 0, mm) 4 mm hC hB dX7_hunt_37 (jk3 (by omega)) rfl rfl rfl (by omega) (by decide) rfl ?_
        refine j_cvv (11, 0, 0) [.ref (G.2.2.1 (5, 0, mm))] hC hB hl.1 (c_X1_follow l_ G I J O mm (by omega) (by omega) (ecc) (by omega) (hD) (hW)) (cwV 1 hts gX7_hunt_X1_follow rfl rfl rfl (by decide +kernel) ⟨by decide, by decide⟩) dX7_hunt_38 jk11 rfl rfl rfl rfl (Nat.le_of_ble_eq_true rfl) (fun u_38 H locs hp_38 hB => ?_)
        obtain ⟨x19_38, x27_38, x28_38, x29_38, hx_38, rfl⟩ := hp_38
        have hB : jB G A s_.heap (sr (sr (sr (sr (sr I 26 (upd (I 26) 0 (nI cc))) 19 (x19_38)) 27 (x27_38)) 28 (x28_38)) 29 (x29_38), J, O) H locs := hB
        refine lv_aload_n hx hb dX7_hunt_41 rfl (lv_at hl 0 rfl) ?_
        refine j_get (0, 0, 0) 7 (v := .ref (G.2.2.1 (11, 0, 0))) hC hB in_X7 lk_44 dX7_hunt_42 jk0 rfl rfl (by decide) rfl ?_
        refine lv_iload_n hx hb dX7_hunt_45 rfl (lv_at hl 2 rfl) ?_
        refine lv_iload_n hx hb dX7_hunt_46 rfl (lv_at hl 3 rfl) ?_
        refine j_cvi (11, 0, 0) [.int (nI xx), .int (nI nn)] hC hB hl.1 (c_X1_huntedSteps l_ G (sr (sr (sr (sr (sr I 26 (upd (I 26) 0 (nI cc))) 19 (x19_38)) 27 (x27_38)) 28 (x28_38)) 29 (x29_38)) J O xx nn ((opM (I 0) mm nd)) (fun j hj => (foM hcc ecc hx_38).1 j hj) (by omega) (by omega) (by omega) ((sr_nj (show (26 : Nat) ≠ 29 by omega)).trans ((sr_nj (show (26 : Nat) ≠ 28 by omega)).trans ((sr_nj (show (26 : Nat) ≠ 27 by omega)).trans ((sr_nj (show (26 : Nat) ≠ 19 by omega)).trans (sr_sj.trans (pk_us)))))) (by omega) ((sr_nj (show (0 : Nat) ≠ 29 by omega)).trans ((sr_nj (show (0 : Nat) ≠ 28 by omega)).trans ((sr_nj (show (0 : Nat) ≠ 27 by omega)).trans ((sr_nj (show (0 : Nat) ≠ 19 by omega)).trans ((sr_nj (show (0 : Nat) ≠ 26 by omega)).trans (hD)))))) (hW)) (cwV 2 hts gX7_hunt_X1_huntedSteps rfl rfl rfl (by decide +kernel) ⟨by decide, by decide⟩) dX7_hunt_47 jk11 rfl rfl rfl rfl (Nat.le_of_ble_eq_true rfl) (fun r_47 u_47 H locs hp_47 hB => ?_)
        obtain ⟨hr_47, rfl⟩ := hp_47
        try simp only [show (sr (sr (sr (sr (sr I 26 (upd (I 26) 0 (nI cc))) 19 (x19_38)) 27 (x27_38)) 28 (x28_38)) 29 (x29_38)) 0 = I 0 from (sr_ne (show (0 : Nat) ≠ 29 by omega)).trans ((sr_ne (show (0 : Nat) ≠ 28 by omega)).trans ((sr_ne (show (0 : Nat) ≠ 27 by omega)).trans ((sr_ne (show (0 : Nat) ≠ 19 by omega)).trans ((sr_ne (show (0 : Nat) ≠ 26 by omega))))))] at hr_47
        refine j_eqi (y := hsC (I 0) (opM (I 0) mm nd) nd xx cc nn) hr_47 ?_
        exact j_iret hC hB dX7_hunt_50 (⟨by simp [hunC, tN, nIc (show mm < 2147483648 by omega), ceF_eq hcc ecc, nIc (show xx < 2147483648 by omega), nIc (show nn < 2147483648 by omega), c_5, c_12, c_20], ⟨SCI.sr (SCI.sr (SCI.sr (SCI.sr (SCI.sr (SCI.rf) (sccI (by decide))) scc19) (sccI (by decide))) (sccI (by decide))) (sccI (by decide)), SCJ.rf, rfl⟩⟩)
      · refine lv_iconst (v := (-1 : Int32)) hx hb dX7_hunt_23 (by decide) ?_
        exact j_iret hC hB dX7_hunt_24 (⟨by simp [hunC, c_5, c_12, c_20], ⟨SCI.rf, SCJ.rf, rfl⟩⟩)

set_option maxHeartbeats 4000000 in
set_option maxRecDepth 100000 in
theorem c_X7_way (l_ : Launch) (G : jG) (I : Nat → Nat → Int32) (J : Nat → Nat → Int64) (O : Nat → Nat → Nat) (man cell k : Int32) {nd : Nat} (hnd : nd ≤ 10) (hD : I 0 0 = nI nd) {nm : Nat} (hnm : nm ≤ 4) (hM : I 0 1 = nI nm) (hW : wfD (I 0) nd) (hWc : ∀ m, m < nm → ∃ c, c < 8 ∧ I 0 (51 + m) = nI c) : jMi l_ G yX7_way wsX7_way ({ frames := 7, cells := 0, slots := 0, locals := 165 }) [.ref (G.2.2.1 (0, 0, 0)), .int man, .int cell, .int k] (I, J, O) (fun r u => r = wayC (I 0) nd nm man cell k ∧ SCs (I, J, O) u) := by
  refine jMi_of (cc := cX7_way) (maxL := 4) (ret := (some .int)) (lv0 := [(0, .ref (G.2.2.1 (0, 0, 0))), (1, .int man), (2, .int cell), (3, .int k)]) (by decide) rfl (Nat.le_of_ble_eq_true rfl) rfl ?_
  intro pg_ ev_ s_ mi_ below meth cd_ A ls hC hB hl
  obtain ⟨hx, hb, hr, hml, hown, hts, hlocks, hK, hA⟩ := id hC
  have lk_44 := hts (.fieldLink RX7 44 "RiddlePrison" "foresight" "LRiddlePrison$Foresight;") (by decide +kernel)
  have lk_10 := hts (.fieldLink RX7 10 "RiddlePrison" "now" "LRiddlePrison$Prison;") (by decide +kernel)
  have ln_121 := (by decide +kernel : Cond.fieldLinkNest RX7 121 "RiddlePrison$Prison" "men" "[LRiddlePrison$Man;" "RiddlePrison" ∈ nsW)
  have ln_207 := (by decide +kernel : Cond.fieldLinkNest RX7 207 "RiddlePrison$Foresight" "far" "[I" "RiddlePrison" ∈ nsW)
  have in_X7 := (fun w h => List.mem_cons_of_mem _ (List.mem_append_left _ (List.mem_append_left _ (List.mem_append_left _ (List.mem_append_left _ (List.mem_append_right _ h))))) : ∀ w ∈ wsX70, w ∈ wsX7_way)
  have in_X4 := (fun w h => List.mem_cons_of_mem _ (List.mem_append_left _ (List.mem_append_left _ (List.mem_append_left _ (List.mem_append_right _ h)))) : ∀ w ∈ wsX40, w ∈ wsX7_way)
  have in_X1 := (fun w h => List.mem_cons_of_mem _ (List.mem_append_left _ (List.mem_append_left _ (List.mem_append_right _ h))) : ∀ w ∈ wsX10, w ∈ wsX7_way)
  refine lv_aload_n hx hb dX7_way_0 rfl (lv_at hl 0 rfl) ?_
  refine lv_iload_n hx hb dX7_way_1 rfl (lv_at hl 1 rfl) ?_
  refine j_cvi (0, 0, 0) [.int man] hC hB hl.1 (c_X7_isMan l_ G I J O man (by omega) (hM)) (cwV 1 hts gX7_way_X7_isMan rfl rfl rfl (by decide +kernel) ⟨by decide, by decide⟩) dX7_way_2 jk0 rfl rfl rfl rfl (Nat.le_of_ble_eq_true rfl) (fun r_2 u_2 H locs hp_2 hB => ?_)
  obtain ⟨rfl, rfl⟩ := hp_2
  refine jb_if_eq (tgt := 20) hx hb dX7_way_5 (by decide) (fun c_5 => ?_) (fun c_5 => ?_)
  · refine lv_iconst (v := (-1 : Int32)) hx hb dX7_way_20 (by decide) ?_
    exact j_iret hC hB dX7_way_21 (⟨by simp [wayC, c_5], ⟨SCI.rf, SCJ.rf, rfl⟩⟩)
  · obtain ⟨mm, hmm, rfl⟩ := isB_nat c_5 (by omega)
    obtain ⟨cc, hcc, ecc⟩ := hWc mm hmm
    refine lv_iload_n hx hb dX7_way_8 rfl (lv_at hl 2 rfl) ?_
    refine j_csi [.int cell] hC hB hl.1 (c_X7_isCell l_ G I J O cell) (va_cwS 1 hts gX7_way_X7_isCell rfl rfl rfl (by decide +kernel) ⟨by decide, by decide⟩) dX7_way_9 rfl rfl (Nat.le_of_ble_eq_true rfl) (fun r_9 u_9 H locs hp_9 hB => ?_)
    obtain ⟨rfl, rfl⟩ := hp_9
    refine jb_if_eq (tgt := 20) hx hb dX7_way_12 (by decide) (fun c_12 => ?_) (fun c_12 => ?_)
    · refine lv_iconst (v := (-1 : Int32)) hx hb dX7_way_20 (by decide) ?_
      exact j_iret hC hB dX7_way_21 (⟨by simp [wayC, c_5, c_12], ⟨SCI.rf, SCJ.rf, rfl⟩⟩)
    · obtain ⟨xx, hxx, rfl⟩ := isB_nat c_12 (by omega)
      refine lv_iload_n hx hb dX7_way_15 rfl (lv_at hl 3 rfl) ?_
      refine lv_iconst (v := (-1 : Int32)) hx hb dX7_way_16 (by decide) ?_
      refine lv_icmp_ge (tgt := 22) hx hb dX7_way_17 (by decide) (fun c_17 => ?_) (fun c_17 => ?_)
      · refine lv_aload_n hx hb dX7_way_22 rfl (lv_at hl 0 rfl) ?_
        refine j_get (0, 0, 0) 7 (v := .ref (G.2.2.1 (11, 0, 0))) hC hB in_X7 lk_44 dX7_way_23 jk0 rfl rfl (by decide) rfl ?_
        refine lv_aload_n hx hb dX7_way_26 rfl (lv_at hl 0 rfl) ?_
        refine j_get (0, 0, 0) 0 (v := .ref (G.2.2.1 (1, 0, 0))) hC hB in_X7 lk_10 dX7_way_27 jk0 rfl rfl (by decide) rfl ?_
        refine j_getN (1, 0, 0) 1 (v := .ref (G.2.2.1 (3, 0, 0))) hC hB in_X4 ln_121 dX7_way_30 (jk1 (by omega)) rfl rfl (by decide) rfl ?_
        refine lv_iload_n hx hb dX7_way_33 rfl (lv_at hl 1 rfl) ?_
        refine j_ald (3, 0, 0) (5, 0, mm) 4 mm hC hB dX7_way_34 (jk3 (by omega)) rfl rfl rfl (by omega) (by decide) rfl ?_
        refine j_cvv (11, 0, 0) [.ref (G.2.2.1 (5, 0, mm))] hC hB hl.1 (c_X1_follow l_ G I J O mm (by omega) (by omega) (ecc) (by omega) (hD) (hW)) (cwV 1 hts gX7_way_X1_follow rfl rfl rfl (by decide +kernel) ⟨by decide, by decide⟩) dX7_way_35 jk11 rfl rfl rfl rfl (Nat.le_of_ble_eq_true rfl) (fun u_35 H locs hp_35 hB => ?_)
        obtain ⟨x19_35, x27_35, x28_35, x29_35, hx_35, rfl⟩ := hp_35
        have hB : jB G A s_.heap (sr (sr (sr (sr (sr I 26 (upd (I 26) 0 (nI cc))) 19 (x19_35)) 27 (x27_35)) 28 (x28_35)) 29 (x29_35), J, O) H locs := hB
        refine lv_iload_n hx hb dX7_way_38 rfl (lv_at hl 3 rfl) ?_
        refine lv_iconst (v := (-1 : Int32)) hx hb dX7_way_39 (by decide) ?_
        refine lv_icmp_ne (tgt := 55) hx hb dX7_way_40 (by decide) (fun c_40 => ?_) (fun c_40 => ?_)
        · refine lv_aload_n hx hb dX7_way_55 rfl (lv_at hl 0 rfl) ?_
          refine j_get (0, 0, 0) 7 (v := .ref (G.2.2.1 (11, 0, 0))) hC hB in_X7 lk_44 dX7_way_56 jk0 rfl rfl (by decide) rfl ?_
          refine lv_iload_n hx hb dX7_way_59 rfl (lv_at hl 2 rfl) ?_
          refine lv_iload_n hx hb dX7_way_60 rfl (lv_at hl 3 rfl) ?_
          refine j_cvi (11, 0, 0) [.int (nI xx), .int k] hC hB hl.1 (c_X1_doorOfWay l_ G (sr (sr (sr (sr (sr I 26 (upd (I 26) 0 (nI cc))) 19 (x19_35)) 27 (x27_35)) 28 (x28_35)) 29 (x29_35)) J O xx k ((opM (I 0) mm nd)) (fun j hj => (foM hcc ecc hx_35).1 j hj) (by omega) (⟨(foM hcc ecc hx_35).2.1 xx hxx, toNat_or _⟩) (by unfold spM; rw [ceF_eq hcc ecc]; exact spZ_len hW hnd hcc hxx) (by omega) ((sr_nj (show (26 : Nat) ≠ 29 by omega)).trans ((sr_nj (show (26 : Nat) ≠ 28 by omega)).trans ((sr_nj (show (26 : Nat) ≠ 27 by omega)).trans ((sr_nj (show (26 : Nat) ≠ 19 by omega)).trans (sr_sj.trans (pk_us)))))) (by omega) ((sr_nj (show (0 : Nat) ≠ 29 by omega)).trans ((sr_nj (show (0 : Nat) ≠ 28 by omega)).trans ((sr_nj (show (0 : Nat) ≠ 27 by omega)).trans ((sr_nj (show (0 : Nat) ≠ 19 by omega)).trans ((sr_nj (show (0 : Nat) ≠ 26 by omega)).trans (hD)))))) (hW)) (cwV 2 hts gX7_way_X1_doorOfWay rfl rfl rfl (by decide +kernel) ⟨by decide, by decide⟩) dX7_way_61 jk11 rfl rfl rfl rfl (Nat.le_of_ble_eq_true rfl) (fun r_61 u_61 H locs hp_61 hB => ?_)
          obtain ⟨hr_61, x28_61, x29_61, rfl⟩ := hp_61
          try simp only [show (sr (sr (sr (sr (sr I 26 (upd (I 26) 0 (nI cc))) 19 (x19_35)) 27 (x27_35)) 28 (x28_35)) 29 (x29_35)) 0 = I 0 from (sr_ne (show (0 : Nat) ≠ 29 by omega)).trans ((sr_ne (show (0 : Nat) ≠ 28 by omega)).trans ((sr_ne (show (0 : Nat) ≠ 27 by omega)).trans ((sr_ne (show (0 : Nat) ≠ 19 by omega)).trans ((sr_ne (show (0 : Nat) ≠ 26 by omega))))))] at hr_61
          try simp only [show (sr (sr (sr (sr (sr I 26 (upd (I 26) 0 (nI cc))) 19 (x19_35)) 27 (x27_35)) 28 (x28_35)) 29 (x29_35)) 0 = I 0 from (sr_ne (show (0 : Nat) ≠ 29 by omega)).trans ((sr_ne (show (0 : Nat) ≠ 28 by omega)).trans ((sr_ne (show (0 : Nat) ≠ 27 by omega)).trans ((sr_ne (show (0 : Nat) ≠ 19 by omega)).trans ((sr_ne (show (0 : Nat) ≠ 26 by omega))))))] at hB
          have hB : jB G A s_.heap (sr (sr (sr (sr (sr I 26 (upd (I 26) 0 (nI cc))) 19 (x19_35)) 27 (x27_35)) 28 (x28_61)) 29 (x29_61), J, O) H locs := by (rw [show sr (sr (sr (sr (sr I 26 (upd (I 26) 0 (nI cc))) 19 (x19_35)) 27 (x27_35)) 28 (x28_61)) 29 (x29_61) = sr (sr (sr (sr (sr (sr (sr I 26 (upd (I 26) 0 (nI cc))) 19 (x19_35)) 27 (x27_35)) 28 (x28_35)) 29 (x29_35)) 28 (x28_61)) 29 (x29_61) from by funext a; simp +decide only [sr]; (repeat' split) <;> first | rfl | (exfalso; omega) | (subst_vars; rfl)]; exact hB)
          refine j_eqi (y := dwC (I 0) (opM (I 0) mm nd) nd xx ((spM (I 0) mm nd).1 xx) k (tN ((spM (I 0) mm nd).1 xx)) 0 cc) hr_61 ?_
          exact j_iret hC hB dX7_way_64 (⟨by simp [wayC, tN, nIc (show mm < 2147483648 by omega), ceF_eq hcc ecc, nIc (show xx < 2147483648 by omega), c_5, c_12, c_17, c_40, Int32.not_lt.mpr c_17], ⟨SCI.sr (SCI.sr (SCI.sr (SCI.sr (SCI.sr (SCI.rf) (sccI (by decide))) scc19) (sccI (by decide))) (sccI (by decide))) (sccI (by decide)), SCJ.rf, rfl⟩⟩)
        · refine lv_aload_n hx hb dX7_way_43 rfl (lv_at hl 0 rfl) ?_
          refine j_get (0, 0, 0) 7 (v := .ref (G.2.2.1 (11, 0, 0))) hC hB in_X7 lk_44 dX7_way_44 jk0 rfl rfl (by decide) rfl ?_
          refine j_getN (11, 0, 0) 4 (v := .ref (G.2.2.1 (21, 28, 0))) hC hB in_X1 ln_207 dX7_way_47 jk11 rfl rfl (by decide) rfl ?_
          refine lv_iload_n hx hb dX7_way_50 rfl (lv_at hl 2 rfl) ?_
          refine j_iLd 28 xx hC hB dX7_way_51 (by decide) rfl (by simp only [lenI_28]; omega) ?_
          refine j_eqi (x := (sr (sr (sr (sr (sr I 26 (upd (I 26) 0 (nI cc))) 19 (x19_35)) 27 (x27_35)) 28 (x28_35)) 29 (x29_35)) 28 xx) (y := x28_35 xx) ((sr_nj (show (28 : Nat) ≠ 29 by omega)).trans (sr_sj)) ?_
          refine lv_goto (tgt := 64) hx hb dX7_way_52 (by decide) ?_
          exact j_iret hC hB dX7_way_64 (⟨by rw [(foM hcc ecc hx_35).2.1 xx hxx]; simp [wayC, tN, nIc (show mm < 2147483648 by omega), ceF_eq hcc ecc, nIc (show xx < 2147483648 by omega), c_5, c_12, c_17, eq_true c_40, Int32.not_lt.mpr c_17], ⟨SCI.sr (SCI.sr (SCI.sr (SCI.sr (SCI.sr (SCI.rf) (sccI (by decide))) scc19) (sccI (by decide))) (sccI (by decide))) (sccI (by decide)), SCJ.rf, rfl⟩⟩)
      · refine lv_iconst (v := (-1 : Int32)) hx hb dX7_way_20 (by decide) ?_
        exact j_iret hC hB dX7_way_21 (⟨by simp [wayC, c_5, c_12, c_17, Int32.not_le.mp c_17], ⟨SCI.rf, SCJ.rf, rfl⟩⟩)

set_option maxHeartbeats 4000000 in
set_option maxRecDepth 100000 in
theorem c_X7_wit (l_ : Launch) (G : jG) (I : Nat → Nat → Int32) (J : Nat → Nat → Int64) (O : Nat → Nat → Nat) (man cell : Int32) {nd : Nat} (hnd : nd ≤ 10) (hD : I 0 0 = nI nd) {nm : Nat} (hnm : nm ≤ 4) (hM : I 0 1 = nI nm) (hW : wfD (I 0) nd) (hWc : ∀ m, m < nm → ∃ c, c < 8 ∧ I 0 (51 + m) = nI c) : jMi l_ G yX7_wit wsX7_wit ({ frames := 6, cells := 0, slots := 0, locals := 144 }) [.ref (G.2.2.1 (0, 0, 0)), .int man, .int cell] (I, J, O) (fun r u => r = witC (I 0) nd nm man cell ∧ SCs (I, J, O) u) := by
  refine jMi_of (cc := cX7_wit) (maxL := 5) (ret := (some .int)) (lv0 := [(0, .ref (G.2.2.1 (0, 0, 0))), (1, .int man), (2, .int cell)]) (by decide) rfl (Nat.le_of_ble_eq_true rfl) rfl ?_
  intro pg_ ev_ s_ mi_ below meth cd_ A ls hC hB hl
  obtain ⟨hx, hb, hr, hml, hown, hts, hlocks, hK, hA⟩ := id hC
  have lk_10 := hts (.fieldLink RX7 10 "RiddlePrison" "now" "LRiddlePrison$Prison;") (by decide +kernel)
  have ln_121 := (by decide +kernel : Cond.fieldLinkNest RX7 121 "RiddlePrison$Prison" "men" "[LRiddlePrison$Man;" "RiddlePrison" ∈ nsW)
  have lk_44 := hts (.fieldLink RX7 44 "RiddlePrison" "foresight" "LRiddlePrison$Foresight;") (by decide +kernel)
  have ln_131 := (by decide +kernel : Cond.fieldLinkNest RX7 131 "RiddlePrison$Man" "own" "I" "RiddlePrison" ∈ nsW)
  have ln_207 := (by decide +kernel : Cond.fieldLinkNest RX7 207 "RiddlePrison$Foresight" "far" "[I" "RiddlePrison" ∈ nsW)
  have in_X7 := (fun w h => List.mem_cons_of_mem _ (List.mem_append_left _ (List.mem_append_left _ (List.mem_append_left _ (List.mem_append_left _ (List.mem_append_right _ h))))) : ∀ w ∈ wsX70, w ∈ wsX7_wit)
  have in_X4 := (fun w h => List.mem_cons_of_mem _ (List.mem_append_left _ (List.mem_append_left _ (List.mem_append_left _ (List.mem_append_right _ h)))) : ∀ w ∈ wsX40, w ∈ wsX7_wit)
  have in_X3 := (fun w h => List.mem_cons_of_mem _ (List.mem_append_left _ (List.mem_append_left _ (List.mem_append_right _ h))) : ∀ w ∈ wsX30, w ∈ wsX7_wit)
  have in_X1 := (fun w h => List.mem_cons_of_mem _ (List.mem_append_left _ (List.mem_append_right _ h)) : ∀ w ∈ wsX10, w ∈ wsX7_wit)
  refine lv_aload_n hx hb dX7_wit_0 rfl (lv_at hl 0 rfl) ?_
  refine lv_iload_n hx hb dX7_wit_1 rfl (lv_at hl 1 rfl) ?_
  refine j_cvi (0, 0, 0) [.int man] hC hB hl.1 (c_X7_isMan l_ G I J O man (by omega) (hM)) (cwV 1 hts gX7_wit_X7_isMan rfl rfl rfl (by decide +kernel) ⟨by decide, by decide⟩) dX7_wit_2 jk0 rfl rfl rfl rfl (Nat.le_of_ble_eq_true rfl) (fun r_2 u_2 H locs hp_2 hB => ?_)
  obtain ⟨rfl, rfl⟩ := hp_2
  refine jb_if_eq (tgt := 15) hx hb dX7_wit_5 (by decide) (fun c_5 => ?_) (fun c_5 => ?_)
  · refine lv_iconst (v := (-1 : Int32)) hx hb dX7_wit_15 (by decide) ?_
    exact j_iret hC hB dX7_wit_16 (⟨by simp [witC, c_5], ⟨SCI.rf, SCJ.rf, rfl⟩⟩)
  · obtain ⟨mm, hmm, rfl⟩ := isB_nat c_5 (by omega)
    obtain ⟨cc, hcc, ecc⟩ := hWc mm hmm
    refine lv_iload_n hx hb dX7_wit_8 rfl (lv_at hl 2 rfl) ?_
    refine j_csi [.int cell] hC hB hl.1 (c_X7_isCell l_ G I J O cell) (va_cwS 1 hts gX7_wit_X7_isCell rfl rfl rfl (by decide +kernel) ⟨by decide, by decide⟩) dX7_wit_9 rfl rfl (Nat.le_of_ble_eq_true rfl) (fun r_9 u_9 H locs hp_9 hB => ?_)
    obtain ⟨rfl, rfl⟩ := hp_9
    refine jb_if_ne (tgt := 17) hx hb dX7_wit_12 (by decide) (fun c_12 => ?_) (fun c_12 => ?_)
    · obtain ⟨xx, hxx, rfl⟩ := isB_nat c_12 (by omega)
      refine lv_aload_n hx hb dX7_wit_17 rfl (lv_at hl 0 rfl) ?_
      refine j_get (0, 0, 0) 0 (v := .ref (G.2.2.1 (1, 0, 0))) hC hB in_X7 lk_10 dX7_wit_18 jk0 rfl rfl (by decide) rfl ?_
      refine j_getN (1, 0, 0) 1 (v := .ref (G.2.2.1 (3, 0, 0))) hC hB in_X4 ln_121 dX7_wit_21 (jk1 (by omega)) rfl rfl (by decide) rfl ?_
      refine lv_iload_n hx hb dX7_wit_24 rfl (lv_at hl 1 rfl) ?_
      refine j_ald (3, 0, 0) (5, 0, mm) 4 mm hC hB dX7_wit_25 (jk3 (by omega)) rfl rfl rfl (by omega) (by decide) rfl ?_
      refine lv_astore_n (lv' := [(3, .ref (G.2.2.1 (5, 0, mm))), (0, .ref (G.2.2.1 (0, 0, 0))), (1, .int (nI mm)), (2, .int (nI xx))]) hx hb dX7_wit_26 rfl hl (by decide) rfl (fun ls hl => ?_)
      refine lv_iconst (v := nI 0) hx hb dX7_wit_27 (by decide) ?_
      refine lv_istore (lv' := [(4, .int (nI 0)), (3, .ref (G.2.2.1 (5, 0, mm))), (0, .ref (G.2.2.1 (0, 0, 0))), (1, .int (nI mm)), (2, .int (nI xx))]) hx hb dX7_wit_28 hl (by decide) rfl (fun ls hl => ?_)
      have lp_30 : ∀ (fu : Nat) (w_ : Nat → Int32) (z_ : Nat → Int32) (o_ : Nat → Int32) (f_ : Nat → Int32) (h_ : Nat → Int32) (e : Nat), 10 - e < fu → (e ≤ 10) → (seI (witP (I 0) mm nd xx) (10 - e) e = seI (witP (I 0) mm nd xx) 10 0) → ∀ H locs ls, jB G A s_.heap (sr (sr (sr (sr (sr I 19 (w_)) 26 (z_)) 27 (o_)) 28 (f_)) 29 (h_), J, O) H locs → lv_has ls 5 [(4, .int (nI e)), (3, .ref (G.2.2.1 (5, 0, mm))), (0, .ref (G.2.2.1 (0, 0, 0))), (1, .int (nI mm)), (2, .int (nI xx))] → W pg_ l_ ev_ ({ frames := 6, cells := 0, slots := 0, locals := 144 }) s_ mi_ ([.ref (G.2.2.1 (0, 0, 0)), .int (nI mm), .int (nI xx)]).toArray below meth cd_ H locs 0 0 (jQi G A below [.ref (G.2.2.1 (0, 0, 0)), .int (nI mm), .int (nI xx)] s_ (fun r u => r = witC (I 0) nd nm (nI mm) (nI xx) ∧ SCs (I, J, O) u)) (F0 mi_ 30 ls []) := by
        intro fu
        induction fu with
        | zero => intro w_ z_ o_ f_ h_ e hf; exact absurd hf (Nat.not_lt_zero _)
        | succ fu ih_30 =>
          intro w_ z_ o_ f_ h_ e hf_30 he hs H locs ls hB hl
          refine lv_iload hx hb dX7_wit_30 (lv_at hl 0 rfl) ?_
          refine lv_bipush (v := nI 10) hx hb dX7_wit_32 (by decide) ?_
          refine jn_icmp_ge (tgt := 72) hx hb dX7_wit_34 (by decide) (by omega) (by omega) (fun c_34 => ?_) (fun c_34 => ?_)
          · refine lv_bipush (v := (-4 : Int32)) hx hb dX7_wit_72 (by decide) ?_
            exact j_iret hC hB dX7_wit_74 (⟨by rw [show witC (I 0) nd nm (nI mm) (nI xx) = seI (witP (I 0) mm nd xx) 10 0 from by simp [witC, tN, nIc (show mm < 2147483648 by omega), nIc (show xx < 2147483648 by omega), c_5, c_12], ← hs, show 10 - e = 0 by omega]; rfl, ⟨SCI.sr (SCI.sr (SCI.sr (SCI.sr (SCI.sr (SCI.rf) scc19) (sccI (by decide))) (sccI (by decide))) (sccI (by decide))) (sccI (by decide)), SCJ.rf, rfl⟩⟩)
          · refine lv_aload_n hx hb dX7_wit_37 rfl (lv_at hl 2 rfl) ?_
            refine j_get (0, 0, 0) 7 (v := .ref (G.2.2.1 (11, 0, 0))) hC hB in_X7 lk_44 dX7_wit_38 jk0 rfl rfl (by decide) rfl ?_
            refine lv_aload_n hx hb dX7_wit_41 rfl (lv_at hl 1 rfl) ?_
            refine lv_iload hx hb dX7_wit_42 (lv_at hl 0 rfl) ?_
            refine lv_aload_n hx hb dX7_wit_44 rfl (lv_at hl 1 rfl) ?_
            refine j_getN (5, 0, mm) 2 (v := .int ((sr (sr (sr (sr (sr I 19 (w_)) 26 (z_)) 27 (o_)) 28 (f_)) 29 (h_)) 0 (7 + mm))) hC hB in_X3 ln_131 dX7_wit_45 (jk5 (by omega) (by omega)) rfl rfl (by decide) rfl ?_
            refine j_eqi (x := (sr (sr (sr (sr (sr I 19 (w_)) 26 (z_)) 27 (o_)) 28 (f_)) 29 (h_)) 0 (7 + mm)) (y := (I 0) (7 + mm)) ((sr_nj (show (0 : Nat) ≠ 29 by omega)).trans ((sr_nj (show (0 : Nat) ≠ 28 by omega)).trans ((sr_nj (show (0 : Nat) ≠ 27 by omega)).trans ((sr_nj (show (0 : Nat) ≠ 26 by omega)).trans ((sr_nj (show (0 : Nat) ≠ 19 by omega))))))) ?_
            refine j_cvv (11, 0, 0) [.ref (G.2.2.1 (5, 0, mm)), .int (nI e), .int ((I 0) (7 + mm))] hC hB hl.1 (c_X1_followAs l_ G (sr (sr (sr (sr (sr I 19 (w_)) 26 (z_)) 27 (o_)) 28 (f_)) 29 (h_)) J O mm (nI e) ((I 0) (7 + mm)) (by omega) (by omega) ((sr_nj (show (0 : Nat) ≠ 29 by omega)).trans ((sr_nj (show (0 : Nat) ≠ 28 by omega)).trans ((sr_nj (show (0 : Nat) ≠ 27 by omega)).trans ((sr_nj (show (0 : Nat) ≠ 26 by omega)).trans ((sr_nj (show (0 : Nat) ≠ 19 by omega)).trans (ecc)))))) (by omega) ((sr_nj (show (0 : Nat) ≠ 29 by omega)).trans ((sr_nj (show (0 : Nat) ≠ 28 by omega)).trans ((sr_nj (show (0 : Nat) ≠ 27 by omega)).trans ((sr_nj (show (0 : Nat) ≠ 26 by omega)).trans ((sr_nj (show (0 : Nat) ≠ 19 by omega)).trans (hD)))))) (hW)) (cwV 3 hts gX7_wit_X1_followAs rfl rfl rfl (by decide +kernel) ⟨by decide, by decide⟩) dX7_wit_48 jk11 rfl rfl rfl rfl (Nat.le_of_ble_eq_true rfl) (fun u_48 H locs hp_48 hB => ?_)
            obtain ⟨x19_48, x27_48, x28_48, x29_48, hx_48, rfl⟩ := hp_48
            try simp only [show (sr (sr (sr (sr (sr I 19 (w_)) 26 (z_)) 27 (o_)) 28 (f_)) 29 (h_)) 26 = z_ from (sr_ne (show (26 : Nat) ≠ 29 by omega)).trans ((sr_ne (show (26 : Nat) ≠ 28 by omega)).trans ((sr_ne (show (26 : Nat) ≠ 27 by omega)).trans (sr_self))), show (sr (sr (sr (sr (sr I 19 (w_)) 26 (z_)) 27 (o_)) 28 (f_)) 29 (h_)) 0 = I 0 from (sr_ne (show (0 : Nat) ≠ 29 by omega)).trans ((sr_ne (show (0 : Nat) ≠ 28 by omega)).trans ((sr_ne (show (0 : Nat) ≠ 27 by omega)).trans ((sr_ne (show (0 : Nat) ≠ 26 by omega)).trans ((sr_ne (show (0 : Nat) ≠ 19 by omega))))))] at hB
            try simp only [show (sr (sr (sr (sr (sr I 19 (w_)) 26 (z_)) 27 (o_)) 28 (f_)) 29 (h_)) 26 = z_ from (sr_ne (show (26 : Nat) ≠ 29 by omega)).trans ((sr_ne (show (26 : Nat) ≠ 28 by omega)).trans ((sr_ne (show (26 : Nat) ≠ 27 by omega)).trans (sr_self))), show (sr (sr (sr (sr (sr I 19 (w_)) 26 (z_)) 27 (o_)) 28 (f_)) 29 (h_)) 0 = I 0 from (sr_ne (show (0 : Nat) ≠ 29 by omega)).trans ((sr_ne (show (0 : Nat) ≠ 28 by omega)).trans ((sr_ne (show (0 : Nat) ≠ 27 by omega)).trans ((sr_ne (show (0 : Nat) ≠ 26 by omega)).trans ((sr_ne (show (0 : Nat) ≠ 19 by omega))))))] at hx_48
            have hB : jB G A s_.heap (sr (sr (sr (sr (sr I 26 (upd (z_) 0 (nI cc))) 19 (x19_48)) 27 (x27_48)) 28 (x28_48)) 29 (x29_48), J, O) H locs := by (rw [show sr (sr (sr (sr (sr I 26 (upd (z_) 0 (nI cc))) 19 (x19_48)) 27 (x27_48)) 28 (x28_48)) 29 (x29_48) = sr (sr (sr (sr (sr (sr (sr (sr (sr (sr I 19 (w_)) 26 (z_)) 27 (o_)) 28 (f_)) 29 (h_)) 26 (upd (z_) 0 (nI cc))) 19 (x19_48)) 27 (x27_48)) 28 (x28_48)) 29 (x29_48) from by funext a; simp +decide only [sr]; (repeat' split) <;> first | rfl | (exfalso; omega) | (subst_vars; rfl)]; exact hB)
            refine lv_aload_n hx hb dX7_wit_51 rfl (lv_at hl 2 rfl) ?_
            refine j_get (0, 0, 0) 7 (v := .ref (G.2.2.1 (11, 0, 0))) hC hB in_X7 lk_44 dX7_wit_52 jk0 rfl rfl (by decide) rfl ?_
            refine j_getN (11, 0, 0) 4 (v := .ref (G.2.2.1 (21, 28, 0))) hC hB in_X1 ln_207 dX7_wit_55 jk11 rfl rfl (by decide) rfl ?_
            refine lv_iload_n hx hb dX7_wit_58 rfl (lv_at hl 4 rfl) ?_
            refine j_iLd 28 xx hC hB dX7_wit_59 (by decide) rfl (by simp only [lenI_28]; omega) ?_
            refine j_eqi (x := (sr (sr (sr (sr (sr I 26 (upd (z_) 0 (nI cc))) 19 (x19_48)) 27 (x27_48)) 28 (x28_48)) 29 (x29_48)) 28 xx) (y := x28_48 xx) ((sr_nj (show (28 : Nat) ≠ 29 by omega)).trans (sr_sj)) ?_
            refine lv_if_lt (tgt := 66) hx hb dX7_wit_60 (by decide) (fun c_60 => ?_) (fun c_60 => ?_)
            · refine lv_iinc (v := nI (e + 1)) (lv' := [(4, .int (nI (e + 1))), (3, .ref (G.2.2.1 (5, 0, mm))), (0, .ref (G.2.2.1 (0, 0, 0))), (1, .int (nI mm)), (2, .int (nI xx))]) hx hb dX7_wit_66 hl (k := 0) rfl (jn_inc _ 1) (by decide) rfl (fun ls hl => ?_)
              refine lv_goto (tgt := 30) hx hb dX7_wit_69 (by decide) ?_
              exact ih_30 x19_48 (upd (z_) 0 (nI cc)) x27_48 x28_48 x29_48 (e + 1) (by omega) (by omega) (by rw [← hs]; rw [(hx_48.2 xx hxx).1] at c_60; exact (seI_no (by omega) (by simp [witP, ceF_eq hcc ecc, c_60])).symm) _ _ _ (jB_cast2 hB (by first | exact (sr_id _ _).symm | (funext a_; simp +decide only [sr]; (repeat' split) <;> first | rfl | (exfalso; omega) | (subst_vars; rfl))) rfl) (lv_sub hl [0, 1, 2, 3, 4] rfl)
            · refine lv_iload hx hb dX7_wit_63 (lv_at hl 0 rfl) ?_
              exact j_iret hC hB dX7_wit_65 (⟨by rw [show witC (I 0) nd nm (nI mm) (nI xx) = seI (witP (I 0) mm nd xx) 10 0 from by simp [witC, tN, nIc (show mm < 2147483648 by omega), nIc (show xx < 2147483648 by omega), c_5, c_12], ← hs]; rw [(hx_48.2 xx hxx).1] at c_60; exact (seI_yes (by omega) (by simp [witP, ceF_eq hcc ecc, c_60])).symm, ⟨SCI.sr (SCI.sr (SCI.sr (SCI.sr (SCI.sr (SCI.rf) (sccI (by decide))) scc19) (sccI (by decide))) (sccI (by decide))) (sccI (by decide)), SCJ.rf, rfl⟩⟩)
      exact lp_30 _ (I 19) (I 26) (I 27) (I 28) (I 29) 0 (Nat.lt_succ_self _) (by omega) (rfl) _ _ _ (jB_cast2 hB (by first | exact (sr_id _ _).symm | (funext a_; simp +decide only [sr]; (repeat' split) <;> first | rfl | (exfalso; omega) | (subst_vars; rfl))) rfl) (lv_sub hl [0, 1, 2, 3, 4] rfl)
    · refine lv_iconst (v := (-1 : Int32)) hx hb dX7_wit_15 (by decide) ?_
      exact j_iret hC hB dX7_wit_16 (⟨by simp [witC, c_5, c_12], ⟨SCI.rf, SCJ.rf, rfl⟩⟩)

set_option maxHeartbeats 4000000 in
set_option maxRecDepth 100000 in
theorem c_X7_lesson (l_ : Launch) (G : jG) (I : Nat → Nat → Int32) (J : Nat → Nat → Int64) (O : Nat → Nat → Nat) (man what : Int32) {nd : Nat} (hnd : nd ≤ 10) (hD : I 0 0 = nI nd) {nm : Nat} (hnm : nm ≤ 4) (hM : I 0 1 = nI nm) (hW : wfD (I 0) nd) (hWc : ∀ m, m < nm → ∃ c, c < 8 ∧ I 0 (51 + m) = nI c) : jMi l_ G yX7_lesson wsX7_lesson ({ frames := 6, cells := 0, slots := 0, locals := 144 }) [.ref (G.2.2.1 (0, 0, 0)), .int man, .int what] (I, J, O) (fun r u => r = lesC (I 0) nd nm man what ∧ SCs (I, J, O) u) := by
  refine jMi_of (cc := cX7_lesson) (maxL := 8) (ret := (some .int)) (lv0 := [(0, .ref (G.2.2.1 (0, 0, 0))), (1, .int man), (2, .int what)]) (by decide) rfl (Nat.le_of_ble_eq_true rfl) rfl ?_
  intro pg_ ev_ s_ mi_ below meth cd_ A ls hC hB hl
  obtain ⟨hx, hb, hr, hml, hown, hts, hlocks, hK, hA⟩ := id hC
  have lk_10 := hts (.fieldLink RX7 10 "RiddlePrison" "now" "LRiddlePrison$Prison;") (by decide +kernel)
  have ln_121 := (by decide +kernel : Cond.fieldLinkNest RX7 121 "RiddlePrison$Prison" "men" "[LRiddlePrison$Man;" "RiddlePrison" ∈ nsW)
  have lk_44 := hts (.fieldLink RX7 44 "RiddlePrison" "foresight" "LRiddlePrison$Foresight;") (by decide +kernel)
  have ln_128 := (by decide +kernel : Cond.fieldLinkNest RX7 128 "RiddlePrison$Man" "wit" "I" "RiddlePrison" ∈ nsW)
  have in_X7 := (fun w h => List.mem_cons_of_mem _ (List.mem_append_left _ (List.mem_append_left _ (List.mem_append_left _ (List.mem_append_left _ (List.mem_append_right _ h))))) : ∀ w ∈ wsX70, w ∈ wsX7_lesson)
  have in_X4 := (fun w h => List.mem_cons_of_mem _ (List.mem_append_left _ (List.mem_append_left _ (List.mem_append_left _ (List.mem_append_right _ h)))) : ∀ w ∈ wsX40, w ∈ wsX7_lesson)
  have in_X3 := (fun w h => List.mem_cons_of_mem _ (List.mem_append_left _ (List.mem_append_left _ (List.mem_append_right _ h))) : ∀ w ∈ wsX30, w ∈ wsX7_lesson)
  refine lv_aload_n hx hb dX7_lesson_0 rfl (lv_at hl 0 rfl) ?_
  refine lv_iload_n hx hb dX7_lesson_1 rfl (lv_at hl 1 rfl) ?_
  refine j_cvi (0, 0, 0) [.int man] hC hB hl.1 (c_X7_isMan l_ G I J O man (by omega) (hM)) (cwV 1 hts gX7_lesson_X7_isMan rfl rfl rfl (by decide +kernel) ⟨by decide, by decide⟩) dX7_lesson_2 jk0 rfl rfl rfl rfl (Nat.le_of_ble_eq_true rfl) (fun r_2 u_2 H locs hp_2 hB => ?_)
  obtain ⟨rfl, rfl⟩ := hp_2
  refine jb_if_eq (tgt := 16) hx hb dX7_lesson_5 (by decide) (fun c_5 => ?_) (fun c_5 => ?_)
  · refine lv_iconst (v := (-1 : Int32)) hx hb dX7_lesson_16 (by decide) ?_
    exact j_iret hC hB dX7_lesson_17 (⟨by simp [lesC, c_5], ⟨SCI.rf, SCJ.rf, rfl⟩⟩)
  · obtain ⟨mm, hmm, rfl⟩ := isB_nat c_5 (by omega)
    obtain ⟨cc, hcc, ecc⟩ := hWc mm hmm
    refine lv_iload_n hx hb dX7_lesson_8 rfl (lv_at hl 2 rfl) ?_
    refine lv_iconst (v := nI 2) hx hb dX7_lesson_9 (by decide) ?_
    refine j_csi [.int what, .int (nI 2)] hC hB hl.1 (c_X7_isBelow l_ G I J O what 2 (by omega)) (va_cwS 2 hts gX7_lesson_X7_isBelow rfl rfl rfl (by decide +kernel) ⟨by decide, by decide⟩) dX7_lesson_10 rfl rfl (Nat.le_of_ble_eq_true rfl) (fun r_10 u_10 H locs hp_10 hB => ?_)
    obtain ⟨rfl, rfl⟩ := hp_10
    refine jb_if_ne (tgt := 18) hx hb dX7_lesson_13 (by decide) (fun c_13 => ?_) (fun c_13 => ?_)
    · obtain ⟨ww, hww, rfl⟩ := isB_nat c_13 (by omega)
      refine lv_aload_n hx hb dX7_lesson_18 rfl (lv_at hl 0 rfl) ?_
      refine j_get (0, 0, 0) 0 (v := .ref (G.2.2.1 (1, 0, 0))) hC hB in_X7 lk_10 dX7_lesson_19 jk0 rfl rfl (by decide) rfl ?_
      refine j_getN (1, 0, 0) 1 (v := .ref (G.2.2.1 (3, 0, 0))) hC hB in_X4 ln_121 dX7_lesson_22 (jk1 (by omega)) rfl rfl (by decide) rfl ?_
      refine lv_iload_n hx hb dX7_lesson_25 rfl (lv_at hl 1 rfl) ?_
      refine j_ald (3, 0, 0) (5, 0, mm) 4 mm hC hB dX7_lesson_26 (jk3 (by omega)) rfl rfl rfl (by omega) (by decide) rfl ?_
      refine lv_astore_n (lv' := [(3, .ref (G.2.2.1 (5, 0, mm))), (0, .ref (G.2.2.1 (0, 0, 0))), (1, .int (nI mm)), (2, .int (nI ww))]) hx hb dX7_lesson_27 rfl hl (by decide) rfl (fun ls hl => ?_)
      refine lv_iconst (v := nI 0) hx hb dX7_lesson_28 (by decide) ?_
      refine lv_istore (lv' := [(4, .int (nI 0)), (3, .ref (G.2.2.1 (5, 0, mm))), (0, .ref (G.2.2.1 (0, 0, 0))), (1, .int (nI mm)), (2, .int (nI ww))]) hx hb dX7_lesson_29 hl (by decide) rfl (fun ls hl => ?_)
      refine lv_iconst (v := nI 0) hx hb dX7_lesson_31 (by decide) ?_
      refine lv_istore (lv' := [(5, .int (nI 0)), (4, .int (nI 0)), (3, .ref (G.2.2.1 (5, 0, mm))), (0, .ref (G.2.2.1 (0, 0, 0))), (1, .int (nI mm)), (2, .int (nI ww))]) hx hb dX7_lesson_32 hl (by decide) rfl (fun ls hl => ?_)
      refine lv_iconst (v := nI 0) hx hb dX7_lesson_34 (by decide) ?_
      refine lv_istore (lv' := [(6, .int (nI 0)), (5, .int (nI 0)), (4, .int (nI 0)), (3, .ref (G.2.2.1 (5, 0, mm))), (0, .ref (G.2.2.1 (0, 0, 0))), (1, .int (nI mm)), (2, .int (nI ww))]) hx hb dX7_lesson_35 hl (by decide) rfl (fun ls hl => ?_)
      have lp_37 : ∀ (fu : Nat) (w_ : Nat → Int32) (z_ : Nat → Int32) (o_ : Nat → Int32) (f_ : Nat → Int32) (h_ : Nat → Int32) (best : Int32) (most : Int32) (s : Nat), 4 - s < fu → (s ≤ 4) → ((best, most) = it (lesSC (I 0) mm nd) s (nI 0, nI 0)) → ∀ H locs ls, jB G A s_.heap (sr (sr (sr (sr (sr I 19 (w_)) 26 (z_)) 27 (o_)) 28 (f_)) 29 (h_), J, O) H locs → lv_has ls 8 [(6, .int (nI s)), (5, .int most), (4, .int best), (3, .ref (G.2.2.1 (5, 0, mm))), (0, .ref (G.2.2.1 (0, 0, 0))), (1, .int (nI mm)), (2, .int (nI ww))] → W pg_ l_ ev_ ({ frames := 6, cells := 0, slots := 0, locals := 144 }) s_ mi_ ([.ref (G.2.2.1 (0, 0, 0)), .int (nI mm), .int (nI ww)]).toArray below meth cd_ H locs 0 0 (jQi G A below [.ref (G.2.2.1 (0, 0, 0)), .int (nI mm), .int (nI ww)] s_ (fun r u => r = lesC (I 0) nd nm (nI mm) (nI ww) ∧ SCs (I, J, O) u)) (F0 mi_ 37 ls []) := by
        intro fu
        induction fu with
        | zero => intro w_ z_ o_ f_ h_ best most s hf; exact absurd hf (Nat.not_lt_zero _)
        | succ fu ih_37 =>
          intro w_ z_ o_ f_ h_ best most s hf_37 hs4 hs H locs ls hB hl
          refine lv_iload hx hb dX7_lesson_37 (lv_at hl 0 rfl) ?_
          refine lv_iconst (v := nI 4) hx hb dX7_lesson_39 (by decide) ?_
          refine jn_icmp_ge (tgt := 90) hx hb dX7_lesson_40 (by decide) (by omega) (by omega) (fun c_40 => ?_) (fun c_40 => ?_)
          · refine lv_iload_n hx hb dX7_lesson_90 rfl (lv_at hl 6 rfl) ?_
            refine jn_if_ne (tgt := 99) hx hb dX7_lesson_91 (by decide) (by omega) (fun c_91 => ?_) (fun c_91 => ?_)
            · refine lv_iload hx hb dX7_lesson_99 (lv_at hl 1 rfl) ?_
              exact j_iret hC hB dX7_lesson_101 (⟨by have hbl : it (lesSC (I 0) mm nd) 4 (nI 0, nI 0) = (best, most) := (by rw [hs, show s = 4 by omega]); simp [lesC, hbl, tN, nIc (show mm < 2147483648 by omega), nIq (show ww < 2147483648 by omega) (show 0 < 2147483648 by omega), c_5, c_13, c_91], ⟨SCI.sr (SCI.sr (SCI.sr (SCI.sr (SCI.sr (SCI.rf) scc19) (sccI (by decide))) (sccI (by decide))) (sccI (by decide))) (sccI (by decide)), SCJ.rf, rfl⟩⟩)
            · refine lv_iload hx hb dX7_lesson_94 (lv_at hl 2 rfl) ?_
              refine lv_goto (tgt := 101) hx hb dX7_lesson_96 (by decide) ?_
              exact j_iret hC hB dX7_lesson_101 (⟨by have hbl : it (lesSC (I 0) mm nd) 4 (nI 0, nI 0) = (best, most) := (by rw [hs, show s = 4 by omega]); simp [lesC, hbl, tN, nIc (show mm < 2147483648 by omega), nIq (show ww < 2147483648 by omega) (show 0 < 2147483648 by omega), c_5, c_13, eq_true c_91], ⟨SCI.sr (SCI.sr (SCI.sr (SCI.sr (SCI.sr (SCI.rf) scc19) (sccI (by decide))) (sccI (by decide))) (sccI (by decide))) (sccI (by decide)), SCJ.rf, rfl⟩⟩)
          · refine lv_aload_n hx hb dX7_lesson_43 rfl (lv_at hl 4 rfl) ?_
            refine j_get (0, 0, 0) 7 (v := .ref (G.2.2.1 (11, 0, 0))) hC hB in_X7 lk_44 dX7_lesson_44 jk0 rfl rfl (by decide) rfl ?_
            refine lv_aload_n hx hb dX7_lesson_47 rfl (lv_at hl 3 rfl) ?_
            refine lv_aload_n hx hb dX7_lesson_48 rfl (lv_at hl 3 rfl) ?_
            refine j_getN (5, 0, mm) 1 (v := .int ((sr (sr (sr (sr (sr I 19 (w_)) 26 (z_)) 27 (o_)) 28 (f_)) 29 (h_)) 0 (63 + mm))) hC hB in_X3 ln_128 dX7_lesson_49 (jk5 (by omega) (by omega)) rfl rfl (by decide) rfl ?_
            refine j_eqi (x := (sr (sr (sr (sr (sr I 19 (w_)) 26 (z_)) 27 (o_)) 28 (f_)) 29 (h_)) 0 (63 + mm)) (y := (I 0) (63 + mm)) ((sr_nj (show (0 : Nat) ≠ 29 by omega)).trans ((sr_nj (show (0 : Nat) ≠ 28 by omega)).trans ((sr_nj (show (0 : Nat) ≠ 27 by omega)).trans ((sr_nj (show (0 : Nat) ≠ 26 by omega)).trans ((sr_nj (show (0 : Nat) ≠ 19 by omega))))))) ?_
            refine lv_iload hx hb dX7_lesson_52 (lv_at hl 0 rfl) ?_
            refine j_cvv (11, 0, 0) [.ref (G.2.2.1 (5, 0, mm)), .int ((I 0) (63 + mm)), .int (nI s)] hC hB hl.1 (c_X1_followAs l_ G (sr (sr (sr (sr (sr I 19 (w_)) 26 (z_)) 27 (o_)) 28 (f_)) 29 (h_)) J O mm ((I 0) (63 + mm)) (nI s) (by omega) (by omega) ((sr_nj (show (0 : Nat) ≠ 29 by omega)).trans ((sr_nj (show (0 : Nat) ≠ 28 by omega)).trans ((sr_nj (show (0 : Nat) ≠ 27 by omega)).trans ((sr_nj (show (0 : Nat) ≠ 26 by omega)).trans ((sr_nj (show (0 : Nat) ≠ 19 by omega)).trans (ecc)))))) (by omega) ((sr_nj (show (0 : Nat) ≠ 29 by omega)).trans ((sr_nj (show (0 : Nat) ≠ 28 by omega)).trans ((sr_nj (show (0 : Nat) ≠ 27 by omega)).trans ((sr_nj (show (0 : Nat) ≠ 26 by omega)).trans ((sr_nj (show (0 : Nat) ≠ 19 by omega)).trans (hD)))))) (hW)) (cwV 3 hts gX7_lesson_X1_followAs rfl rfl rfl (by decide +kernel) ⟨by decide, by decide⟩) dX7_lesson_54 jk11 rfl rfl rfl rfl (Nat.le_of_ble_eq_true rfl) (fun u_54 H locs hp_54 hB => ?_)
            obtain ⟨x19_54, x27_54, x28_54, x29_54, hx_54, rfl⟩ := hp_54
            try simp only [show (sr (sr (sr (sr (sr I 19 (w_)) 26 (z_)) 27 (o_)) 28 (f_)) 29 (h_)) 26 = z_ from (sr_ne (show (26 : Nat) ≠ 29 by omega)).trans ((sr_ne (show (26 : Nat) ≠ 28 by omega)).trans ((sr_ne (show (26 : Nat) ≠ 27 by omega)).trans (sr_self))), show (sr (sr (sr (sr (sr I 19 (w_)) 26 (z_)) 27 (o_)) 28 (f_)) 29 (h_)) 0 = I 0 from (sr_ne (show (0 : Nat) ≠ 29 by omega)).trans ((sr_ne (show (0 : Nat) ≠ 28 by omega)).trans ((sr_ne (show (0 : Nat) ≠ 27 by omega)).trans ((sr_ne (show (0 : Nat) ≠ 26 by omega)).trans ((sr_ne (show (0 : Nat) ≠ 19 by omega))))))] at hB
            try simp only [show (sr (sr (sr (sr (sr I 19 (w_)) 26 (z_)) 27 (o_)) 28 (f_)) 29 (h_)) 26 = z_ from (sr_ne (show (26 : Nat) ≠ 29 by omega)).trans ((sr_ne (show (26 : Nat) ≠ 28 by omega)).trans ((sr_ne (show (26 : Nat) ≠ 27 by omega)).trans (sr_self))), show (sr (sr (sr (sr (sr I 19 (w_)) 26 (z_)) 27 (o_)) 28 (f_)) 29 (h_)) 0 = I 0 from (sr_ne (show (0 : Nat) ≠ 29 by omega)).trans ((sr_ne (show (0 : Nat) ≠ 28 by omega)).trans ((sr_ne (show (0 : Nat) ≠ 27 by omega)).trans ((sr_ne (show (0 : Nat) ≠ 26 by omega)).trans ((sr_ne (show (0 : Nat) ≠ 19 by omega))))))] at hx_54
            have hB : jB G A s_.heap (sr (sr (sr (sr (sr I 26 (upd (z_) 0 (nI cc))) 19 (x19_54)) 27 (x27_54)) 28 (x28_54)) 29 (x29_54), J, O) H locs := by (rw [show sr (sr (sr (sr (sr I 26 (upd (z_) 0 (nI cc))) 19 (x19_54)) 27 (x27_54)) 28 (x28_54)) 29 (x29_54) = sr (sr (sr (sr (sr (sr (sr (sr (sr (sr I 19 (w_)) 26 (z_)) 27 (o_)) 28 (f_)) 29 (h_)) 26 (upd (z_) 0 (nI cc))) 19 (x19_54)) 27 (x27_54)) 28 (x28_54)) 29 (x29_54) from by funext a; simp +decide only [sr]; (repeat' split) <;> first | rfl | (exfalso; omega) | (subst_vars; rfl)]; exact hB)
            refine lv_aload_n hx hb dX7_lesson_57 rfl (lv_at hl 4 rfl) ?_
            refine j_get (0, 0, 0) 7 (v := .ref (G.2.2.1 (11, 0, 0))) hC hB in_X7 lk_44 dX7_lesson_58 jk0 rfl rfl (by decide) rfl ?_
            refine j_cvi (11, 0, 0) [] hC hB hl.1 (c_X1_reached l_ G (sr (sr (sr (sr (sr I 26 (upd (z_) 0 (nI cc))) 19 (x19_54)) 27 (x27_54)) 28 (x28_54)) 29 (x29_54)) J O) (cwV 0 hts gX7_lesson_X1_reached rfl rfl rfl (by decide +kernel) ⟨by decide, by decide⟩) dX7_lesson_61 jk11 rfl rfl rfl rfl (Nat.le_of_ble_eq_true rfl) (fun r_61 u_61 H locs hp_61 hB => ?_)
            obtain ⟨rfl, rfl⟩ := hp_61
            refine j_eqi (y := rchC (x28_54) 8) (rfl) ?_
            refine j_csi [.int (rchC (x28_54) 8)] hC hB hl.1 (c_J6_bitCount_0f7a4 l_ G (sr (sr (sr (sr (sr I 26 (upd (z_) 0 (nI cc))) 19 (x19_54)) 27 (x27_54)) 28 (x28_54)) 29 (x29_54)) J O (rchC (x28_54) 8)) (va_cwS 1 hts gX7_lesson_J6_bitCount_0f7a4 rfl rfl rfl (by decide +kernel) ⟨by decide, by decide⟩) dX7_lesson_64 rfl rfl (Nat.le_of_ble_eq_true rfl) (fun r_64 u_64 H locs hp_64 hB => ?_)
            obtain ⟨rfl, rfl⟩ := hp_64
            refine j_eqi (y := bcJ (rchC (x28_54) 8)) (rfl) ?_
            refine lv_istore (lv' := [(7, .int (bcJ (rchC (x28_54) 8))), (6, .int (nI s)), (5, .int most), (4, .int best), (3, .ref (G.2.2.1 (5, 0, mm))), (0, .ref (G.2.2.1 (0, 0, 0))), (1, .int (nI mm)), (2, .int (nI ww))]) hx hb dX7_lesson_67 hl (by decide) rfl (fun ls hl => ?_)
            refine lv_iload hx hb dX7_lesson_69 (lv_at hl 0 rfl) ?_
            refine lv_iload hx hb dX7_lesson_71 (lv_at hl 2 rfl) ?_
            refine lv_icmp_le (tgt := 84) hx hb dX7_lesson_73 (by decide) (fun c_73 => ?_) (fun c_73 => ?_)
            · refine lv_iinc (v := nI (s + 1)) (lv' := [(6, .int (nI (s + 1))), (7, .int (bcJ (rchC (x28_54) 8))), (5, .int most), (4, .int best), (3, .ref (G.2.2.1 (5, 0, mm))), (0, .ref (G.2.2.1 (0, 0, 0))), (1, .int (nI mm)), (2, .int (nI ww))]) hx hb dX7_lesson_84 hl (k := 1) rfl (jn_inc _ 1) (by decide) rfl (fun ls hl => ?_)
              refine lv_goto (tgt := 37) hx hb dX7_lesson_87 (by decide) ?_
              exact ih_37 x19_54 (upd (z_) 0 (nI cc)) x27_54 x28_54 x29_54 best most (s + 1) (by omega) (by omega) (by (have hq : bcJ (rchC x28_54 8) = lesQC (I 0) mm nd s := by rw [rchC_cong (fun j hj => (hx_54.2 j hj).1)]; simp [lesQC, ceF_eq hcc ecc]); rw [it_s, ← hs]; rw [hq] at c_73; simp [lesSC, hq, c_73]) _ _ _ (jB_cast2 hB (by first | exact (sr_id _ _).symm | (funext a_; simp +decide only [sr]; (repeat' split) <;> first | rfl | (exfalso; omega) | (subst_vars; rfl))) rfl) (lv_sub hl [0, 2, 3, 4, 5, 6, 7] rfl)
            · refine lv_iload hx hb dX7_lesson_76 (lv_at hl 1 rfl) ?_
              refine lv_istore (lv' := [(4, .int (nI s)), (7, .int (bcJ (rchC (x28_54) 8))), (6, .int (nI s)), (5, .int most), (3, .ref (G.2.2.1 (5, 0, mm))), (0, .ref (G.2.2.1 (0, 0, 0))), (1, .int (nI mm)), (2, .int (nI ww))]) hx hb dX7_lesson_78 hl (by decide) rfl (fun ls hl => ?_)
              refine lv_iload hx hb dX7_lesson_80 (lv_at hl 1 rfl) ?_
              refine lv_istore (lv' := [(5, .int (bcJ (rchC (x28_54) 8))), (4, .int (nI s)), (7, .int (bcJ (rchC (x28_54) 8))), (6, .int (nI s)), (3, .ref (G.2.2.1 (5, 0, mm))), (0, .ref (G.2.2.1 (0, 0, 0))), (1, .int (nI mm)), (2, .int (nI ww))]) hx hb dX7_lesson_82 hl (by decide) rfl (fun ls hl => ?_)
              refine lv_iinc (v := nI (s + 1)) (lv' := [(6, .int (nI (s + 1))), (5, .int (bcJ (rchC (x28_54) 8))), (4, .int (nI s)), (7, .int (bcJ (rchC (x28_54) 8))), (3, .ref (G.2.2.1 (5, 0, mm))), (0, .ref (G.2.2.1 (0, 0, 0))), (1, .int (nI mm)), (2, .int (nI ww))]) hx hb dX7_lesson_84 hl (k := 3) rfl (jn_inc _ 1) (by decide) rfl (fun ls hl => ?_)
              refine lv_goto (tgt := 37) hx hb dX7_lesson_87 (by decide) ?_
              exact ih_37 x19_54 (upd (z_) 0 (nI cc)) x27_54 x28_54 x29_54 (nI s) (bcJ (rchC (x28_54) 8)) (s + 1) (by omega) (by omega) (by (have hq : bcJ (rchC x28_54 8) = lesQC (I 0) mm nd s := by rw [rchC_cong (fun j hj => (hx_54.2 j hj).1)]; simp [lesQC, ceF_eq hcc ecc]); rw [it_s, ← hs]; rw [hq] at c_73; simp [lesSC, hq, c_73]) _ _ _ (jB_cast2 hB (by first | exact (sr_id _ _).symm | (funext a_; simp +decide only [sr]; (repeat' split) <;> first | rfl | (exfalso; omega) | (subst_vars; rfl))) rfl) (lv_sub hl [0, 1, 2, 4, 5, 6, 7] rfl)
      exact lp_37 _ (I 19) (I 26) (I 27) (I 28) (I 29) (nI 0) (nI 0) 0 (Nat.lt_succ_self _) (by omega) (rfl) _ _ _ (jB_cast2 hB (by first | exact (sr_id _ _).symm | (funext a_; simp +decide only [sr]; (repeat' split) <;> first | rfl | (exfalso; omega) | (subst_vars; rfl))) rfl) (lv_sub hl [0, 1, 2, 3, 4, 5, 6] rfl)
    · refine lv_iconst (v := (-1 : Int32)) hx hb dX7_lesson_16 (by decide) ?_
      exact j_iret hC hB dX7_lesson_17 (⟨by simp [lesC, c_5, c_13], ⟨SCI.rf, SCJ.rf, rfl⟩⟩)

set_option maxHeartbeats 4000000 in
set_option maxRecDepth 100000 in
theorem c_X7_meet (l_ : Launch) (G : jG) (I : Nat → Nat → Int32) (J : Nat → Nat → Int64) (O : Nat → Nat → Nat) (man other what : Int32) {nd : Nat} (hnd : nd ≤ 10) (hD : I 0 0 = nI nd) {nm : Nat} (hnm : nm ≤ 4) (hM : I 0 1 = nI nm) (hW : wfD (I 0) nd) (hWc : ∀ m, m < nm → ∃ c, c < 8 ∧ I 0 (51 + m) = nI c) : jMi l_ G yX7_meet wsX7_meet ({ frames := 7, cells := 0, slots := 0, locals := 165 }) [.ref (G.2.2.1 (0, 0, 0)), .int man, .int other, .int what] (I, J, O) (fun r u => r = meeC (I 0) nd nm man other what ∧ SCs (I, J, O) u) := by
  refine jMi_of (cc := cX7_meet) (maxL := 5) (ret := (some .int)) (lv0 := [(0, .ref (G.2.2.1 (0, 0, 0))), (1, .int man), (2, .int other), (3, .int what)]) (by decide) rfl (Nat.le_of_ble_eq_true rfl) rfl ?_
  intro pg_ ev_ s_ mi_ below meth cd_ A ls hC hB hl
  obtain ⟨hx, hb, hr, hml, hown, hts, hlocks, hK, hA⟩ := id hC
  have lk_44 := hts (.fieldLink RX7 44 "RiddlePrison" "foresight" "LRiddlePrison$Foresight;") (by decide +kernel)
  have lk_10 := hts (.fieldLink RX7 10 "RiddlePrison" "now" "LRiddlePrison$Prison;") (by decide +kernel)
  have ln_121 := (by decide +kernel : Cond.fieldLinkNest RX7 121 "RiddlePrison$Prison" "men" "[LRiddlePrison$Man;" "RiddlePrison" ∈ nsW)
  have in_X7 := (fun w h => List.mem_cons_of_mem _ (List.mem_append_left _ (List.mem_append_left _ (List.mem_append_left _ (List.mem_append_left _ (List.mem_append_right _ h))))) : ∀ w ∈ wsX70, w ∈ wsX7_meet)
  have in_X4 := (fun w h => List.mem_cons_of_mem _ (List.mem_append_left _ (List.mem_append_left _ (List.mem_append_left _ (List.mem_append_right _ h)))) : ∀ w ∈ wsX40, w ∈ wsX7_meet)
  refine lv_aload_n hx hb dX7_meet_0 rfl (lv_at hl 0 rfl) ?_
  refine lv_iload_n hx hb dX7_meet_1 rfl (lv_at hl 1 rfl) ?_
  refine j_cvi (0, 0, 0) [.int man] hC hB hl.1 (c_X7_isMan l_ G I J O man (by omega) (hM)) (cwV 1 hts gX7_meet_X7_isMan rfl rfl rfl (by decide +kernel) ⟨by decide, by decide⟩) dX7_meet_2 jk0 rfl rfl rfl rfl (Nat.le_of_ble_eq_true rfl) (fun r_2 u_2 H locs hp_2 hB => ?_)
  obtain ⟨rfl, rfl⟩ := hp_2
  refine jb_if_eq (tgt := 29) hx hb dX7_meet_5 (by decide) (fun c_5 => ?_) (fun c_5 => ?_)
  · refine lv_iconst (v := (-1 : Int32)) hx hb dX7_meet_29 (by decide) ?_
    exact j_iret hC hB dX7_meet_30 (⟨by simp [meeC, c_5], ⟨SCI.rf, SCJ.rf, rfl⟩⟩)
  · obtain ⟨mm, hmm, rfl⟩ := isB_nat c_5 (by omega)
    obtain ⟨cc, hcc, ecc⟩ := hWc mm hmm
    refine lv_aload_n hx hb dX7_meet_8 rfl (lv_at hl 0 rfl) ?_
    refine lv_iload_n hx hb dX7_meet_9 rfl (lv_at hl 2 rfl) ?_
    refine j_cvi (0, 0, 0) [.int other] hC hB hl.1 (c_X7_isMan l_ G I J O other (by omega) (hM)) (cwV 1 hts gX7_meet_X7_isMan rfl rfl rfl (by decide +kernel) ⟨by decide, by decide⟩) dX7_meet_10 jk0 rfl rfl rfl rfl (Nat.le_of_ble_eq_true rfl) (fun r_10 u_10 H locs hp_10 hB => ?_)
    obtain ⟨rfl, rfl⟩ := hp_10
    refine jb_if_eq (tgt := 29) hx hb dX7_meet_13 (by decide) (fun c_13 => ?_) (fun c_13 => ?_)
    · refine lv_iconst (v := (-1 : Int32)) hx hb dX7_meet_29 (by decide) ?_
      exact j_iret hC hB dX7_meet_30 (⟨by simp [meeC, c_5, c_13], ⟨SCI.rf, SCJ.rf, rfl⟩⟩)
    · obtain ⟨oo, hoo, rfl⟩ := isB_nat c_13 (by omega)
      obtain ⟨co, hco, eco⟩ := hWc oo hoo
      refine lv_iload_n hx hb dX7_meet_16 rfl (lv_at hl 1 rfl) ?_
      refine lv_iload_n hx hb dX7_meet_17 rfl (lv_at hl 2 rfl) ?_
      refine jn_icmp_eq (tgt := 29) hx hb dX7_meet_18 (by decide) (by omega) (by omega) (fun c_18 => ?_) (fun c_18 => ?_)
      · refine lv_iconst (v := (-1 : Int32)) hx hb dX7_meet_29 (by decide) ?_
        exact j_iret hC hB dX7_meet_30 (⟨by simp [meeC, c_5, c_13, eq_true c_18, nIq (show mm < 2147483648 by omega) (show oo < 2147483648 by omega)], ⟨SCI.rf, SCJ.rf, rfl⟩⟩)
      · refine lv_iload_n hx hb dX7_meet_21 rfl (lv_at hl 3 rfl) ?_
        refine lv_iconst (v := nI 2) hx hb dX7_meet_22 (by decide) ?_
        refine j_csi [.int what, .int (nI 2)] hC hB hl.1 (c_X7_isBelow l_ G I J O what 2 (by omega)) (va_cwS 2 hts gX7_meet_X7_isBelow rfl rfl rfl (by decide +kernel) ⟨by decide, by decide⟩) dX7_meet_23 rfl rfl (Nat.le_of_ble_eq_true rfl) (fun r_23 u_23 H locs hp_23 hB => ?_)
        obtain ⟨rfl, rfl⟩ := hp_23
        refine jb_if_ne (tgt := 31) hx hb dX7_meet_26 (by decide) (fun c_26 => ?_) (fun c_26 => ?_)
        · obtain ⟨ww, hww, rfl⟩ := isB_nat c_26 (by omega)
          refine lv_aload_n hx hb dX7_meet_31 rfl (lv_at hl 0 rfl) ?_
          refine j_get (0, 0, 0) 7 (v := .ref (G.2.2.1 (11, 0, 0))) hC hB in_X7 lk_44 dX7_meet_32 jk0 rfl rfl (by decide) rfl ?_
          refine lv_aload_n hx hb dX7_meet_35 rfl (lv_at hl 0 rfl) ?_
          refine j_get (0, 0, 0) 0 (v := .ref (G.2.2.1 (1, 0, 0))) hC hB in_X7 lk_10 dX7_meet_36 jk0 rfl rfl (by decide) rfl ?_
          refine j_getN (1, 0, 0) 1 (v := .ref (G.2.2.1 (3, 0, 0))) hC hB in_X4 ln_121 dX7_meet_39 (jk1 (by omega)) rfl rfl (by decide) rfl ?_
          refine lv_iload_n hx hb dX7_meet_42 rfl (lv_at hl 2 rfl) ?_
          refine j_ald (3, 0, 0) (5, 0, oo) 4 oo hC hB dX7_meet_43 (jk3 (by omega)) rfl rfl rfl (by omega) (by decide) rfl ?_
          refine j_cvv (11, 0, 0) [.ref (G.2.2.1 (5, 0, oo))] hC hB hl.1 (c_X1_follow l_ G I J O oo (by omega) (by omega) (eco) (by omega) (hD) (hW)) (cwV 1 hts gX7_meet_X1_follow rfl rfl rfl (by decide +kernel) ⟨by decide, by decide⟩) dX7_meet_44 jk11 rfl rfl rfl rfl (Nat.le_of_ble_eq_true rfl) (fun u_44 H locs hp_44 hB => ?_)
          obtain ⟨x19_44, x27_44, x28_44, x29_44, hx_44, rfl⟩ := hp_44
          have hB : jB G A s_.heap (sr (sr (sr (sr (sr I 26 (upd (I 26) 0 (nI co))) 19 (x19_44)) 27 (x27_44)) 28 (x28_44)) 29 (x29_44), J, O) H locs := hB
          refine lv_aload_n hx hb dX7_meet_47 rfl (lv_at hl 0 rfl) ?_
          refine j_get (0, 0, 0) 7 (v := .ref (G.2.2.1 (11, 0, 0))) hC hB in_X7 lk_44 dX7_meet_48 jk0 rfl rfl (by decide) rfl ?_
          refine j_cvv (11, 0, 0) [] hC hB hl.1 (c_X1_setAsideDistances l_ G (sr (sr (sr (sr (sr I 26 (upd (I 26) 0 (nI co))) 19 (x19_44)) 27 (x27_44)) 28 (x28_44)) 29 (x29_44)) J O) (cwV 0 hts gX7_meet_X1_setAsideDistances rfl rfl rfl (by decide +kernel) ⟨by decide, by decide⟩) dX7_meet_51 jk11 rfl rfl rfl rfl (Nat.le_of_ble_eq_true rfl) (fun u_51 H locs hp_51 hB => ?_)
          obtain rfl := hp_51
          have hB : jB G A s_.heap (sr (sr (sr (sr (sr (sr I 26 (upd (I 26) 0 (nI co))) 19 (x19_44)) 27 (x27_44)) 28 (x28_44)) 29 (x29_44)) 30 (va_cpy (x28_44) (I 30) 0 0 8), J, O) H locs := hB
          refine lv_aload_n hx hb dX7_meet_54 rfl (lv_at hl 0 rfl) ?_
          refine j_get (0, 0, 0) 7 (v := .ref (G.2.2.1 (11, 0, 0))) hC hB in_X7 lk_44 dX7_meet_55 jk0 rfl rfl (by decide) rfl ?_
          refine lv_aload_n hx hb dX7_meet_58 rfl (lv_at hl 0 rfl) ?_
          refine j_get (0, 0, 0) 0 (v := .ref (G.2.2.1 (1, 0, 0))) hC hB in_X7 lk_10 dX7_meet_59 jk0 rfl rfl (by decide) rfl ?_
          refine j_getN (1, 0, 0) 1 (v := .ref (G.2.2.1 (3, 0, 0))) hC hB in_X4 ln_121 dX7_meet_62 (jk1 (by omega)) rfl rfl (by decide) rfl ?_
          refine lv_iload_n hx hb dX7_meet_65 rfl (lv_at hl 1 rfl) ?_
          refine j_ald (3, 0, 0) (5, 0, mm) 4 mm hC hB dX7_meet_66 (jk3 (by omega)) rfl rfl rfl (by omega) (by decide) rfl ?_
          refine j_cvv (11, 0, 0) [.ref (G.2.2.1 (5, 0, mm))] hC hB hl.1 (c_X1_follow l_ G (sr (sr (sr (sr (sr (sr I 26 (upd (I 26) 0 (nI co))) 19 (x19_44)) 27 (x27_44)) 28 (x28_44)) 29 (x29_44)) 30 (va_cpy (x28_44) (I 30) 0 0 8)) J O mm (by omega) (by omega) ((sr_nj (show (0 : Nat) ≠ 30 by omega)).trans ((sr_nj (show (0 : Nat) ≠ 29 by omega)).trans ((sr_nj (show (0 : Nat) ≠ 28 by omega)).trans ((sr_nj (show (0 : Nat) ≠ 27 by omega)).trans ((sr_nj (show (0 : Nat) ≠ 19 by omega)).trans ((sr_nj (show (0 : Nat) ≠ 26 by omega)).trans (ecc))))))) (by omega) ((sr_nj (show (0 : Nat) ≠ 30 by omega)).trans ((sr_nj (show (0 : Nat) ≠ 29 by omega)).trans ((sr_nj (show (0 : Nat) ≠ 28 by omega)).trans ((sr_nj (show (0 : Nat) ≠ 27 by omega)).trans ((sr_nj (show (0 : Nat) ≠ 19 by omega)).trans ((sr_nj (show (0 : Nat) ≠ 26 by omega)).trans (hD))))))) (hW)) (cwV 1 hts gX7_meet_X1_follow rfl rfl rfl (by decide +kernel) ⟨by decide, by decide⟩) dX7_meet_67 jk11 rfl rfl rfl rfl (Nat.le_of_ble_eq_true rfl) (fun u_67 H locs hp_67 hB => ?_)
          obtain ⟨x19_67, x27_67, x28_67, x29_67, hx_67, rfl⟩ := hp_67
          try simp only [show (sr (sr (sr (sr (sr (sr I 26 (upd (I 26) 0 (nI co))) 19 (x19_44)) 27 (x27_44)) 28 (x28_44)) 29 (x29_44)) 30 (va_cpy (x28_44) (I 30) 0 0 8)) 26 = upd (I 26) 0 (nI co) from (sr_ne (show (26 : Nat) ≠ 30 by omega)).trans ((sr_ne (show (26 : Nat) ≠ 29 by omega)).trans ((sr_ne (show (26 : Nat) ≠ 28 by omega)).trans ((sr_ne (show (26 : Nat) ≠ 27 by omega)).trans ((sr_ne (show (26 : Nat) ≠ 19 by omega)).trans (sr_self))))), show (sr (sr (sr (sr (sr (sr I 26 (upd (I 26) 0 (nI co))) 19 (x19_44)) 27 (x27_44)) 28 (x28_44)) 29 (x29_44)) 30 (va_cpy (x28_44) (I 30) 0 0 8)) 0 = I 0 from (sr_ne (show (0 : Nat) ≠ 30 by omega)).trans ((sr_ne (show (0 : Nat) ≠ 29 by omega)).trans ((sr_ne (show (0 : Nat) ≠ 28 by omega)).trans ((sr_ne (show (0 : Nat) ≠ 27 by omega)).trans ((sr_ne (show (0 : Nat) ≠ 19 by omega)).trans ((sr_ne (show (0 : Nat) ≠ 26 by omega)))))))] at hB
          try simp only [show (sr (sr (sr (sr (sr (sr I 26 (upd (I 26) 0 (nI co))) 19 (x19_44)) 27 (x27_44)) 28 (x28_44)) 29 (x29_44)) 30 (va_cpy (x28_44) (I 30) 0 0 8)) 26 = upd (I 26) 0 (nI co) from (sr_ne (show (26 : Nat) ≠ 30 by omega)).trans ((sr_ne (show (26 : Nat) ≠ 29 by omega)).trans ((sr_ne (show (26 : Nat) ≠ 28 by omega)).trans ((sr_ne (show (26 : Nat) ≠ 27 by omega)).trans ((sr_ne (show (26 : Nat) ≠ 19 by omega)).trans (sr_self))))), show (sr (sr (sr (sr (sr (sr I 26 (upd (I 26) 0 (nI co))) 19 (x19_44)) 27 (x27_44)) 28 (x28_44)) 29 (x29_44)) 30 (va_cpy (x28_44) (I 30) 0 0 8)) 0 = I 0 from (sr_ne (show (0 : Nat) ≠ 30 by omega)).trans ((sr_ne (show (0 : Nat) ≠ 29 by omega)).trans ((sr_ne (show (0 : Nat) ≠ 28 by omega)).trans ((sr_ne (show (0 : Nat) ≠ 27 by omega)).trans ((sr_ne (show (0 : Nat) ≠ 19 by omega)).trans ((sr_ne (show (0 : Nat) ≠ 26 by omega)))))))] at hx_67
          have hB : jB G A s_.heap (sr (sr (sr (sr (sr (sr I 30 (va_cpy (x28_44) (I 30) 0 0 8)) 26 (upd (upd (I 26) 0 (nI co)) 0 (nI cc))) 19 (x19_67)) 27 (x27_67)) 28 (x28_67)) 29 (x29_67), J, O) H locs := by (rw [show sr (sr (sr (sr (sr (sr I 30 (va_cpy (x28_44) (I 30) 0 0 8)) 26 (upd (upd (I 26) 0 (nI co)) 0 (nI cc))) 19 (x19_67)) 27 (x27_67)) 28 (x28_67)) 29 (x29_67) = sr (sr (sr (sr (sr (sr (sr (sr (sr (sr (sr I 26 (upd (I 26) 0 (nI co))) 19 (x19_44)) 27 (x27_44)) 28 (x28_44)) 29 (x29_44)) 30 (va_cpy (x28_44) (I 30) 0 0 8)) 26 (upd (upd (I 26) 0 (nI co)) 0 (nI cc))) 19 (x19_67)) 27 (x27_67)) 28 (x28_67)) 29 (x29_67) from by funext a; simp +decide only [sr]; (repeat' split) <;> first | rfl | (exfalso; omega) | (subst_vars; rfl)]; exact hB)
          refine lv_aload_n hx hb dX7_meet_70 rfl (lv_at hl 0 rfl) ?_
          refine j_get (0, 0, 0) 7 (v := .ref (G.2.2.1 (11, 0, 0))) hC hB in_X7 lk_44 dX7_meet_71 jk0 rfl rfl (by decide) rfl ?_
          refine j_cvi (11, 0, 0) [] hC hB hl.1 (c_X1_meetingCell l_ G (sr (sr (sr (sr (sr (sr I 30 (va_cpy (x28_44) (I 30) 0 0 8)) 26 (upd (upd (I 26) 0 (nI co)) 0 (nI cc))) 19 (x19_67)) 27 (x27_67)) 28 (x28_67)) 29 (x29_67)) J O) (cwV 0 hts gX7_meet_X1_meetingCell rfl rfl rfl (by decide +kernel) ⟨by decide, by decide⟩) dX7_meet_74 jk11 rfl rfl rfl rfl (Nat.le_of_ble_eq_true rfl) (fun r_74 u_74 H locs hp_74 hB => ?_)
          obtain ⟨rfl, rfl⟩ := hp_74
          refine j_eqi (y := (mcF (x28_67) (va_cpy (x28_44) (I 30) 0 0 8)).1) (rfl) ?_
          have hm8 : mcF x28_67 (va_cpy x28_44 (I 30) 0 0 8) = mcF (spM (I 0) mm nd).1 (spM (I 0) oo nd).1 := mcF_cong (fun j hj => (foM hcc ecc hx_67).2.1 j hj) (fun j hj => (cpy8 hj).trans ((foM hco eco hx_44).2.1 j hj))
          refine lv_istore (lv' := [(4, .int ((mcF (x28_67) (va_cpy (x28_44) (I 30) 0 0 8)).1)), (0, .ref (G.2.2.1 (0, 0, 0))), (1, .int (nI mm)), (2, .int (nI oo)), (3, .int (nI ww))]) hx hb dX7_meet_77 hl (by decide) rfl (fun ls hl => ?_)
          refine lv_iload hx hb dX7_meet_79 (lv_at hl 0 rfl) ?_
          refine lv_if_lt (tgt := 88) hx hb dX7_meet_81 (by decide) (fun c_81 => ?_) (fun c_81 => ?_)
          · refine lv_iload hx hb dX7_meet_88 (lv_at hl 0 rfl) ?_
            refine lv_goto (tgt := 102) hx hb dX7_meet_90 (by decide) ?_
            exact j_iret hC hB dX7_meet_102 (⟨by rw [hm8] at c_81 ⊢; simp [meeC, tN, nIc (show mm < 2147483648 by omega), nIc (show oo < 2147483648 by omega), nIq (show mm < 2147483648 by omega) (show oo < 2147483648 by omega), nIq (show ww < 2147483648 by omega) (show 0 < 2147483648 by omega), c_5, c_13, c_18, c_26, c_81], ⟨SCI.sr (SCI.sr (SCI.sr (SCI.sr (SCI.sr (SCI.sr (SCI.rf) (sccI (by decide))) (sccI (by decide))) scc19) (sccI (by decide))) (sccI (by decide))) (sccI (by decide)), SCJ.rf, rfl⟩⟩)
          · refine lv_iload_n hx hb dX7_meet_84 rfl (lv_at hl 4 rfl) ?_
            refine jn_if_ne (tgt := 93) hx hb dX7_meet_85 (by decide) (by omega) (fun c_85 => ?_) (fun c_85 => ?_)
            · refine lv_aload_n hx hb dX7_meet_93 rfl (lv_at hl 1 rfl) ?_
              refine j_get (0, 0, 0) 7 (v := .ref (G.2.2.1 (11, 0, 0))) hC hB in_X7 lk_44 dX7_meet_94 jk0 rfl rfl (by decide) rfl ?_
              refine lv_iload hx hb dX7_meet_97 (lv_at hl 0 rfl) ?_
              obtain ⟨x, hx8, ex⟩ := mcF_nat c_81
              refine j_eqi ex ?_
              refine j_cvi (11, 0, 0) [.int (nI x)] hC hB hl.1 (c_X1_longerWay l_ G (sr (sr (sr (sr (sr (sr I 30 (va_cpy (x28_44) (I 30) 0 0 8)) 26 (upd (upd (I 26) 0 (nI co)) 0 (nI cc))) 19 (x19_67)) 27 (x27_67)) 28 (x28_67)) 29 (x29_67)) J O x (by omega)) (cwV 1 hts gX7_meet_X1_longerWay rfl rfl rfl (by decide +kernel) ⟨by decide, by decide⟩) dX7_meet_99 jk11 rfl rfl rfl rfl (Nat.le_of_ble_eq_true rfl) (fun r_99 u_99 H locs hp_99 hB => ?_)
              obtain ⟨rfl, rfl⟩ := hp_99
              refine j_eqi (y := lwF (x28_67) (va_cpy (x28_44) (I 30) 0 0 8) x) (rfl) ?_
              exact j_iret hC hB dX7_meet_102 (⟨by rw [hm8] at c_81 ex; rw [lwF_cong ((foM hcc ecc hx_67).2.1 x hx8) ((cpy8 hx8).trans ((foM hco eco hx_44).2.1 x hx8))]; simp [meeC, ex, nIc (show x < 2147483648 by omega), nI_pos (show x < 2147483648 by omega), tN, nIc (show mm < 2147483648 by omega), nIc (show oo < 2147483648 by omega), nIq (show mm < 2147483648 by omega) (show oo < 2147483648 by omega), nIq (show ww < 2147483648 by omega) (show 0 < 2147483648 by omega), c_5, c_13, c_18, c_26, c_81, c_85], ⟨SCI.sr (SCI.sr (SCI.sr (SCI.sr (SCI.sr (SCI.sr (SCI.rf) (sccI (by decide))) (sccI (by decide))) scc19) (sccI (by decide))) (sccI (by decide))) (sccI (by decide)), SCJ.rf, rfl⟩⟩)
            · refine lv_iload hx hb dX7_meet_88 (lv_at hl 0 rfl) ?_
              refine lv_goto (tgt := 102) hx hb dX7_meet_90 (by decide) ?_
              exact j_iret hC hB dX7_meet_102 (⟨by rw [hm8] at c_81 ⊢; simp [meeC, tN, nIc (show mm < 2147483648 by omega), nIc (show oo < 2147483648 by omega), nIq (show mm < 2147483648 by omega) (show oo < 2147483648 by omega), nIq (show ww < 2147483648 by omega) (show 0 < 2147483648 by omega), c_5, c_13, c_18, c_26, c_81, eq_true c_85], ⟨SCI.sr (SCI.sr (SCI.sr (SCI.sr (SCI.sr (SCI.sr (SCI.rf) (sccI (by decide))) (sccI (by decide))) scc19) (sccI (by decide))) (sccI (by decide))) (sccI (by decide)), SCJ.rf, rfl⟩⟩)
        · refine lv_iconst (v := (-1 : Int32)) hx hb dX7_meet_29 (by decide) ?_
          exact j_iret hC hB dX7_meet_30 (⟨by simp [meeC, c_5, c_13, c_18, c_26, nIq (show mm < 2147483648 by omega) (show oo < 2147483648 by omega)], ⟨SCI.rf, SCJ.rf, rfl⟩⟩)

set_option maxHeartbeats 4000000 in
set_option maxRecDepth 100000 in
theorem c_X7_commonDivisor (l_ : Launch) (G : jG) (I : Nat → Nat → Int32) (J : Nat → Nat → Int64) (O : Nat → Nat → Nat) (a b : Int64) : jMl l_ G yX7_commonDivisor wsX7_commonDivisor ({ frames := 0, cells := 0, slots := 0, locals := 0 }) [.long a, .long b] (I, J, O) (fun r u => r = cdF 100 a b ∧ u = (I, J, O)) := by
  refine jMl_of (cc := cX7_commonDivisor) (maxL := 11) (ret := (some .long)) (lv0 := [(0, .long a), (2, .long b)]) (by decide) rfl (Nat.le_of_ble_eq_true rfl) rfl ?_
  intro pg_ ev_ s_ mi_ below meth cd_ A ls hC hB hl
  obtain ⟨hx, hb, hr, hml, hown, hts, hlocks, hK, hA⟩ := id hC
  refine lv_lload_n hx hb dX7_commonDivisor_0 rfl (lv_at hl 0 rfl) ?_
  refine lv_lstore (lv' := [(4, .long a), (0, .long a), (2, .long b)]) hx hb dX7_commonDivisor_1 hl (by decide) rfl (fun ls hl => ?_)
  refine lv_lload_n hx hb dX7_commonDivisor_3 rfl (lv_at hl 2 rfl) ?_
  refine lv_lstore (lv' := [(6, .long b), (4, .long a), (0, .long a), (2, .long b)]) hx hb dX7_commonDivisor_4 hl (by decide) rfl (fun ls hl => ?_)
  refine lv_iconst (v := nI 0) hx hb dX7_commonDivisor_6 (by decide) ?_
  refine lv_istore (lv' := [(8, .int (nI 0)), (6, .long b), (4, .long a), (0, .long a), (2, .long b)]) hx hb dX7_commonDivisor_7 hl (by decide) rfl (fun ls hl => ?_)
  have lp_9 : ∀ (fu : Nat) (x : Int64) (y : Int64) (k : Nat), 100 - k < fu → (k ≤ 100) → (cdF (100 - k) x y = cdF 100 a b) → ∀ H locs ls, jB G A s_.heap (I, J, O) H locs → lv_has ls 11 [(8, .int (nI k)), (6, .long y), (4, .long x), (0, .long a), (2, .long b)] → W pg_ l_ ev_ ({ frames := 0, cells := 0, slots := 0, locals := 0 }) s_ mi_ ([.long a, .long b]).toArray below meth cd_ H locs 0 0 (jQl G A below [.long a, .long b] s_ (fun r u => r = cdF 100 a b ∧ u = (I, J, O))) (F0 mi_ 9 ls []) := by
    intro fu
    induction fu with
    | zero => intro x y k hf; exact absurd hf (Nat.not_lt_zero _)
    | succ fu ih_9 =>
      intro x y k hf_9 hk hs H locs ls hB hl
      refine lv_iload hx hb dX7_commonDivisor_9 (lv_at hl 0 rfl) ?_
      refine lv_bipush (v := nI 100) hx hb dX7_commonDivisor_11 (by decide) ?_
      refine jn_icmp_ge (tgt := 44) hx hb dX7_commonDivisor_13 (by decide) (by omega) (by omega) (fun c_13 => ?_) (fun c_13 => ?_)
      · refine lv_lload hx hb dX7_commonDivisor_44 (lv_at hl 2 rfl) ?_
        exact j_lret hC hB dX7_commonDivisor_46 (⟨by rw [← hs, show 100 - k = 0 by omega]; rfl, rfl⟩)
      · refine lv_lload hx hb dX7_commonDivisor_16 (lv_at hl 1 rfl) ?_
        refine lv_lconst (v := 0) hx hb dX7_commonDivisor_18 rfl ?_
        refine W.lcmp hx hb dX7_commonDivisor_19 ?_
        refine jl_if_eq (tgt := 44) hx hb dX7_commonDivisor_20 (by decide) (fun c_20 => ?_) (fun c_20 => ?_)
        · refine lv_lload hx hb dX7_commonDivisor_44 (lv_at hl 2 rfl) ?_
          exact j_lret hC hB dX7_commonDivisor_46 (⟨by rw [← hs, c_20]; exact (cdF_0 _ _).symm, rfl⟩)
        · refine lv_lload hx hb dX7_commonDivisor_23 (lv_at hl 2 rfl) ?_
          refine lv_lload hx hb dX7_commonDivisor_25 (lv_at hl 1 rfl) ?_
          refine lv_lrem hx hb dX7_commonDivisor_27 (c_20) ?_
          refine lv_lstore (lv' := [(9, .long (x - x / y * y)), (8, .int (nI k)), (6, .long y), (4, .long x), (0, .long a), (2, .long b)]) hx hb dX7_commonDivisor_28 hl (by decide) rfl (fun ls hl => ?_)
          refine lv_lload hx hb dX7_commonDivisor_30 (lv_at hl 2 rfl) ?_
          refine lv_lstore (lv' := [(4, .long y), (9, .long (x - x / y * y)), (8, .int (nI k)), (6, .long y), (0, .long a), (2, .long b)]) hx hb dX7_commonDivisor_32 hl (by decide) rfl (fun ls hl => ?_)
          refine lv_lload hx hb dX7_commonDivisor_34 (lv_at hl 1 rfl) ?_
          refine lv_lstore (lv' := [(6, .long (x - x / y * y)), (4, .long y), (9, .long (x - x / y * y)), (8, .int (nI k)), (0, .long a), (2, .long b)]) hx hb dX7_commonDivisor_36 hl (by decide) rfl (fun ls hl => ?_)
          refine lv_iinc (v := nI (k + 1)) (lv' := [(8, .int (nI (k + 1))), (6, .long (x - x / y * y)), (4, .long y), (9, .long (x - x / y * y)), (0, .long a), (2, .long b)]) hx hb dX7_commonDivisor_38 hl (k := 3) rfl (jn_inc _ 1) (by decide) rfl (fun ls hl => ?_)
          refine lv_goto (tgt := 9) hx hb dX7_commonDivisor_41 (by decide) ?_
          exact ih_9 y (x - x / y * y) (k + 1) (by omega) (by omega) (by rw [← hs, show 100 - k = (100 - (k + 1)) + 1 by omega, cdF, if_neg c_20]) _ _ _ hB (lv_sub hl [0, 1, 2, 4, 5] rfl)
  exact lp_9 _ a b 0 (Nat.lt_succ_self _) (by omega) (rfl) _ _ _ hB (lv_sub hl [0, 1, 2, 3, 4] rfl)

set_option maxHeartbeats 4000000 in
set_option maxRecDepth 100000 in
theorem c_X7_wander (l_ : Launch) (G : jG) (I : Nat → Nat → Int32) (J : Nat → Nat → Int64) (O : Nat → Nat → Nat) (man cell n what : Int32) {nd : Nat} (hnd : nd ≤ 10) (hD : I 0 0 = nI nd) {nm : Nat} (hnm : nm ≤ 4) (hM : I 0 1 = nI nm) (hW : wfD (I 0) nd) (hWc : ∀ m, m < nm → ∃ c, c < 8 ∧ I 0 (51 + m) = nI c) : jMl l_ G yX7_wander wsX7_wander ({ frames := 7, cells := 0, slots := 0, locals := 165 }) [.ref (G.2.2.1 (0, 0, 0)), .int man, .int cell, .int n, .int what] (I, J, O) (fun r u => r = wanC (I 0) nd nm man cell n what ∧ SCs (I, J, O) u) := by
  refine jMl_of (cc := cX7_wander) (maxL := 11) (ret := (some .long)) (lv0 := [(0, .ref (G.2.2.1 (0, 0, 0))), (1, .int man), (2, .int cell), (3, .int n), (4, .int what)]) (by decide) rfl (Nat.le_of_ble_eq_true rfl) rfl ?_
  intro pg_ ev_ s_ mi_ below meth cd_ A ls hC hB hl
  obtain ⟨hx, hb, hr, hml, hown, hts, hlocks, hK, hA⟩ := id hC
  have lk_44 := hts (.fieldLink RX7 44 "RiddlePrison" "foresight" "LRiddlePrison$Foresight;") (by decide +kernel)
  have lk_10 := hts (.fieldLink RX7 10 "RiddlePrison" "now" "LRiddlePrison$Prison;") (by decide +kernel)
  have ln_121 := (by decide +kernel : Cond.fieldLinkNest RX7 121 "RiddlePrison$Prison" "men" "[LRiddlePrison$Man;" "RiddlePrison" ∈ nsW)
  have ln_257 := (by decide +kernel : Cond.fieldLinkNest RX7 257 "RiddlePrison$Foresight" "odds" "[J" "RiddlePrison" ∈ nsW)
  have in_X7 := (fun w h => List.mem_cons_of_mem _ (List.mem_append_left _ (List.mem_append_left _ (List.mem_append_left _ (List.mem_append_left _ (List.mem_append_right _ h))))) : ∀ w ∈ wsX70, w ∈ wsX7_wander)
  have in_X4 := (fun w h => List.mem_cons_of_mem _ (List.mem_append_left _ (List.mem_append_left _ (List.mem_append_left _ (List.mem_append_right _ h)))) : ∀ w ∈ wsX40, w ∈ wsX7_wander)
  have in_X1 := (fun w h => List.mem_cons_of_mem _ (List.mem_append_left _ (List.mem_append_left _ (List.mem_append_right _ h))) : ∀ w ∈ wsX10, w ∈ wsX7_wander)
  refine lv_aload_n hx hb dX7_wander_0 rfl (lv_at hl 0 rfl) ?_
  refine lv_iload_n hx hb dX7_wander_1 rfl (lv_at hl 1 rfl) ?_
  refine j_cvi (0, 0, 0) [.int man] hC hB hl.1 (c_X7_isMan l_ G I J O man (by omega) (hM)) (cwV 1 hts gX7_wander_X7_isMan rfl rfl rfl (by decide +kernel) ⟨by decide, by decide⟩) dX7_wander_2 jk0 rfl rfl rfl rfl (Nat.le_of_ble_eq_true rfl) (fun r_2 u_2 H locs hp_2 hB => ?_)
  obtain ⟨rfl, rfl⟩ := hp_2
  refine jb_if_eq (tgt := 32) hx hb dX7_wander_5 (by decide) (fun c_5 => ?_) (fun c_5 => ?_)
  · refine lv_ldc2 (v := -1) hx hb hown (hts (.constantLong RX7 251 (-1)) (by decide +kernel)) dX7_wander_32 ?_
    exact j_lret hC hB dX7_wander_35 (⟨by simp [wanC, c_5], ⟨SCI.rf, SCJ.rf, rfl⟩⟩)
  · obtain ⟨mm, hmm, rfl⟩ := isB_nat c_5 (by omega)
    obtain ⟨cc, hcc, ecc⟩ := hWc mm hmm
    refine lv_iload_n hx hb dX7_wander_8 rfl (lv_at hl 2 rfl) ?_
    refine j_csi [.int cell] hC hB hl.1 (c_X7_isCell l_ G I J O cell) (va_cwS 1 hts gX7_wander_X7_isCell rfl rfl rfl (by decide +kernel) ⟨by decide, by decide⟩) dX7_wander_9 rfl rfl (Nat.le_of_ble_eq_true rfl) (fun r_9 u_9 H locs hp_9 hB => ?_)
    obtain ⟨rfl, rfl⟩ := hp_9
    refine jb_if_eq (tgt := 32) hx hb dX7_wander_12 (by decide) (fun c_12 => ?_) (fun c_12 => ?_)
    · refine lv_ldc2 (v := -1) hx hb hown (hts (.constantLong RX7 251 (-1)) (by decide +kernel)) dX7_wander_32 ?_
      exact j_lret hC hB dX7_wander_35 (⟨by simp [wanC, c_5, c_12], ⟨SCI.rf, SCJ.rf, rfl⟩⟩)
    · obtain ⟨xx, hxx, rfl⟩ := isB_nat c_12 (by omega)
      refine lv_iload_n hx hb dX7_wander_15 rfl (lv_at hl 3 rfl) ?_
      refine lv_iconst (v := nI 5) hx hb dX7_wander_16 (by decide) ?_
      refine j_csi [.int n, .int (nI 5)] hC hB hl.1 (c_X7_isBelow l_ G I J O n 5 (by omega)) (va_cwS 2 hts gX7_wander_X7_isBelow rfl rfl rfl (by decide +kernel) ⟨by decide, by decide⟩) dX7_wander_17 rfl rfl (Nat.le_of_ble_eq_true rfl) (fun r_17 u_17 H locs hp_17 hB => ?_)
      obtain ⟨rfl, rfl⟩ := hp_17
      refine jb_if_eq (tgt := 32) hx hb dX7_wander_20 (by decide) (fun c_20 => ?_) (fun c_20 => ?_)
      · refine lv_ldc2 (v := -1) hx hb hown (hts (.constantLong RX7 251 (-1)) (by decide +kernel)) dX7_wander_32 ?_
        exact j_lret hC hB dX7_wander_35 (⟨by simp [wanC, c_5, c_12, c_20], ⟨SCI.rf, SCJ.rf, rfl⟩⟩)
      · obtain ⟨nn, hnn, rfl⟩ := isB_nat c_20 (by omega)
        refine lv_iload hx hb dX7_wander_23 (lv_at hl 4 rfl) ?_
        refine lv_iconst (v := nI 2) hx hb dX7_wander_25 (by decide) ?_
        refine j_csi [.int what, .int (nI 2)] hC hB hl.1 (c_X7_isBelow l_ G I J O what 2 (by omega)) (va_cwS 2 hts gX7_wander_X7_isBelow rfl rfl rfl (by decide +kernel) ⟨by decide, by decide⟩) dX7_wander_26 rfl rfl (Nat.le_of_ble_eq_true rfl) (fun r_26 u_26 H locs hp_26 hB => ?_)
        obtain ⟨rfl, rfl⟩ := hp_26
        refine jb_if_ne (tgt := 36) hx hb dX7_wander_29 (by decide) (fun c_29 => ?_) (fun c_29 => ?_)
        · obtain ⟨ww, hww, rfl⟩ := isB_nat c_29 (by omega)
          refine lv_aload_n hx hb dX7_wander_36 rfl (lv_at hl 0 rfl) ?_
          refine j_get (0, 0, 0) 7 (v := .ref (G.2.2.1 (11, 0, 0))) hC hB in_X7 lk_44 dX7_wander_37 jk0 rfl rfl (by decide) rfl ?_
          refine lv_aload_n hx hb dX7_wander_40 rfl (lv_at hl 0 rfl) ?_
          refine j_get (0, 0, 0) 0 (v := .ref (G.2.2.1 (1, 0, 0))) hC hB in_X7 lk_10 dX7_wander_41 jk0 rfl rfl (by decide) rfl ?_
          refine j_getN (1, 0, 0) 1 (v := .ref (G.2.2.1 (3, 0, 0))) hC hB in_X4 ln_121 dX7_wander_44 (jk1 (by omega)) rfl rfl (by decide) rfl ?_
          refine lv_iload_n hx hb dX7_wander_47 rfl (lv_at hl 1 rfl) ?_
          refine j_ald (3, 0, 0) (5, 0, mm) 4 mm hC hB dX7_wander_48 (jk3 (by omega)) rfl rfl rfl (by omega) (by decide) rfl ?_
          refine j_cvv (11, 0, 0) [.ref (G.2.2.1 (5, 0, mm))] hC hB hl.1 (c_X1_follow l_ G I J O mm (by omega) (by omega) (ecc) (by omega) (hD) (hW)) (cwV 1 hts gX7_wander_X1_follow rfl rfl rfl (by decide +kernel) ⟨by decide, by decide⟩) dX7_wander_49 jk11 rfl rfl rfl rfl (Nat.le_of_ble_eq_true rfl) (fun u_49 H locs hp_49 hB => ?_)
          obtain ⟨x19_49, x27_49, x28_49, x29_49, hx_49, rfl⟩ := hp_49
          have hB : jB G A s_.heap (sr (sr (sr (sr (sr I 26 (upd (I 26) 0 (nI cc))) 19 (x19_49)) 27 (x27_49)) 28 (x28_49)) 29 (x29_49), J, O) H locs := hB
          refine lv_aload_n hx hb dX7_wander_52 rfl (lv_at hl 0 rfl) ?_
          refine j_get (0, 0, 0) 7 (v := .ref (G.2.2.1 (11, 0, 0))) hC hB in_X7 lk_44 dX7_wander_53 jk0 rfl rfl (by decide) rfl ?_
          refine lv_iload_n hx hb dX7_wander_56 rfl (lv_at hl 3 rfl) ?_
          refine j_cvl (11, 0, 0) [.int (nI nn)] hC hB hl.1 (c_X1_spreadOdds l_ G (sr (sr (sr (sr (sr I 26 (upd (I 26) 0 (nI cc))) 19 (x19_49)) 27 (x27_49)) 28 (x28_49)) 29 (x29_49)) J O nn ((opM (I 0) mm nd)) (fun j hj => (foM hcc ecc hx_49).1 j hj) (by omega) (by omega) ((sr_nj (show (26 : Nat) ≠ 29 by omega)).trans ((sr_nj (show (26 : Nat) ≠ 28 by omega)).trans ((sr_nj (show (26 : Nat) ≠ 27 by omega)).trans ((sr_nj (show (26 : Nat) ≠ 19 by omega)).trans (sr_sj.trans (pk_us)))))) (by omega) ((sr_nj (show (0 : Nat) ≠ 29 by omega)).trans ((sr_nj (show (0 : Nat) ≠ 28 by omega)).trans ((sr_nj (show (0 : Nat) ≠ 27 by omega)).trans ((sr_nj (show (0 : Nat) ≠ 19 by omega)).trans ((sr_nj (show (0 : Nat) ≠ 26 by omega)).trans (hD)))))) (hW)) (cwV 1 hts gX7_wander_X1_spreadOdds rfl rfl rfl (by decide +kernel) ⟨by decide, by decide⟩) dX7_wander_57 jk11 rfl rfl rfl rfl (Nat.le_of_ble_eq_true rfl) (fun r_57 u_57 H locs hp_57 hB => ?_)
          obtain ⟨rfl, y0_57, y1_57, hx_57, rfl⟩ := hp_57
          try simp only [show (sr (sr (sr (sr (sr I 26 (upd (I 26) 0 (nI cc))) 19 (x19_49)) 27 (x27_49)) 28 (x28_49)) 29 (x29_49)) 0 = I 0 from (sr_ne (show (0 : Nat) ≠ 29 by omega)).trans ((sr_ne (show (0 : Nat) ≠ 28 by omega)).trans ((sr_ne (show (0 : Nat) ≠ 27 by omega)).trans ((sr_ne (show (0 : Nat) ≠ 19 by omega)).trans ((sr_ne (show (0 : Nat) ≠ 26 by omega))))))] at hB
          try simp only [show (sr (sr (sr (sr (sr I 26 (upd (I 26) 0 (nI cc))) 19 (x19_49)) 27 (x27_49)) 28 (x28_49)) 29 (x29_49)) 0 = I 0 from (sr_ne (show (0 : Nat) ≠ 29 by omega)).trans ((sr_ne (show (0 : Nat) ≠ 28 by omega)).trans ((sr_ne (show (0 : Nat) ≠ 27 by omega)).trans ((sr_ne (show (0 : Nat) ≠ 19 by omega)).trans ((sr_ne (show (0 : Nat) ≠ 26 by omega))))))] at hx_57
          have hB : jB G A s_.heap (sr (sr (sr (sr (sr I 26 (upd (I 26) 0 (nI cc))) 19 (x19_49)) 27 (x27_49)) 28 (x28_49)) 29 (x29_49), srJ (srJ J 0 (y0_57)) 1 (y1_57), O) H locs := hB
          refine j_eql (y := whL nn) (by first | rfl | simp only [show (sr (sr (sr (sr (sr I 26 (upd (I 26) 0 (nI cc))) 19 (x19_49)) 27 (x27_49)) 28 (x28_49)) 29 (x29_49)) 0 = I 0 from (sr_ne (show (0 : Nat) ≠ 29 by omega)).trans ((sr_ne (show (0 : Nat) ≠ 28 by omega)).trans ((sr_ne (show (0 : Nat) ≠ 27 by omega)).trans ((sr_ne (show (0 : Nat) ≠ 19 by omega)).trans ((sr_ne (show (0 : Nat) ≠ 26 by omega))))))]) ?_
          refine lv_lstore (lv' := [(5, .long (whL nn)), (0, .ref (G.2.2.1 (0, 0, 0))), (1, .int (nI mm)), (2, .int (nI xx)), (3, .int (nI nn)), (4, .int (nI ww))]) hx hb dX7_wander_60 hl (by decide) rfl (fun ls hl => ?_)
          refine lv_aload_n hx hb dX7_wander_62 rfl (lv_at hl 1 rfl) ?_
          refine j_get (0, 0, 0) 7 (v := .ref (G.2.2.1 (11, 0, 0))) hC hB in_X7 lk_44 dX7_wander_63 jk0 rfl rfl (by decide) rfl ?_
          refine j_getN (11, 0, 0) 8 (v := .ref (G.2.2.1 (22, 0, 0))) hC hB in_X1 ln_257 dX7_wander_66 jk11 rfl rfl (by decide) rfl ?_
          refine lv_iload_n hx hb dX7_wander_69 rfl (lv_at hl 3 rfl) ?_
          refine j_lLd 0 xx hC hB dX7_wander_70 (by decide) rfl (by simp only [lenJ_0]; omega) ?_
          refine j_eql (x := (srJ (srJ J 0 (y0_57)) 1 (y1_57)) 0 xx) (y := y0_57 xx) ((srJ_nj (show (0 : Nat) ≠ 1 by omega)).trans (srJ_sj)) ?_
          refine j_eql (y := odC (I 0) (opM (I 0) mm nd) nd cc nn xx) (hx_57 xx hxx) ?_
          refine lv_lstore (lv' := [(7, .long (odC (I 0) (opM (I 0) mm nd) nd cc nn xx)), (5, .long (whL nn)), (0, .ref (G.2.2.1 (0, 0, 0))), (1, .int (nI mm)), (2, .int (nI xx)), (3, .int (nI nn)), (4, .int (nI ww))]) hx hb dX7_wander_71 hl (by decide) rfl (fun ls hl => ?_)
          refine lv_lload hx hb dX7_wander_73 (lv_at hl 1 rfl) ?_
          refine lv_lload hx hb dX7_wander_75 (lv_at hl 0 rfl) ?_
          refine j_csl [.long (whL nn), .long (odC (I 0) (opM (I 0) mm nd) nd cc nn xx)] hC hB hl.1 (c_X7_commonDivisor l_ G (sr (sr (sr (sr (sr I 26 (upd (I 26) 0 (nI cc))) 19 (x19_49)) 27 (x27_49)) 28 (x28_49)) 29 (x29_49)) (srJ (srJ J 0 (y0_57)) 1 (y1_57)) O (whL nn) (odC (I 0) (opM (I 0) mm nd) nd cc nn xx)) (va_cwS 2 hts gX7_wander_X7_commonDivisor rfl rfl rfl (by decide +kernel) ⟨by decide, by decide⟩) dX7_wander_77 rfl rfl (Nat.le_of_ble_eq_true rfl) (fun r_77 u_77 H locs hp_77 hB => ?_)
          obtain ⟨rfl, rfl⟩ := hp_77
          refine j_eql (y := cdF 100 (whL nn) (odC (I 0) (opM (I 0) mm nd) nd cc nn xx)) (rfl) ?_
          refine lv_lstore (lv' := [(9, .long (cdF 100 (whL nn) (odC (I 0) (opM (I 0) mm nd) nd cc nn xx))), (7, .long (odC (I 0) (opM (I 0) mm nd) nd cc nn xx)), (5, .long (whL nn)), (0, .ref (G.2.2.1 (0, 0, 0))), (1, .int (nI mm)), (2, .int (nI xx)), (3, .int (nI nn)), (4, .int (nI ww))]) hx hb dX7_wander_80 hl (by decide) rfl (fun ls hl => ?_)
          refine lv_lload hx hb dX7_wander_82 (lv_at hl 0 rfl) ?_
          refine lv_lconst (v := 0) hx hb dX7_wander_84 rfl ?_
          refine W.lcmp hx hb dX7_wander_85 ?_
          refine jl_if_gt (tgt := 93) hx hb dX7_wander_86 (by decide) (fun c_86 => ?_) (fun c_86 => ?_)
          · refine lv_iload hx hb dX7_wander_93 (lv_at hl 7 rfl) ?_
            refine jn_if_ne (tgt := 106) hx hb dX7_wander_95 (by decide) (by omega) (fun c_95 => ?_) (fun c_95 => ?_)
            · refine lv_lload hx hb dX7_wander_106 (lv_at hl 2 rfl) ?_
              refine lv_lload hx hb dX7_wander_108 (lv_at hl 0 rfl) ?_
              refine lv_ldiv hx hb dX7_wander_110 (fun e => absurd c_86 (by rw [e]; decide)) ?_
              exact j_lret hC hB dX7_wander_111 (⟨by simp [wanC, tN, nIc (show mm < 2147483648 by omega), ceF_eq hcc ecc, nIc (show xx < 2147483648 by omega), nIc (show nn < 2147483648 by omega), nIq (show ww < 2147483648 by omega) (show 0 < 2147483648 by omega), c_5, c_12, c_20, c_29, c_86, c_95], ⟨SCI.sr (SCI.sr (SCI.sr (SCI.sr (SCI.sr (SCI.rf) (sccI (by decide))) scc19) (sccI (by decide))) (sccI (by decide))) (sccI (by decide)), SCJ.sr (SCJ.sr (SCJ.rf) (by decide)) (by decide), rfl⟩⟩)
            · refine lv_lload hx hb dX7_wander_98 (lv_at hl 1 rfl) ?_
              refine lv_lload hx hb dX7_wander_100 (lv_at hl 0 rfl) ?_
              refine lv_ldiv hx hb dX7_wander_102 (fun e => absurd c_86 (by rw [e]; decide)) ?_
              refine lv_goto (tgt := 111) hx hb dX7_wander_103 (by decide) ?_
              exact j_lret hC hB dX7_wander_111 (⟨by simp [wanC, tN, nIc (show mm < 2147483648 by omega), ceF_eq hcc ecc, nIc (show xx < 2147483648 by omega), nIc (show nn < 2147483648 by omega), nIq (show ww < 2147483648 by omega) (show 0 < 2147483648 by omega), c_5, c_12, c_20, c_29, c_86, eq_true c_95], ⟨SCI.sr (SCI.sr (SCI.sr (SCI.sr (SCI.sr (SCI.rf) (sccI (by decide))) scc19) (sccI (by decide))) (sccI (by decide))) (sccI (by decide)), SCJ.sr (SCJ.sr (SCJ.rf) (by decide)) (by decide), rfl⟩⟩)
          · refine lv_ldc2 (v := -1) hx hb hown (hts (.constantLong RX7 251 (-1)) (by decide +kernel)) dX7_wander_89 ?_
            exact j_lret hC hB dX7_wander_92 (⟨by simp [wanC, tN, nIc (show mm < 2147483648 by omega), ceF_eq hcc ecc, nIc (show xx < 2147483648 by omega), nIc (show nn < 2147483648 by omega), c_5, c_12, c_20, c_29, c_86], ⟨SCI.sr (SCI.sr (SCI.sr (SCI.sr (SCI.sr (SCI.rf) (sccI (by decide))) scc19) (sccI (by decide))) (sccI (by decide))) (sccI (by decide)), SCJ.sr (SCJ.sr (SCJ.rf) (by decide)) (by decide), rfl⟩⟩)
        · refine lv_ldc2 (v := -1) hx hb hown (hts (.constantLong RX7 251 (-1)) (by decide +kernel)) dX7_wander_32 ?_
          exact j_lret hC hB dX7_wander_35 (⟨by simp [wanC, c_5, c_12, c_20, c_29], ⟨SCI.rf, SCJ.rf, rfl⟩⟩)
