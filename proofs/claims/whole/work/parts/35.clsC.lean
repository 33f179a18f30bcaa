set_option maxHeartbeats 4000000 in
set_option maxRecDepth 100000 in
theorem c_X7_isBelow (l_ : Launch) (G : jG) (I : Nat → Nat → Int32) (J : Nat → Nat → Int64) (O : Nat → Nat → Nat) (v : Int32) (n : Nat) (hn : n < 2 ^ 31) : jMi l_ G yX7_isBelow wsX7_isBelow ({ frames := 0, cells := 0, slots := 0, locals := 0 }) [.int v, .int (nI n)] (I, J, O) (fun r u => r = b2 (isB v n) ∧ u = (I, J, O)) := by
  refine jMi_of (cc := cX7_isBelow) (maxL := 2) (ret := (some .boolean)) (lv0 := [(0, .int v), (1, .int (nI n))]) (by decide) rfl (Nat.le_of_ble_eq_true rfl) rfl ?_
  intro pg_ ev_ s_ mi_ below meth cd_ A ls hC hB hl
  obtain ⟨hx, hb, hr, hml, hown, hts, hlocks, hK, hA⟩ := id hC
  refine lv_iload_n hx hb dX7_isBelow_0 rfl (lv_at hl 0 rfl) ?_
  refine lv_if_lt (tgt := 13) hx hb dX7_isBelow_1 (by decide) (fun c_1 => ?_) (fun c_1 => ?_)
  · refine lv_iconst (v := nI 0) hx hb dX7_isBelow_13 (by decide) ?_
    exact j_zret hC hB dX7_isBelow_14 (by decide) (⟨isBelow_0 c_1, rfl⟩)
  · refine lv_iload_n hx hb dX7_isBelow_4 rfl (lv_at hl 0 rfl) ?_
    refine lv_iload_n hx hb dX7_isBelow_5 rfl (lv_at hl 1 rfl) ?_
    refine lv_icmp_ge (tgt := 13) hx hb dX7_isBelow_6 (by decide) (fun c_6 => ?_) (fun c_6 => ?_)
    · refine lv_iconst (v := nI 0) hx hb dX7_isBelow_13 (by decide) ?_
      exact j_zret hC hB dX7_isBelow_14 (by decide) (⟨isBelow_1 hn c_6, rfl⟩)
    · refine lv_iconst (v := nI 1) hx hb dX7_isBelow_9 (by decide) ?_
      refine lv_goto (tgt := 14) hx hb dX7_isBelow_10 (by decide) ?_
      exact j_zret hC hB dX7_isBelow_14 (by decide) (⟨isBelow_2 hn c_1 c_6, rfl⟩)

set_option maxHeartbeats 4000000 in
set_option maxRecDepth 100000 in
theorem c_X7_isCell (l_ : Launch) (G : jG) (I : Nat → Nat → Int32) (J : Nat → Nat → Int64) (O : Nat → Nat → Nat) (v : Int32) : jMi l_ G yX7_isCell wsX7_isCell ({ frames := 1, cells := 0, slots := 0, locals := 21 }) [.int v] (I, J, O) (fun r u => r = b2 (isB v 8) ∧ u = (I, J, O)) := by
  refine jMi_of (cc := cX7_isCell) (maxL := 1) (ret := (some .boolean)) (lv0 := [(0, .int v)]) (by decide) rfl (Nat.le_of_ble_eq_true rfl) rfl ?_
  intro pg_ ev_ s_ mi_ below meth cd_ A ls hC hB hl
  obtain ⟨hx, hb, hr, hml, hown, hts, hlocks, hK, hA⟩ := id hC
  refine lv_iload_n hx hb dX7_isCell_0 rfl (lv_at hl 0 rfl) ?_
  refine lv_bipush (v := nI 8) hx hb dX7_isCell_1 (by decide) ?_
  refine j_csi [.int v, .int (nI 8)] hC hB hl.1 (c_X7_isBelow l_ G I J O v 8 (by omega)) (va_cwS 2 hts gX7_isCell_X7_isBelow rfl rfl rfl (by decide +kernel) ⟨by decide, by decide⟩) dX7_isCell_3 rfl rfl (Nat.le_of_ble_eq_true rfl) (fun r_3 u_3 H locs hp_3 hB => ?_)
  obtain ⟨rfl, rfl⟩ := hp_3
  exact j_zret hC hB dX7_isCell_6 (b2_01 _) (⟨rfl, rfl⟩)

set_option maxHeartbeats 4000000 in
set_option maxRecDepth 100000 in
theorem c_X7_isQuestion (l_ : Launch) (G : jG) (I : Nat → Nat → Int32) (J : Nat → Nat → Int64) (O : Nat → Nat → Nat) (sort hard : Int32) : jMi l_ G yX7_isQuestion wsX7_isQuestion ({ frames := 1, cells := 0, slots := 0, locals := 21 }) [.int sort, .int hard] (I, J, O) (fun r u => r = b2 (quB sort hard) ∧ u = (I, J, O)) := by
  refine jMi_of (cc := cX7_isQuestion) (maxL := 2) (ret := (some .boolean)) (lv0 := [(0, .int sort), (1, .int hard)]) (by decide) rfl (Nat.le_of_ble_eq_true rfl) rfl ?_
  intro pg_ ev_ s_ mi_ below meth cd_ A ls hC hB hl
  obtain ⟨hx, hb, hr, hml, hown, hts, hlocks, hK, hA⟩ := id hC
  refine lv_iload_n hx hb dX7_isQuestion_0 rfl (lv_at hl 0 rfl) ?_
  refine lv_iconst (v := nI 4) hx hb dX7_isQuestion_1 (by decide) ?_
  refine j_csi [.int sort, .int (nI 4)] hC hB hl.1 (c_X7_isBelow l_ G I J O sort 4 (by omega)) (va_cwS 2 hts gX7_isQuestion_X7_isBelow rfl rfl rfl (by decide +kernel) ⟨by decide, by decide⟩) dX7_isQuestion_2 rfl rfl (Nat.le_of_ble_eq_true rfl) (fun r_2 u_2 H locs hp_2 hB => ?_)
  obtain ⟨rfl, rfl⟩ := hp_2
  refine jb_if_eq (tgt := 23) hx hb dX7_isQuestion_5 (by decide) (fun c_5 => ?_) (fun c_5 => ?_)
  · refine lv_iconst (v := nI 0) hx hb dX7_isQuestion_23 (by decide) ?_
    exact j_zret hC hB dX7_isQuestion_24 (by decide) (⟨by simp [quB, b2, c_5], rfl⟩)
  · refine lv_iload_n hx hb dX7_isQuestion_8 rfl (lv_at hl 1 rfl) ?_
    refine lv_iconst (v := nI 1) hx hb dX7_isQuestion_9 (by decide) ?_
    refine lv_icmp_lt (tgt := 23) hx hb dX7_isQuestion_10 (by decide) (fun c_10 => ?_) (fun c_10 => ?_)
    · refine lv_iconst (v := nI 0) hx hb dX7_isQuestion_23 (by decide) ?_
      exact j_zret hC hB dX7_isQuestion_24 (by decide) (⟨by simp [quB, b2, c_5, c_10], rfl⟩)
    · refine lv_iload_n hx hb dX7_isQuestion_13 rfl (lv_at hl 1 rfl) ?_
      refine lv_bipush (v := nI 19) hx hb dX7_isQuestion_14 (by decide) ?_
      refine lv_icmp_gt (tgt := 23) hx hb dX7_isQuestion_16 (by decide) (fun c_16 => ?_) (fun c_16 => ?_)
      · refine lv_iconst (v := nI 0) hx hb dX7_isQuestion_23 (by decide) ?_
        exact j_zret hC hB dX7_isQuestion_24 (by decide) (⟨by simp [quB, b2, c_5, c_10, c_16], rfl⟩)
      · refine lv_iconst (v := nI 1) hx hb dX7_isQuestion_19 (by decide) ?_
        refine lv_goto (tgt := 24) hx hb dX7_isQuestion_20 (by decide) ?_
        exact j_zret hC hB dX7_isQuestion_24 (by decide) (⟨by simp [quB, b2, c_5, c_10, c_16], rfl⟩)

set_option maxHeartbeats 4000000 in
set_option maxRecDepth 100000 in
theorem c_X7_isSheetLane (l_ : Launch) (G : jG) (I : Nat → Nat → Int32) (J : Nat → Nat → Int64) (O : Nat → Nat → Nat) (sheet lane : Int32) : jMi l_ G yX7_isSheetLane wsX7_isSheetLane ({ frames := 1, cells := 0, slots := 0, locals := 21 }) [.int sheet, .int lane] (I, J, O) (fun r u => r = b2 (isB sheet 4 && isB lane 4) ∧ u = (I, J, O)) := by
  refine jMi_of (cc := cX7_isSheetLane) (maxL := 2) (ret := (some .boolean)) (lv0 := [(0, .int sheet), (1, .int lane)]) (by decide) rfl (Nat.le_of_ble_eq_true rfl) rfl ?_
  intro pg_ ev_ s_ mi_ below meth cd_ A ls hC hB hl
  obtain ⟨hx, hb, hr, hml, hown, hts, hlocks, hK, hA⟩ := id hC
  refine lv_iload_n hx hb dX7_isSheetLane_0 rfl (lv_at hl 0 rfl) ?_
  refine lv_iconst (v := nI 4) hx hb dX7_isSheetLane_1 (by decide) ?_
  refine j_csi [.int sheet, .int (nI 4)] hC hB hl.1 (c_X7_isBelow l_ G I J O sheet 4 (by omega)) (va_cwS 2 hts gX7_isSheetLane_X7_isBelow rfl rfl rfl (by decide +kernel) ⟨by decide, by decide⟩) dX7_isSheetLane_2 rfl rfl (Nat.le_of_ble_eq_true rfl) (fun r_2 u_2 H locs hp_2 hB => ?_)
  obtain ⟨rfl, rfl⟩ := hp_2
  refine jb_if_eq (tgt := 20) hx hb dX7_isSheetLane_5 (by decide) (fun c_5 => ?_) (fun c_5 => ?_)
  · refine lv_iconst (v := nI 0) hx hb dX7_isSheetLane_20 (by decide) ?_
    exact j_zret hC hB dX7_isSheetLane_21 (by decide) (⟨by simp [b2, c_5], rfl⟩)
  · refine lv_iload_n hx hb dX7_isSheetLane_8 rfl (lv_at hl 1 rfl) ?_
    refine lv_iconst (v := nI 4) hx hb dX7_isSheetLane_9 (by decide) ?_
    refine j_csi [.int lane, .int (nI 4)] hC hB hl.1 (c_X7_isBelow l_ G I J O lane 4 (by omega)) (va_cwS 2 hts gX7_isSheetLane_X7_isBelow rfl rfl rfl (by decide +kernel) ⟨by decide, by decide⟩) dX7_isSheetLane_10 rfl rfl (Nat.le_of_ble_eq_true rfl) (fun r_10 u_10 H locs hp_10 hB => ?_)
    obtain ⟨rfl, rfl⟩ := hp_10
    refine jb_if_eq (tgt := 20) hx hb dX7_isSheetLane_13 (by decide) (fun c_13 => ?_) (fun c_13 => ?_)
    · refine lv_iconst (v := nI 0) hx hb dX7_isSheetLane_20 (by decide) ?_
      exact j_zret hC hB dX7_isSheetLane_21 (by decide) (⟨by simp [b2, c_5, c_13], rfl⟩)
    · refine lv_iconst (v := nI 1) hx hb dX7_isSheetLane_16 (by decide) ?_
      refine lv_goto (tgt := 21) hx hb dX7_isSheetLane_17 (by decide) ?_
      exact j_zret hC hB dX7_isSheetLane_21 (by decide) (⟨by simp [b2, c_5, c_13], rfl⟩)

set_option maxHeartbeats 4000000 in
set_option maxRecDepth 100000 in
theorem c_X7_isDoor (l_ : Launch) (G : jG) (I : Nat → Nat → Int32) (J : Nat → Nat → Int64) (O : Nat → Nat → Nat) (d : Int32) {nd : Nat} (hnd : nd ≤ 10) (hD : I 0 0 = nI nd) : jMi l_ G yX7_isDoor wsX7_isDoor ({ frames := 1, cells := 0, slots := 0, locals := 21 }) [.ref (G.2.2.1 (0, 0, 0)), .int d] (I, J, O) (fun r u => r = b2 (isB d nd) ∧ u = (I, J, O)) := by
  refine jMi_of (cc := cX7_isDoor) (maxL := 2) (ret := (some .boolean)) (lv0 := [(0, .ref (G.2.2.1 (0, 0, 0))), (1, .int d)]) (by decide) rfl (Nat.le_of_ble_eq_true rfl) rfl ?_
  intro pg_ ev_ s_ mi_ below meth cd_ A ls hC hB hl
  obtain ⟨hx, hb, hr, hml, hown, hts, hlocks, hK, hA⟩ := id hC
  have lk_10 := hts (.fieldLink RX7 10 "RiddlePrison" "now" "LRiddlePrison$Prison;") (by decide +kernel)
  have ln_70 := (by decide +kernel : Cond.fieldLinkNest RX7 70 "RiddlePrison$Prison" "doorCount" "I" "RiddlePrison" ∈ nsW)
  have in_X7 := (fun w h => List.mem_cons_of_mem _ (List.mem_append_left _ (List.mem_append_right _ h)) : ∀ w ∈ wsX70, w ∈ wsX7_isDoor)
  have in_X4 := (fun w h => List.mem_cons_of_mem _ (List.mem_append_right _ h) : ∀ w ∈ wsX40, w ∈ wsX7_isDoor)
  refine lv_iload_n hx hb dX7_isDoor_0 rfl (lv_at hl 1 rfl) ?_
  refine lv_aload_n hx hb dX7_isDoor_1 rfl (lv_at hl 0 rfl) ?_
  refine j_get (0, 0, 0) 0 (v := .ref (G.2.2.1 (1, 0, 0))) hC hB in_X7 lk_10 dX7_isDoor_2 jk0 rfl rfl (by decide) rfl ?_
  refine j_getN (1, 0, 0) 2 (v := .int (I 0 0)) hC hB in_X4 ln_70 dX7_isDoor_5 (jk1 (by omega)) rfl rfl (by decide) rfl ?_
  refine j_eqi (x := I 0 0) (y := nI nd) (hD) ?_
  refine j_csi [.int d, .int (nI nd)] hC hB hl.1 (c_X7_isBelow l_ G I J O d nd (by omega)) (va_cwS 2 hts gX7_isDoor_X7_isBelow rfl rfl rfl (by decide +kernel) ⟨by decide, by decide⟩) dX7_isDoor_8 rfl rfl (Nat.le_of_ble_eq_true rfl) (fun r_8 u_8 H locs hp_8 hB => ?_)
  obtain ⟨rfl, rfl⟩ := hp_8
  exact j_zret hC hB dX7_isDoor_11 (b2_01 _) (⟨rfl, rfl⟩)

set_option maxHeartbeats 4000000 in
set_option maxRecDepth 100000 in
theorem c_X7_isMan (l_ : Launch) (G : jG) (I : Nat → Nat → Int32) (J : Nat → Nat → Int64) (O : Nat → Nat → Nat) (d : Int32) {nm : Nat} (hnm : nm ≤ 4) (hM : I 0 1 = nI nm) : jMi l_ G yX7_isMan wsX7_isMan ({ frames := 1, cells := 0, slots := 0, locals := 21 }) [.ref (G.2.2.1 (0, 0, 0)), .int d] (I, J, O) (fun r u => r = b2 (isB d nm) ∧ u = (I, J, O)) := by
  refine jMi_of (cc := cX7_isMan) (maxL := 2) (ret := (some .boolean)) (lv0 := [(0, .ref (G.2.2.1 (0, 0, 0))), (1, .int d)]) (by decide) rfl (Nat.le_of_ble_eq_true rfl) rfl ?_
  intro pg_ ev_ s_ mi_ below meth cd_ A ls hC hB hl
  obtain ⟨hx, hb, hr, hml, hown, hts, hlocks, hK, hA⟩ := id hC
  have lk_10 := hts (.fieldLink RX7 10 "RiddlePrison" "now" "LRiddlePrison$Prison;") (by decide +kernel)
  have ln_84 := (by decide +kernel : Cond.fieldLinkNest RX7 84 "RiddlePrison$Prison" "manCount" "I" "RiddlePrison" ∈ nsW)
  have in_X7 := (fun w h => List.mem_cons_of_mem _ (List.mem_append_left _ (List.mem_append_right _ h)) : ∀ w ∈ wsX70, w ∈ wsX7_isMan)
  have in_X4 := (fun w h => List.mem_cons_of_mem _ (List.mem_append_right _ h) : ∀ w ∈ wsX40, w ∈ wsX7_isMan)
  refine lv_iload_n hx hb dX7_isMan_0 rfl (lv_at hl 1 rfl) ?_
  refine lv_aload_n hx hb dX7_isMan_1 rfl (lv_at hl 0 rfl) ?_
  refine j_get (0, 0, 0) 0 (v := .ref (G.2.2.1 (1, 0, 0))) hC hB in_X7 lk_10 dX7_isMan_2 jk0 rfl rfl (by decide) rfl ?_
  refine j_getN (1, 0, 0) 3 (v := .int (I 0 1)) hC hB in_X4 ln_84 dX7_isMan_5 (jk1 (by omega)) rfl rfl (by decide) rfl ?_
  refine j_eqi (x := I 0 1) (y := nI nm) (hM) ?_
  refine j_csi [.int d, .int (nI nm)] hC hB hl.1 (c_X7_isBelow l_ G I J O d nm (by omega)) (va_cwS 2 hts gX7_isMan_X7_isBelow rfl rfl rfl (by decide +kernel) ⟨by decide, by decide⟩) dX7_isMan_8 rfl rfl (Nat.le_of_ble_eq_true rfl) (fun r_8 u_8 H locs hp_8 hB => ?_)
  obtain ⟨rfl, rfl⟩ := hp_8
  exact j_zret hC hB dX7_isMan_11 (b2_01 _) (⟨rfl, rfl⟩)

set_option maxHeartbeats 4000000 in
set_option maxRecDepth 100000 in
theorem c_X7_of (l_ : Launch) (G : jG) (I : Nat → Nat → Int32) (J : Nat → Nat → Int64) (O : Nat → Nat → Nat) (door what : Int32) {nd : Nat} (hnd : nd ≤ 10) (hD : I 0 0 = nI nd) {nm : Nat} (hnm : nm ≤ 4) (hM : I 0 1 = nI nm) : jMi l_ G yX7_of wsX7_of ({ frames := 5, cells := 0, slots := 0, locals := 120 }) [.ref (G.2.2.1 (0, 0, 0)), .int door, .int what] (I, J, O) (fun r u => r = ofC (I 0) nd nm door what ∧ u = (I, J, O)) := by
  refine jMi_of (cc := cX7_of) (maxL := 4) (ret := (some .int)) (lv0 := [(0, .ref (G.2.2.1 (0, 0, 0))), (1, .int door), (2, .int what)]) (by decide) rfl (Nat.le_of_ble_eq_true rfl) rfl ?_
  intro pg_ ev_ s_ mi_ below meth cd_ A ls hC hB hl
  obtain ⟨hx, hb, hr, hml, hown, hts, hlocks, hK, hA⟩ := id hC
  have lk_10 := hts (.fieldLink RX7 10 "RiddlePrison" "now" "LRiddlePrison$Prison;") (by decide +kernel)
  have ln_93 := (by decide +kernel : Cond.fieldLinkNest RX7 93 "RiddlePrison$Prison" "doors" "[LRiddlePrison$Door;" "RiddlePrison" ∈ nsW)
  have ln_97 := (by decide +kernel : Cond.fieldLinkNest RX7 97 "RiddlePrison$Door" "first" "I" "RiddlePrison" ∈ nsW)
  have ln_102 := (by decide +kernel : Cond.fieldLinkNest RX7 102 "RiddlePrison$Door" "other" "I" "RiddlePrison" ∈ nsW)
  have ln_105 := (by decide +kernel : Cond.fieldLinkNest RX7 105 "RiddlePrison$Door" "sort" "I" "RiddlePrison" ∈ nsW)
  have ln_108 := (by decide +kernel : Cond.fieldLinkNest RX7 108 "RiddlePrison$Door" "hard" "I" "RiddlePrison" ∈ nsW)
  have in_X7 := (fun w h => List.mem_cons_of_mem _ (List.mem_append_left _ (List.mem_append_left _ (List.mem_append_left _ (List.mem_append_right _ h)))) : ∀ w ∈ wsX70, w ∈ wsX7_of)
  have in_X4 := (fun w h => List.mem_cons_of_mem _ (List.mem_append_left _ (List.mem_append_left _ (List.mem_append_right _ h))) : ∀ w ∈ wsX40, w ∈ wsX7_of)
  have in_X0 := (fun w h => List.mem_cons_of_mem _ (List.mem_append_left _ (List.mem_append_right _ h)) : ∀ w ∈ wsX00, w ∈ wsX7_of)
  refine lv_aload_n hx hb dX7_of_0 rfl (lv_at hl 0 rfl) ?_
  refine lv_iload_n hx hb dX7_of_1 rfl (lv_at hl 1 rfl) ?_
  refine j_cvi (0, 0, 0) [.int door] hC hB hl.1 (c_X7_isDoor l_ G I J O door (by omega) (hD)) (cwV 1 hts gX7_of_X7_isDoor rfl rfl rfl (by decide +kernel) ⟨by decide, by decide⟩) dX7_of_2 jk0 rfl rfl rfl rfl (Nat.le_of_ble_eq_true rfl) (fun r_2 u_2 H locs hp_2 hB => ?_)
  obtain ⟨rfl, rfl⟩ := hp_2
  refine jb_if_ne (tgt := 10) hx hb dX7_of_5 (by decide) (fun c_5 => ?_) (fun c_5 => ?_)
  · obtain ⟨dd, hdd, rfl⟩ := isB_nat c_5 (by omega)
    refine lv_aload_n hx hb dX7_of_10 rfl (lv_at hl 0 rfl) ?_
    refine j_get (0, 0, 0) 0 (v := .ref (G.2.2.1 (1, 0, 0))) hC hB in_X7 lk_10 dX7_of_11 jk0 rfl rfl (by decide) rfl ?_
    refine j_getN (1, 0, 0) 0 (v := .ref (G.2.2.1 (2, 0, 0))) hC hB in_X4 ln_93 dX7_of_14 (jk1 (by omega)) rfl rfl (by decide) rfl ?_
    refine lv_iload_n hx hb dX7_of_17 rfl (lv_at hl 1 rfl) ?_
    refine j_ald (2, 0, 0) (4, 0, dd) 3 dd hC hB dX7_of_18 (jk2 (by omega)) rfl rfl rfl (by omega) (by decide) rfl ?_
    refine lv_astore_n (lv' := [(3, .ref (G.2.2.1 (4, 0, dd))), (0, .ref (G.2.2.1 (0, 0, 0))), (1, .int (nI dd)), (2, .int what)]) hx hb dX7_of_19 rfl hl (by decide) rfl (fun ls hl => ?_)
    refine lv_iload_n hx hb dX7_of_20 rfl (lv_at hl 3 rfl) ?_
    refine (Decidable.em (what = nI 0)).elim (fun c_21_0 => ?_) (fun c_21_0 => ?_)
    · refine j_eqi c_21_0 ?_
      refine lv_tableIn (tgt := 60) hx hb dX7_of_21 (by decide) (by decide) rfl (by decide) ?_
      refine lv_aload_n hx hb dX7_of_60 rfl (lv_at hl 0 rfl) ?_
      refine j_getN (4, 0, dd) 0 (v := .int (I 0 (11 + dd))) hC hB in_X0 ln_97 dX7_of_61 (jk4 (by omega) (by omega)) rfl rfl (by decide) rfl ?_
      exact j_iret hC hB dX7_of_64 (⟨by simp [ofC, tN, nIc (show dd < 2147483648 by omega), c_5, eq_true c_21_0], rfl⟩)
    refine (Decidable.em (what = nI 1)).elim (fun c_21_1 => ?_) (fun c_21_1 => ?_)
    · refine j_eqi c_21_1 ?_
      refine lv_tableIn (tgt := 65) hx hb dX7_of_21 (by decide) (by decide) rfl (by decide) ?_
      refine lv_aload_n hx hb dX7_of_65 rfl (lv_at hl 0 rfl) ?_
      refine j_getN (4, 0, dd) 1 (v := .int (I 0 (21 + dd))) hC hB in_X0 ln_102 dX7_of_66 (jk4 (by omega) (by omega)) rfl rfl (by decide) rfl ?_
      exact j_iret hC hB dX7_of_69 (⟨by simp [ofC, tN, nIc (show dd < 2147483648 by omega), c_5, c_21_0, eq_true c_21_1], rfl⟩)
    refine (Decidable.em (what = nI 2)).elim (fun c_21_2 => ?_) (fun c_21_2 => ?_)
    · refine j_eqi c_21_2 ?_
      refine lv_tableIn (tgt := 70) hx hb dX7_of_21 (by decide) (by decide) rfl (by decide) ?_
      refine lv_aload_n hx hb dX7_of_70 rfl (lv_at hl 0 rfl) ?_
      refine j_getN (4, 0, dd) 2 (v := .int (I 0 (31 + dd))) hC hB in_X0 ln_105 dX7_of_71 (jk4 (by omega) (by omega)) rfl rfl (by decide) rfl ?_
      exact j_iret hC hB dX7_of_74 (⟨by simp [ofC, tN, nIc (show dd < 2147483648 by omega), c_5, c_21_0, c_21_1, eq_true c_21_2], rfl⟩)
    refine (Decidable.em (what = nI 3)).elim (fun c_21_3 => ?_) (fun c_21_3 => ?_)
    · refine j_eqi c_21_3 ?_
      refine lv_tableIn (tgt := 75) hx hb dX7_of_21 (by decide) (by decide) rfl (by decide) ?_
      refine lv_aload_n hx hb dX7_of_75 rfl (lv_at hl 0 rfl) ?_
      refine j_getN (4, 0, dd) 3 (v := .int (I 0 (41 + dd))) hC hB in_X0 ln_108 dX7_of_76 (jk4 (by omega) (by omega)) rfl rfl (by decide) rfl ?_
      exact j_iret hC hB dX7_of_79 (⟨by simp [ofC, tN, nIc (show dd < 2147483648 by omega), c_5, c_21_0, c_21_1, c_21_2, eq_true c_21_3], rfl⟩)
    refine (Decidable.em (what = nI 4)).elim (fun c_21_4 => ?_) (fun c_21_4 => ?_)
    · refine j_eqi c_21_4 ?_
      refine lv_tableIn (tgt := 80) hx hb dX7_of_21 (by decide) (by decide) rfl (by decide) ?_
      refine lv_aload_n hx hb dX7_of_80 rfl (lv_at hl 1 rfl) ?_
      refine j_get (0, 0, 0) 0 (v := .ref (G.2.2.1 (1, 0, 0))) hC hB in_X7 lk_10 dX7_of_81 jk0 rfl rfl (by decide) rfl ?_
      refine lv_iload_n hx hb dX7_of_84 rfl (lv_at hl 2 rfl) ?_
      refine j_cvi (1, 0, 0) [.int (nI dd)] hC hB hl.1 (c_X4_menWhoKnow l_ G I J O 0 dd (by omega) (by omega) (hM)) (cwV 1 hts gX7_of_X4_menWhoKnow rfl rfl rfl (by decide +kernel) ⟨by decide, by decide⟩) dX7_of_85 (jk1 (by omega)) rfl rfl rfl rfl (Nat.le_of_ble_eq_true rfl) (fun r_85 u_85 H locs hp_85 hB => ?_)
      obtain ⟨rfl, rfl⟩ := hp_85
      exact j_iret hC hB dX7_of_88 (⟨by simp [ofC, tN, nIc (show dd < 2147483648 by omega), c_5, c_21_0, c_21_1, c_21_2, c_21_3, eq_true c_21_4], rfl⟩)
    refine (Decidable.em (what = nI 5)).elim (fun c_21_5 => ?_) (fun c_21_5 => ?_)
    · refine j_eqi c_21_5 ?_
      refine lv_tableIn (tgt := 89) hx hb dX7_of_21 (by decide) (by decide) rfl (by decide) ?_
      refine lv_aload_n hx hb dX7_of_89 rfl (lv_at hl 1 rfl) ?_
      refine j_get (0, 0, 0) 0 (v := .ref (G.2.2.1 (1, 0, 0))) hC hB in_X7 lk_10 dX7_of_90 jk0 rfl rfl (by decide) rfl ?_
      refine lv_iload_n hx hb dX7_of_93 rfl (lv_at hl 2 rfl) ?_
      refine j_cvi (1, 0, 0) [.int (nI dd)] hC hB hl.1 (c_X4_menWhoPass l_ G I J O 0 dd (by omega) (by omega) (by omega) (hM)) (cwV 1 hts gX7_of_X4_menWhoPass rfl rfl rfl (by decide +kernel) ⟨by decide, by decide⟩) dX7_of_94 (jk1 (by omega)) rfl rfl rfl rfl (Nat.le_of_ble_eq_true rfl) (fun r_94 u_94 H locs hp_94 hB => ?_)
      obtain ⟨rfl, rfl⟩ := hp_94
      exact j_iret hC hB dX7_of_97 (⟨by simp [ofC, tN, nIc (show dd < 2147483648 by omega), c_5, c_21_0, c_21_1, c_21_2, c_21_3, c_21_4, eq_true c_21_5], rfl⟩)
    have h_21 := jtsw_0_5 c_21_0 c_21_1 c_21_2 c_21_3 c_21_4 c_21_5
    refine lv_tableOut (tgt := 98) hx hb dX7_of_21 h_21 (by decide) ?_
    refine lv_iconst (v := (-1 : Int32)) hx hb dX7_of_98 (by decide) ?_
    exact j_iret hC hB dX7_of_99 (⟨by simp [ofC, tN, nIc (show dd < 2147483648 by omega), c_5, c_21_0, c_21_1, c_21_2, c_21_3, c_21_4, c_21_5], rfl⟩)
  · refine lv_iconst (v := (-1 : Int32)) hx hb dX7_of_8 (by decide) ?_
    exact j_iret hC hB dX7_of_9 (⟨by simp [ofC, tN, c_5], rfl⟩)

set_option maxHeartbeats 4000000 in
set_option maxRecDepth 100000 in
theorem c_X7_at (l_ : Launch) (G : jG) (I : Nat → Nat → Int32) (J : Nat → Nat → Int64) (O : Nat → Nat → Nat) (man what : Int32) {nd : Nat} (hnd : nd ≤ 10) (hD : I 0 0 = nI nd) {nm : Nat} (hnm : nm ≤ 4) (hM : I 0 1 = nI nm) : jMi l_ G yX7_at wsX7_at ({ frames := 5, cells := 0, slots := 0, locals := 120 }) [.ref (G.2.2.1 (0, 0, 0)), .int man, .int what] (I, J, O) (fun r u => r = atC (I 0) nd nm man what ∧ u = (I, J, O)) := by
  refine jMi_of (cc := cX7_at) (maxL := 4) (ret := (some .int)) (lv0 := [(0, .ref (G.2.2.1 (0, 0, 0))), (1, .int man), (2, .int what)]) (by decide) rfl (Nat.le_of_ble_eq_true rfl) rfl ?_
  intro pg_ ev_ s_ mi_ below meth cd_ A ls hC hB hl
  obtain ⟨hx, hb, hr, hml, hown, hts, hlocks, hK, hA⟩ := id hC
  have lk_10 := hts (.fieldLink RX7 10 "RiddlePrison" "now" "LRiddlePrison$Prison;") (by decide +kernel)
  have ln_121 := (by decide +kernel : Cond.fieldLinkNest RX7 121 "RiddlePrison$Prison" "men" "[LRiddlePrison$Man;" "RiddlePrison" ∈ nsW)
  have ln_125 := (by decide +kernel : Cond.fieldLinkNest RX7 125 "RiddlePrison$Man" "kind" "I" "RiddlePrison" ∈ nsW)
  have ln_128 := (by decide +kernel : Cond.fieldLinkNest RX7 128 "RiddlePrison$Man" "wit" "I" "RiddlePrison" ∈ nsW)
  have ln_131 := (by decide +kernel : Cond.fieldLinkNest RX7 131 "RiddlePrison$Man" "own" "I" "RiddlePrison" ∈ nsW)
  have ln_134 := (by decide +kernel : Cond.fieldLinkNest RX7 134 "RiddlePrison$Man" "cell" "I" "RiddlePrison" ∈ nsW)
  have ln_137 := (by decide +kernel : Cond.fieldLinkNest RX7 137 "RiddlePrison$Man" "known" "I" "RiddlePrison" ∈ nsW)
  have ln_140 := (by decide +kernel : Cond.fieldLinkNest RX7 140 "RiddlePrison$Man" "failed" "I" "RiddlePrison" ∈ nsW)
  have in_X7 := (fun w h => List.mem_cons_of_mem _ (List.mem_append_left _ (List.mem_append_left _ (List.mem_append_left _ (List.mem_append_right _ h)))) : ∀ w ∈ wsX70, w ∈ wsX7_at)
  have in_X4 := (fun w h => List.mem_cons_of_mem _ (List.mem_append_left _ (List.mem_append_left _ (List.mem_append_right _ h))) : ∀ w ∈ wsX40, w ∈ wsX7_at)
  have in_X3 := (fun w h => List.mem_cons_of_mem _ (List.mem_append_left _ (List.mem_append_right _ h)) : ∀ w ∈ wsX30, w ∈ wsX7_at)
  refine lv_aload_n hx hb dX7_at_0 rfl (lv_at hl 0 rfl) ?_
  refine lv_iload_n hx hb dX7_at_1 rfl (lv_at hl 1 rfl) ?_
  refine j_cvi (0, 0, 0) [.int man] hC hB hl.1 (c_X7_isMan l_ G I J O man (by omega) (hM)) (cwV 1 hts gX7_at_X7_isMan rfl rfl rfl (by decide +kernel) ⟨by decide, by decide⟩) dX7_at_2 jk0 rfl rfl rfl rfl (Nat.le_of_ble_eq_true rfl) (fun r_2 u_2 H locs hp_2 hB => ?_)
  obtain ⟨rfl, rfl⟩ := hp_2
  refine jb_if_ne (tgt := 10) hx hb dX7_at_5 (by decide) (fun c_5 => ?_) (fun c_5 => ?_)
  · obtain ⟨mm, hmm, rfl⟩ := isB_nat c_5 (by omega)
    refine lv_aload_n hx hb dX7_at_10 rfl (lv_at hl 0 rfl) ?_
    refine j_get (0, 0, 0) 0 (v := .ref (G.2.2.1 (1, 0, 0))) hC hB in_X7 lk_10 dX7_at_11 jk0 rfl rfl (by decide) rfl ?_
    refine j_getN (1, 0, 0) 1 (v := .ref (G.2.2.1 (3, 0, 0))) hC hB in_X4 ln_121 dX7_at_14 (jk1 (by omega)) rfl rfl (by decide) rfl ?_
    refine lv_iload_n hx hb dX7_at_17 rfl (lv_at hl 1 rfl) ?_
    refine j_ald (3, 0, 0) (5, 0, mm) 4 mm hC hB dX7_at_18 (jk3 (by omega)) rfl rfl rfl (by omega) (by decide) rfl ?_
    refine lv_astore_n (lv' := [(3, .ref (G.2.2.1 (5, 0, mm))), (0, .ref (G.2.2.1 (0, 0, 0))), (1, .int (nI mm)), (2, .int what)]) hx hb dX7_at_19 rfl hl (by decide) rfl (fun ls hl => ?_)
    refine lv_iload_n hx hb dX7_at_20 rfl (lv_at hl 3 rfl) ?_
    refine (Decidable.em (what = nI 0)).elim (fun c_21_0 => ?_) (fun c_21_0 => ?_)
    · refine j_eqi c_21_0 ?_
      refine lv_tableIn (tgt := 64) hx hb dX7_at_21 (by decide) (by decide) rfl (by decide) ?_
      refine lv_aload_n hx hb dX7_at_64 rfl (lv_at hl 0 rfl) ?_
      refine j_getN (5, 0, mm) 0 (v := .int (I 0 (3 + mm))) hC hB in_X3 ln_125 dX7_at_65 (jk5 (by omega) (by omega)) rfl rfl (by decide) rfl ?_
      exact j_iret hC hB dX7_at_68 (⟨by simp [atC, tN, nIc (show mm < 2147483648 by omega), c_5, eq_true c_21_0], rfl⟩)
    refine (Decidable.em (what = nI 1)).elim (fun c_21_1 => ?_) (fun c_21_1 => ?_)
    · refine j_eqi c_21_1 ?_
      refine lv_tableIn (tgt := 69) hx hb dX7_at_21 (by decide) (by decide) rfl (by decide) ?_
      refine lv_aload_n hx hb dX7_at_69 rfl (lv_at hl 0 rfl) ?_
      refine j_getN (5, 0, mm) 1 (v := .int (I 0 (63 + mm))) hC hB in_X3 ln_128 dX7_at_70 (jk5 (by omega) (by omega)) rfl rfl (by decide) rfl ?_
      exact j_iret hC hB dX7_at_73 (⟨by simp [atC, tN, nIc (show mm < 2147483648 by omega), c_5, c_21_0, eq_true c_21_1], rfl⟩)
    refine (Decidable.em (what = nI 2)).elim (fun c_21_2 => ?_) (fun c_21_2 => ?_)
    · refine j_eqi c_21_2 ?_
      refine lv_tableIn (tgt := 74) hx hb dX7_at_21 (by decide) (by decide) rfl (by decide) ?_
      refine lv_aload_n hx hb dX7_at_74 rfl (lv_at hl 0 rfl) ?_
      refine j_getN (5, 0, mm) 2 (v := .int (I 0 (7 + mm))) hC hB in_X3 ln_131 dX7_at_75 (jk5 (by omega) (by omega)) rfl rfl (by decide) rfl ?_
      exact j_iret hC hB dX7_at_78 (⟨by simp [atC, tN, nIc (show mm < 2147483648 by omega), c_5, c_21_0, c_21_1, eq_true c_21_2], rfl⟩)
    refine (Decidable.em (what = nI 3)).elim (fun c_21_3 => ?_) (fun c_21_3 => ?_)
    · refine j_eqi c_21_3 ?_
      refine lv_tableIn (tgt := 79) hx hb dX7_at_21 (by decide) (by decide) rfl (by decide) ?_
      refine lv_aload_n hx hb dX7_at_79 rfl (lv_at hl 0 rfl) ?_
      refine j_getN (5, 0, mm) 3 (v := .int (I 0 (51 + mm))) hC hB in_X3 ln_134 dX7_at_80 (jk5 (by omega) (by omega)) rfl rfl (by decide) rfl ?_
      exact j_iret hC hB dX7_at_83 (⟨by simp [atC, tN, nIc (show mm < 2147483648 by omega), c_5, c_21_0, c_21_1, c_21_2, eq_true c_21_3], rfl⟩)
    refine (Decidable.em (what = nI 4)).elim (fun c_21_4 => ?_) (fun c_21_4 => ?_)
    · refine j_eqi c_21_4 ?_
      refine lv_tableIn (tgt := 84) hx hb dX7_at_21 (by decide) (by decide) rfl (by decide) ?_
      refine lv_aload_n hx hb dX7_at_84 rfl (lv_at hl 0 rfl) ?_
      refine j_getN (5, 0, mm) 4 (v := .int (I 0 (55 + mm))) hC hB in_X3 ln_137 dX7_at_85 (jk5 (by omega) (by omega)) rfl rfl (by decide) rfl ?_
      exact j_iret hC hB dX7_at_88 (⟨by simp [atC, tN, nIc (show mm < 2147483648 by omega), c_5, c_21_0, c_21_1, c_21_2, c_21_3, eq_true c_21_4], rfl⟩)
    refine (Decidable.em (what = nI 5)).elim (fun c_21_5 => ?_) (fun c_21_5 => ?_)
    · refine j_eqi c_21_5 ?_
      refine lv_tableIn (tgt := 89) hx hb dX7_at_21 (by decide) (by decide) rfl (by decide) ?_
      refine lv_aload_n hx hb dX7_at_89 rfl (lv_at hl 0 rfl) ?_
      refine j_getN (5, 0, mm) 5 (v := .int (I 0 (59 + mm))) hC hB in_X3 ln_140 dX7_at_90 (jk5 (by omega) (by omega)) rfl rfl (by decide) rfl ?_
      exact j_iret hC hB dX7_at_93 (⟨by simp [atC, tN, nIc (show mm < 2147483648 by omega), c_5, c_21_0, c_21_1, c_21_2, c_21_3, c_21_4, eq_true c_21_5], rfl⟩)
    refine (Decidable.em (what = nI 6)).elim (fun c_21_6 => ?_) (fun c_21_6 => ?_)
    · refine j_eqi c_21_6 ?_
      refine lv_tableIn (tgt := 94) hx hb dX7_at_21 (by decide) (by decide) rfl (by decide) ?_
      refine lv_aload_n hx hb dX7_at_94 rfl (lv_at hl 1 rfl) ?_
      refine j_get (0, 0, 0) 0 (v := .ref (G.2.2.1 (1, 0, 0))) hC hB in_X7 lk_10 dX7_at_95 jk0 rfl rfl (by decide) rfl ?_
      refine lv_aload_n hx hb dX7_at_98 rfl (lv_at hl 0 rfl) ?_
      refine j_cvi (1, 0, 0) [.ref (G.2.2.1 (5, 0, mm))] hC hB hl.1 (c_X4_doorsOpenTo l_ G I J O 0 0 mm (by omega) ((jk5 (by omega) (by omega))) (by omega) (hD)) (cwV 1 hts gX7_at_X4_doorsOpenTo rfl rfl rfl (by decide +kernel) ⟨by decide, by decide⟩) dX7_at_99 (jk1 (by omega)) rfl rfl rfl rfl (Nat.le_of_ble_eq_true rfl) (fun r_99 u_99 H locs hp_99 hB => ?_)
      obtain ⟨rfl, rfl⟩ := hp_99
      exact j_iret hC hB dX7_at_102 (⟨by simp [atC, tN, nIc (show mm < 2147483648 by omega), c_5, c_21_0, c_21_1, c_21_2, c_21_3, c_21_4, c_21_5, eq_true c_21_6], rfl⟩)
    have h_21 := jtsw_0_6 c_21_0 c_21_1 c_21_2 c_21_3 c_21_4 c_21_5 c_21_6
    refine lv_tableOut (tgt := 103) hx hb dX7_at_21 h_21 (by decide) ?_
    refine lv_iconst (v := (-1 : Int32)) hx hb dX7_at_103 (by decide) ?_
    exact j_iret hC hB dX7_at_104 (⟨by simp [atC, tN, nIc (show mm < 2147483648 by omega), c_5, c_21_0, c_21_1, c_21_2, c_21_3, c_21_4, c_21_5, c_21_6], rfl⟩)
  · refine lv_iconst (v := (-1 : Int32)) hx hb dX7_at_8 (by decide) ?_
    exact j_iret hC hB dX7_at_9 (⟨by simp [atC, tN, c_5], rfl⟩)

set_option maxHeartbeats 4000000 in
set_option maxRecDepth 100000 in
theorem c_X7_power (l_ : Launch) (G : jG) (I : Nat → Nat → Int32) (J : Nat → Nat → Int64) (O : Nat → Nat → Nat) (man door : Int32) {nd : Nat} (hnd : nd ≤ 10) (hD : I 0 0 = nI nd) {nm : Nat} (hnm : nm ≤ 4) (hM : I 0 1 = nI nm) : jMi l_ G yX7_power wsX7_power ({ frames := 2, cells := 0, slots := 0, locals := 53 }) [.ref (G.2.2.1 (0, 0, 0)), .int man, .int door] (I, J, O) (fun r u => r = powC (I 0) nd nm man door ∧ u = (I, J, O)) := by
  refine jMi_of (cc := cX7_power) (maxL := 4) (ret := (some .int)) (lv0 := [(0, .ref (G.2.2.1 (0, 0, 0))), (1, .int man), (2, .int door)]) (by decide) rfl (Nat.le_of_ble_eq_true rfl) rfl ?_
  intro pg_ ev_ s_ mi_ below meth cd_ A ls hC hB hl
  obtain ⟨hx, hb, hr, hml, hown, hts, hlocks, hK, hA⟩ := id hC
  have lk_10 := hts (.fieldLink RX7 10 "RiddlePrison" "now" "LRiddlePrison$Prison;") (by decide +kernel)
  have ln_121 := (by decide +kernel : Cond.fieldLinkNest RX7 121 "RiddlePrison$Prison" "men" "[LRiddlePrison$Man;" "RiddlePrison" ∈ nsW)
  have ln_93 := (by decide +kernel : Cond.fieldLinkNest RX7 93 "RiddlePrison$Prison" "doors" "[LRiddlePrison$Door;" "RiddlePrison" ∈ nsW)
  have ln_134 := (by decide +kernel : Cond.fieldLinkNest RX7 134 "RiddlePrison$Man" "cell" "I" "RiddlePrison" ∈ nsW)
  have in_X7 := (fun w h => List.mem_cons_of_mem _ (List.mem_append_left _ (List.mem_append_left _ (List.mem_append_left _ (List.mem_append_right _ h)))) : ∀ w ∈ wsX70, w ∈ wsX7_power)
  have in_X4 := (fun w h => List.mem_cons_of_mem _ (List.mem_append_left _ (List.mem_append_left _ (List.mem_append_right _ h))) : ∀ w ∈ wsX40, w ∈ wsX7_power)
  have in_X3 := (fun w h => List.mem_cons_of_mem _ (List.mem_append_left _ (List.mem_append_right _ h)) : ∀ w ∈ wsX30, w ∈ wsX7_power)
  refine lv_aload_n hx hb dX7_power_0 rfl (lv_at hl 0 rfl) ?_
  refine lv_iload_n hx hb dX7_power_1 rfl (lv_at hl 1 rfl) ?_
  refine j_cvi (0, 0, 0) [.int man] hC hB hl.1 (c_X7_isMan l_ G I J O man (by omega) (hM)) (cwV 1 hts gX7_power_X7_isMan rfl rfl rfl (by decide +kernel) ⟨by decide, by decide⟩) dX7_power_2 jk0 rfl rfl rfl rfl (Nat.le_of_ble_eq_true rfl) (fun r_2 u_2 H locs hp_2 hB => ?_)
  obtain ⟨rfl, rfl⟩ := hp_2
  refine jb_if_eq (tgt := 16) hx hb dX7_power_5 (by decide) (fun c_5 => ?_) (fun c_5 => ?_)
  · refine lv_iconst (v := (-1 : Int32)) hx hb dX7_power_16 (by decide) ?_
    exact j_iret hC hB dX7_power_17 (⟨by simp [powC, tN, c_5], rfl⟩)
  · obtain ⟨mm, hmm, rfl⟩ := isB_nat c_5 (by omega)
    refine lv_aload_n hx hb dX7_power_8 rfl (lv_at hl 0 rfl) ?_
    refine lv_iload_n hx hb dX7_power_9 rfl (lv_at hl 2 rfl) ?_
    refine j_cvi (0, 0, 0) [.int door] hC hB hl.1 (c_X7_isDoor l_ G I J O door (by omega) (hD)) (cwV 1 hts gX7_power_X7_isDoor rfl rfl rfl (by decide +kernel) ⟨by decide, by decide⟩) dX7_power_10 jk0 rfl rfl rfl rfl (Nat.le_of_ble_eq_true rfl) (fun r_10 u_10 H locs hp_10 hB => ?_)
    obtain ⟨rfl, rfl⟩ := hp_10
    refine jb_if_ne (tgt := 18) hx hb dX7_power_13 (by decide) (fun c_13 => ?_) (fun c_13 => ?_)
    · obtain ⟨dd, hdd, rfl⟩ := isB_nat c_13 (by omega)
      refine lv_aload_n hx hb dX7_power_18 rfl (lv_at hl 0 rfl) ?_
      refine j_get (0, 0, 0) 0 (v := .ref (G.2.2.1 (1, 0, 0))) hC hB in_X7 lk_10 dX7_power_19 jk0 rfl rfl (by decide) rfl ?_
      refine j_getN (1, 0, 0) 1 (v := .ref (G.2.2.1 (3, 0, 0))) hC hB in_X4 ln_121 dX7_power_22 (jk1 (by omega)) rfl rfl (by decide) rfl ?_
      refine lv_iload_n hx hb dX7_power_25 rfl (lv_at hl 1 rfl) ?_
      refine j_ald (3, 0, 0) (5, 0, mm) 4 mm hC hB dX7_power_26 (jk3 (by omega)) rfl rfl rfl (by omega) (by decide) rfl ?_
      refine lv_astore_n (lv' := [(3, .ref (G.2.2.1 (5, 0, mm))), (0, .ref (G.2.2.1 (0, 0, 0))), (1, .int (nI mm)), (2, .int (nI dd))]) hx hb dX7_power_27 rfl hl (by decide) rfl (fun ls hl => ?_)
      refine lv_aload_n hx hb dX7_power_28 rfl (lv_at hl 1 rfl) ?_
      refine j_get (0, 0, 0) 0 (v := .ref (G.2.2.1 (1, 0, 0))) hC hB in_X7 lk_10 dX7_power_29 jk0 rfl rfl (by decide) rfl ?_
      refine j_getN (1, 0, 0) 0 (v := .ref (G.2.2.1 (2, 0, 0))) hC hB in_X4 ln_93 dX7_power_32 (jk1 (by omega)) rfl rfl (by decide) rfl ?_
      refine lv_iload_n hx hb dX7_power_35 rfl (lv_at hl 3 rfl) ?_
      refine j_ald (2, 0, 0) (4, 0, dd) 3 dd hC hB dX7_power_36 (jk2 (by omega)) rfl rfl rfl (by omega) (by decide) rfl ?_
      refine lv_aload_n hx hb dX7_power_37 rfl (lv_at hl 0 rfl) ?_
      refine j_getN (5, 0, mm) 3 (v := .int (I 0 (51 + mm))) hC hB in_X3 ln_134 dX7_power_38 (jk5 (by omega) (by omega)) rfl rfl (by decide) rfl ?_
      refine j_cvi (4, 0, dd) [.int ((I 0) (51 + mm))] hC hB hl.1 (c_X0_isAt l_ G I J O 0 dd ((I 0) (51 + mm)) ((jk4 (by omega) (by omega)))) (cwV 1 hts gX7_power_X0_isAt rfl rfl rfl (by decide +kernel) ⟨by decide, by decide⟩) dX7_power_41 (jk4 (by omega) (by omega)) rfl rfl rfl rfl (Nat.le_of_ble_eq_true rfl) (fun r_41 u_41 H locs hp_41 hB => ?_)
      obtain ⟨rfl, rfl⟩ := hp_41
      refine jb_if_eq (tgt := 63) hx hb dX7_power_44 (by decide) (fun c_44 => ?_) (fun c_44 => ?_)
      · refine lv_bipush (v := (-2 : Int32)) hx hb dX7_power_63 (by decide) ?_
        exact j_iret hC hB dX7_power_65 (⟨by simp [powC, tN, nIc (show mm < 2147483648 by omega), nIc (show dd < 2147483648 by omega), c_5, c_13, c_44], rfl⟩)
      · refine lv_aload_n hx hb dX7_power_47 rfl (lv_at hl 0 rfl) ?_
        refine lv_aload_n hx hb dX7_power_48 rfl (lv_at hl 1 rfl) ?_
        refine j_get (0, 0, 0) 0 (v := .ref (G.2.2.1 (1, 0, 0))) hC hB in_X7 lk_10 dX7_power_49 jk0 rfl rfl (by decide) rfl ?_
        refine j_getN (1, 0, 0) 0 (v := .ref (G.2.2.1 (2, 0, 0))) hC hB in_X4 ln_93 dX7_power_52 (jk1 (by omega)) rfl rfl (by decide) rfl ?_
        refine lv_iload_n hx hb dX7_power_55 rfl (lv_at hl 3 rfl) ?_
        refine j_ald (2, 0, 0) (4, 0, dd) 3 dd hC hB dX7_power_56 (jk2 (by omega)) rfl rfl rfl (by omega) (by decide) rfl ?_
        refine j_cvi (5, 0, mm) [.ref (G.2.2.1 (4, 0, dd))] hC hB hl.1 (c_X3_powerAt l_ G I J O 0 mm 0 dd ((jk5 (by omega) (by omega))) ((jk4 (by omega) (by omega)))) (cwV 1 hts gX7_power_X3_powerAt rfl rfl rfl (by decide +kernel) ⟨by decide, by decide⟩) dX7_power_57 (jk5 (by omega) (by omega)) rfl rfl rfl rfl (Nat.le_of_ble_eq_true rfl) (fun r_57 u_57 H locs hp_57 hB => ?_)
        obtain ⟨rfl, rfl⟩ := hp_57
        refine lv_goto (tgt := 65) hx hb dX7_power_60 (by decide) ?_
        exact j_iret hC hB dX7_power_65 (⟨by simp [powC, tN, nIc (show mm < 2147483648 by omega), nIc (show dd < 2147483648 by omega), c_5, c_13, c_44], rfl⟩)
    · refine lv_iconst (v := (-1 : Int32)) hx hb dX7_power_16 (by decide) ?_
      exact j_iret hC hB dX7_power_17 (⟨by simp [powC, tN, c_5, c_13], rfl⟩)

set_option maxHeartbeats 4000000 in
set_option maxRecDepth 100000 in
theorem c_X7_count (l_ : Launch) (G : jG) (I : Nat → Nat → Int32) (J : Nat → Nat → Int64) (O : Nat → Nat → Nat) (what : Int32) {nd : Nat} (hnd : nd ≤ 10) (hD : I 0 0 = nI nd) {nm : Nat} (hnm : nm ≤ 4) (hM : I 0 1 = nI nm) : jMi l_ G yX7_count wsX7_count ({ frames := 1, cells := 0, slots := 0, locals := 22 }) [.ref (G.2.2.1 (0, 0, 0)), .int what] (I, J, O) (fun r u => r = cntC (I 0) nd nm (I 21 0) what ∧ u = (I, J, O)) := by
  refine jMi_of (cc := cX7_count) (maxL := 2) (ret := (some .int)) (lv0 := [(0, .ref (G.2.2.1 (0, 0, 0))), (1, .int what)]) (by decide) rfl (Nat.le_of_ble_eq_true rfl) rfl ?_
  intro pg_ ev_ s_ mi_ below meth cd_ A ls hC hB hl
  obtain ⟨hx, hb, hr, hml, hown, hts, hlocks, hK, hA⟩ := id hC
  have lk_10 := hts (.fieldLink RX7 10 "RiddlePrison" "now" "LRiddlePrison$Prison;") (by decide +kernel)
  have ln_70 := (by decide +kernel : Cond.fieldLinkNest RX7 70 "RiddlePrison$Prison" "doorCount" "I" "RiddlePrison" ∈ nsW)
  have ln_84 := (by decide +kernel : Cond.fieldLinkNest RX7 84 "RiddlePrison$Prison" "manCount" "I" "RiddlePrison" ∈ nsW)
  have lk_19 := hts (.fieldLink RX7 19 "RiddlePrison" "history" "LRiddlePrison$History;") (by decide +kernel)
  have ln_181 := (by decide +kernel : Cond.fieldLinkNest RX7 181 "RiddlePrison$History" "size" "I" "RiddlePrison" ∈ nsW)
  have in_X7 := (fun w h => List.mem_cons_of_mem _ (List.mem_append_left _ (List.mem_append_left _ (List.mem_append_left _ (List.mem_append_left _ (List.mem_append_right _ h))))) : ∀ w ∈ wsX70, w ∈ wsX7_count)
  have in_X4 := (fun w h => List.mem_cons_of_mem _ (List.mem_append_left _ (List.mem_append_left _ (List.mem_append_left _ (List.mem_append_right _ h)))) : ∀ w ∈ wsX40, w ∈ wsX7_count)
  have in_X2 := (fun w h => List.mem_cons_of_mem _ (List.mem_append_left _ (List.mem_append_left _ (List.mem_append_right _ h))) : ∀ w ∈ wsX20, w ∈ wsX7_count)
  refine lv_iload_n hx hb dX7_count_0 rfl (lv_at hl 1 rfl) ?_
  refine (Decidable.em (what = nI 0)).elim (fun c_1_0 => ?_) (fun c_1_0 => ?_)
  · refine j_eqi c_1_0 ?_
    refine lv_tableIn (tgt := 40) hx hb dX7_count_1 (by decide) (by decide) rfl (by decide) ?_
    refine lv_aload_n hx hb dX7_count_40 rfl (lv_at hl 0 rfl) ?_
    refine j_get (0, 0, 0) 0 (v := .ref (G.2.2.1 (1, 0, 0))) hC hB in_X7 lk_10 dX7_count_41 jk0 rfl rfl (by decide) rfl ?_
    refine j_getN (1, 0, 0) 2 (v := .int (I 0 0)) hC hB in_X4 ln_70 dX7_count_44 (jk1 (by omega)) rfl rfl (by decide) rfl ?_
    refine j_eqi (x := I 0 0) (y := nI nd) (hD) ?_
    exact j_iret hC hB dX7_count_47 (⟨by simp [cntC, eq_true c_1_0], rfl⟩)
  refine (Decidable.em (what = nI 1)).elim (fun c_1_1 => ?_) (fun c_1_1 => ?_)
  · refine j_eqi c_1_1 ?_
    refine lv_tableIn (tgt := 48) hx hb dX7_count_1 (by decide) (by decide) rfl (by decide) ?_
    refine lv_aload_n hx hb dX7_count_48 rfl (lv_at hl 0 rfl) ?_
    refine j_get (0, 0, 0) 0 (v := .ref (G.2.2.1 (1, 0, 0))) hC hB in_X7 lk_10 dX7_count_49 jk0 rfl rfl (by decide) rfl ?_
    refine j_getN (1, 0, 0) 3 (v := .int (I 0 1)) hC hB in_X4 ln_84 dX7_count_52 (jk1 (by omega)) rfl rfl (by decide) rfl ?_
    refine j_eqi (x := I 0 1) (y := nI nm) (hM) ?_
    exact j_iret hC hB dX7_count_55 (⟨by simp [cntC, c_1_0, eq_true c_1_1], rfl⟩)
  refine (Decidable.em (what = nI 2)).elim (fun c_1_2 => ?_) (fun c_1_2 => ?_)
  · refine j_eqi c_1_2 ?_
    refine lv_tableIn (tgt := 56) hx hb dX7_count_1 (by decide) (by decide) rfl (by decide) ?_
    refine lv_aload_n hx hb dX7_count_56 rfl (lv_at hl 0 rfl) ?_
    refine j_get (0, 0, 0) 0 (v := .ref (G.2.2.1 (1, 0, 0))) hC hB in_X7 lk_10 dX7_count_57 jk0 rfl rfl (by decide) rfl ?_
    refine j_cvi (1, 0, 0) [] hC hB hl.1 (c_X4_hardTogether l_ G I J O 0 (by omega) (by omega) (hD)) (cwV 0 hts gX7_count_X4_hardTogether rfl rfl rfl (by decide +kernel) ⟨by decide, by decide⟩) dX7_count_60 (jk1 (by omega)) rfl rfl rfl rfl (Nat.le_of_ble_eq_true rfl) (fun r_60 u_60 H locs hp_60 hB => ?_)
    obtain ⟨rfl, rfl⟩ := hp_60
    exact j_iret hC hB dX7_count_63 (⟨by simp [cntC, c_1_0, c_1_1, eq_true c_1_2], rfl⟩)
  refine (Decidable.em (what = nI 3)).elim (fun c_1_3 => ?_) (fun c_1_3 => ?_)
  · refine j_eqi c_1_3 ?_
    refine lv_tableIn (tgt := 64) hx hb dX7_count_1 (by decide) (by decide) rfl (by decide) ?_
    refine lv_aload_n hx hb dX7_count_64 rfl (lv_at hl 0 rfl) ?_
    refine j_get (0, 0, 0) 0 (v := .ref (G.2.2.1 (1, 0, 0))) hC hB in_X7 lk_10 dX7_count_65 jk0 rfl rfl (by decide) rfl ?_
    refine j_cvi (1, 0, 0) [] hC hB hl.1 (c_X4_failedTogether l_ G I J O 0 (by omega) (by omega) (hM)) (cwV 0 hts gX7_count_X4_failedTogether rfl rfl rfl (by decide +kernel) ⟨by decide, by decide⟩) dX7_count_68 (jk1 (by omega)) rfl rfl rfl rfl (Nat.le_of_ble_eq_true rfl) (fun r_68 u_68 H locs hp_68 hB => ?_)
    obtain ⟨rfl, rfl⟩ := hp_68
    exact j_iret hC hB dX7_count_71 (⟨by simp [cntC, c_1_0, c_1_1, c_1_2, eq_true c_1_3], rfl⟩)
  refine (Decidable.em (what = nI 4)).elim (fun c_1_4 => ?_) (fun c_1_4 => ?_)
  · refine j_eqi c_1_4 ?_
    refine lv_tableIn (tgt := 72) hx hb dX7_count_1 (by decide) (by decide) rfl (by decide) ?_
    refine lv_aload_n hx hb dX7_count_72 rfl (lv_at hl 0 rfl) ?_
    refine j_get (0, 0, 0) 0 (v := .ref (G.2.2.1 (1, 0, 0))) hC hB in_X7 lk_10 dX7_count_73 jk0 rfl rfl (by decide) rfl ?_
    refine j_cvi (1, 0, 0) [] hC hB hl.1 (c_X4_cellsWithMen l_ G I J O 0 (by omega) (by omega) (hM)) (cwV 0 hts gX7_count_X4_cellsWithMen rfl rfl rfl (by decide +kernel) ⟨by decide, by decide⟩) dX7_count_76 (jk1 (by omega)) rfl rfl rfl rfl (Nat.le_of_ble_eq_true rfl) (fun r_76 u_76 H locs hp_76 hB => ?_)
    obtain ⟨rfl, rfl⟩ := hp_76
    exact j_iret hC hB dX7_count_79 (⟨by simp [cntC, c_1_0, c_1_1, c_1_2, c_1_3, eq_true c_1_4], rfl⟩)
  refine (Decidable.em (what = nI 5)).elim (fun c_1_5 => ?_) (fun c_1_5 => ?_)
  · refine j_eqi c_1_5 ?_
    refine lv_tableIn (tgt := 80) hx hb dX7_count_1 (by decide) (by decide) rfl (by decide) ?_
    refine lv_aload_n hx hb dX7_count_80 rfl (lv_at hl 0 rfl) ?_
    refine j_get (0, 0, 0) 1 (v := .ref (G.2.2.1 (7, 0, 0))) hC hB in_X7 lk_19 dX7_count_81 jk0 rfl rfl (by decide) rfl ?_
    refine j_getN (7, 0, 0) 1 (v := .int (I 21 0)) hC hB in_X2 ln_181 dX7_count_84 (jk7 (by omega)) rfl rfl (by decide) rfl ?_
    exact j_iret hC hB dX7_count_87 (⟨by simp [cntC, c_1_0, c_1_1, c_1_2, c_1_3, c_1_4, eq_true c_1_5], rfl⟩)
  have h_1 := jtsw_0_5 c_1_0 c_1_1 c_1_2 c_1_3 c_1_4 c_1_5
  refine lv_tableOut (tgt := 88) hx hb dX7_count_1 h_1 (by decide) ?_
  refine lv_iconst (v := (-1 : Int32)) hx hb dX7_count_88 (by decide) ?_
  exact j_iret hC hB dX7_count_89 (⟨by simp [cntC, c_1_0, c_1_1, c_1_2, c_1_3, c_1_4, c_1_5], rfl⟩)
