set_option maxHeartbeats 4000000 in
set_option maxRecDepth 100000 in
theorem c_X8_in (l_ : Launch) (G : jG) (I : Nat → Nat → Int32) (J : Nat → Nat → Int64) (O : Nat → Nat → Nat) (v low high : Int64) : jMi l_ G yX8_in wsX8_in ({ frames := 0, cells := 0, slots := 0, locals := 0 }) [.long v, .long low, .long high] (I, J, O) (fun r u => r = b2 (inR v low high) ∧ u = (I, J, O)) := by
  refine jMi_of (cc := cX8_in) (maxL := 6) (ret := (some .boolean)) (lv0 := [(0, .long v), (2, .long low), (4, .long high)]) (by decide) rfl (Nat.le_of_ble_eq_true rfl) rfl ?_
  intro pg_ ev_ s_ mi_ below meth cd_ A ls hC hB hl
  obtain ⟨hx, hb, hr, hml, hown, hts, hlocks, hK, hA⟩ := id hC
  refine lv_lload_n hx hb dX8_in_0 rfl (lv_at hl 0 rfl) ?_
  refine lv_lload_n hx hb dX8_in_1 rfl (lv_at hl 1 rfl) ?_
  refine W.lcmp hx hb dX8_in_2 ?_
  refine jl_if_lt (tgt := 17) hx hb dX8_in_3 (by decide) (fun c_3 => ?_) (fun c_3 => ?_)
  · refine lv_iconst (v := nI 0) hx hb dX8_in_17 (by decide) ?_
    exact j_zret hC hB dX8_in_18 (by decide) (⟨by simp [inR, b2, c_3], rfl⟩)
  · refine lv_lload_n hx hb dX8_in_6 rfl (lv_at hl 0 rfl) ?_
    refine lv_lload hx hb dX8_in_7 (lv_at hl 2 rfl) ?_
    refine W.lcmp hx hb dX8_in_9 ?_
    refine jl_if_gt (tgt := 17) hx hb dX8_in_10 (by decide) (fun c_10 => ?_) (fun c_10 => ?_)
    · refine lv_iconst (v := nI 0) hx hb dX8_in_17 (by decide) ?_
      exact j_zret hC hB dX8_in_18 (by decide) (⟨by simp [inR, b2, c_3, c_10], rfl⟩)
    · refine lv_iconst (v := nI 1) hx hb dX8_in_13 (by decide) ?_
      refine lv_goto (tgt := 18) hx hb dX8_in_14 (by decide) ?_
      exact j_zret hC hB dX8_in_18 (by decide) (⟨by simp [inR, b2, c_3, c_10], rfl⟩)

set_option maxHeartbeats 4000000 in
set_option maxRecDepth 100000 in
theorem c_X8_has (l_ : Launch) (G : jG) (I : Nat → Nat → Int32) (J : Nat → Nat → Int64) (O : Nat → Nat → Nat) (set : Int32) (k : Nat) : jMi l_ G yX8_has wsX8_has ({ frames := 0, cells := 0, slots := 0, locals := 0 }) [.int set, .int (nI k)] (I, J, O) (fun r u => r = b2 (hasB set k) ∧ u = (I, J, O)) := by
  refine jMi_of (cc := cX8_has) (maxL := 2) (ret := (some .boolean)) (lv0 := [(0, .int set), (1, .int (nI k))]) (by decide) rfl (Nat.le_of_ble_eq_true rfl) rfl ?_
  intro pg_ ev_ s_ mi_ below meth cd_ A ls hC hB hl
  obtain ⟨hx, hb, hr, hml, hown, hts, hlocks, hK, hA⟩ := id hC
  refine lv_iload_n hx hb dX8_has_0 rfl (lv_at hl 0 rfl) ?_
  refine lv_iload_n hx hb dX8_has_1 rfl (lv_at hl 1 rfl) ?_
  refine lv_ishr hx hb dX8_has_2 ?_
  refine lv_iconst (v := nI 1) hx hb dX8_has_3 (by decide) ?_
  refine lv_iand hx hb dX8_has_4 ?_
  refine lv_iconst (v := nI 1) hx hb dX8_has_5 (by decide) ?_
  refine lv_icmp_ne (tgt := 13) hx hb dX8_has_6 (by decide) (fun c_6 => ?_) (fun c_6 => ?_)
  · refine lv_iconst (v := nI 0) hx hb dX8_has_13 (by decide) ?_
    exact j_zret hC hB dX8_has_14 (by decide) (⟨by simp [hasB, b2, c_6], rfl⟩)
  · refine lv_iconst (v := nI 1) hx hb dX8_has_9 (by decide) ?_
    refine lv_goto (tgt := 14) hx hb dX8_has_10 (by decide) ?_
    exact j_zret hC hB dX8_has_14 (by decide) (⟨by simp [hasB, b2, eq_true c_6], rfl⟩)

set_option maxHeartbeats 4000000 in
set_option maxRecDepth 100000 in
theorem c_X8_isDoor (l_ : Launch) (G : jG) (I : Nat → Nat → Int32) (J : Nat → Nat → Int64) (O : Nat → Nat → Nat) (d : Int32) {nd : Nat} (hnd : nd ≤ 10) (hD : I 41 0 = nI nd) : jMi l_ G yX8_isDoor wsX8_isDoor ({ frames := 1, cells := 0, slots := 0, locals := 25 }) [.ref (G.2.2.1 (20, 0, 0)), .int d] (I, J, O) (fun r u => r = b2 (isB d nd) ∧ u = (I, J, O)) := by
  refine jMi_of (cc := cX8_isDoor) (maxL := 2) (ret := (some .boolean)) (lv0 := [(0, .ref (G.2.2.1 (20, 0, 0))), (1, .int d)]) (by decide) rfl (Nat.le_of_ble_eq_true rfl) rfl ?_
  intro pg_ ev_ s_ mi_ below meth cd_ A ls hC hB hl
  obtain ⟨hx, hb, hr, hml, hown, hts, hlocks, hK, hA⟩ := id hC
  have lk_7 := hts (.fieldLink RX8 7 "RiddlePrisonModel" "now" "[I") (by decide +kernel)
  have in_X8 := (fun w h => List.mem_cons_of_mem _ (List.mem_append_right _ h) : ∀ w ∈ wsX80, w ∈ wsX8_isDoor)
  refine lv_iload_n hx hb dX8_isDoor_0 rfl (lv_at hl 1 rfl) ?_
  refine lv_i2l (v := d.toInt64) hx hb dX8_isDoor_1 rfl ?_
  refine lv_lconst (v := 0) hx hb dX8_isDoor_2 rfl ?_
  refine lv_aload_n hx hb dX8_isDoor_3 rfl (lv_at hl 0 rfl) ?_
  refine j_get (20, 0, 0) 0 (v := .ref (G.2.2.1 (21, 41, 0))) hC hB in_X8 lk_7 dX8_isDoor_4 jk20 rfl rfl (by decide) rfl ?_
  refine lv_iconst (v := nI 0) hx hb dX8_isDoor_7 (by decide) ?_
  refine j_ild 41 0 hC hB dX8_isDoor_8 (by decide) rfl (by simp only [lenI_41]; omega) ?_
  refine j_eqi (y := nI nd) (hD) ?_
  refine lv_iconst (v := nI 1) hx hb dX8_isDoor_9 (by decide) ?_
  refine lv_isub hx hb dX8_isDoor_10 ?_
  refine lv_i2l (v := ((nI nd) - (nI 1)).toInt64) hx hb dX8_isDoor_11 rfl ?_
  refine j_csi [.long d.toInt64, .long ((0 : Int64)), .long (((nI nd) - (nI 1)).toInt64)] hC hB hl.1 (c_X8_in l_ G I J O d.toInt64 ((0 : Int64)) (((nI nd) - (nI 1)).toInt64)) (va_cwS 3 hts gX8_isDoor_X8_in rfl rfl rfl (by decide +kernel) ⟨by decide, by decide⟩) dX8_isDoor_12 rfl rfl (Nat.le_of_ble_eq_true rfl) (fun r_12 u_12 H locs hp_12 hB => ?_)
  obtain ⟨rfl, rfl⟩ := hp_12
  exact j_zret hC hB dX8_isDoor_15 (b2_01 _) (⟨by rw [inR_isB1 (by omega)], rfl⟩)

set_option maxHeartbeats 4000000 in
set_option maxRecDepth 100000 in
theorem c_X8_isMan (l_ : Launch) (G : jG) (I : Nat → Nat → Int32) (J : Nat → Nat → Int64) (O : Nat → Nat → Nat) (d : Int32) {nm : Nat} (hnm : nm ≤ 4) (hM : I 41 1 = nI nm) : jMi l_ G yX8_isMan wsX8_isMan ({ frames := 1, cells := 0, slots := 0, locals := 25 }) [.ref (G.2.2.1 (20, 0, 0)), .int d] (I, J, O) (fun r u => r = b2 (isB d nm) ∧ u = (I, J, O)) := by
  refine jMi_of (cc := cX8_isMan) (maxL := 2) (ret := (some .boolean)) (lv0 := [(0, .ref (G.2.2.1 (20, 0, 0))), (1, .int d)]) (by decide) rfl (Nat.le_of_ble_eq_true rfl) rfl ?_
  intro pg_ ev_ s_ mi_ below meth cd_ A ls hC hB hl
  obtain ⟨hx, hb, hr, hml, hown, hts, hlocks, hK, hA⟩ := id hC
  have lk_7 := hts (.fieldLink RX8 7 "RiddlePrisonModel" "now" "[I") (by decide +kernel)
  have in_X8 := (fun w h => List.mem_cons_of_mem _ (List.mem_append_right _ h) : ∀ w ∈ wsX80, w ∈ wsX8_isMan)
  refine lv_iload_n hx hb dX8_isMan_0 rfl (lv_at hl 1 rfl) ?_
  refine lv_i2l (v := d.toInt64) hx hb dX8_isMan_1 rfl ?_
  refine lv_lconst (v := 0) hx hb dX8_isMan_2 rfl ?_
  refine lv_aload_n hx hb dX8_isMan_3 rfl (lv_at hl 0 rfl) ?_
  refine j_get (20, 0, 0) 0 (v := .ref (G.2.2.1 (21, 41, 0))) hC hB in_X8 lk_7 dX8_isMan_4 jk20 rfl rfl (by decide) rfl ?_
  refine lv_iconst (v := nI 1) hx hb dX8_isMan_7 (by decide) ?_
  refine j_ild 41 1 hC hB dX8_isMan_8 (by decide) rfl (by simp only [lenI_41]; omega) ?_
  refine j_eqi (y := nI nm) (hM) ?_
  refine lv_iconst (v := nI 1) hx hb dX8_isMan_9 (by decide) ?_
  refine lv_isub hx hb dX8_isMan_10 ?_
  refine lv_i2l (v := ((nI nm) - (nI 1)).toInt64) hx hb dX8_isMan_11 rfl ?_
  refine j_csi [.long d.toInt64, .long ((0 : Int64)), .long (((nI nm) - (nI 1)).toInt64)] hC hB hl.1 (c_X8_in l_ G I J O d.toInt64 ((0 : Int64)) (((nI nm) - (nI 1)).toInt64)) (va_cwS 3 hts gX8_isMan_X8_in rfl rfl rfl (by decide +kernel) ⟨by decide, by decide⟩) dX8_isMan_12 rfl rfl (Nat.le_of_ble_eq_true rfl) (fun r_12 u_12 H locs hp_12 hB => ?_)
  obtain ⟨rfl, rfl⟩ := hp_12
  exact j_zret hC hB dX8_isMan_15 (b2_01 _) (⟨by rw [inR_isB1 (by omega)], rfl⟩)

set_option maxHeartbeats 4000000 in
set_option maxRecDepth 100000 in
theorem c_X8_isCell (l_ : Launch) (G : jG) (I : Nat → Nat → Int32) (J : Nat → Nat → Int64) (O : Nat → Nat → Nat) (d : Int32) : jMi l_ G yX8_isCell wsX8_isCell ({ frames := 1, cells := 0, slots := 0, locals := 25 }) [.int d] (I, J, O) (fun r u => r = b2 (isB d 8) ∧ u = (I, J, O)) := by
  refine jMi_of (cc := cX8_isCell) (maxL := 1) (ret := (some .boolean)) (lv0 := [(0, .int d)]) (by decide) rfl (Nat.le_of_ble_eq_true rfl) rfl ?_
  intro pg_ ev_ s_ mi_ below meth cd_ A ls hC hB hl
  obtain ⟨hx, hb, hr, hml, hown, hts, hlocks, hK, hA⟩ := id hC
  refine lv_iload_n hx hb dX8_isCell_0 rfl (lv_at hl 0 rfl) ?_
  refine lv_i2l (v := d.toInt64) hx hb dX8_isCell_1 rfl ?_
  refine lv_lconst (v := 0) hx hb dX8_isCell_2 rfl ?_
  refine lv_ldc2 (v := 7) hx hb hown (hts (.constantLong RX8 66 (7)) (by decide +kernel)) dX8_isCell_3 ?_
  refine j_csi [.long d.toInt64, .long ((0 : Int64)), .long ((7 : Int64))] hC hB hl.1 (c_X8_in l_ G I J O d.toInt64 ((0 : Int64)) ((7 : Int64))) (va_cwS 3 hts gX8_isCell_X8_in rfl rfl rfl (by decide +kernel) ⟨by decide, by decide⟩) dX8_isCell_6 rfl rfl (Nat.le_of_ble_eq_true rfl) (fun r_6 u_6 H locs hp_6 hB => ?_)
  obtain ⟨rfl, rfl⟩ := hp_6
  exact j_zret hC hB dX8_isCell_9 (b2_01 _) (⟨by rw [inR_isB (n := 8) (by decide)], rfl⟩)

set_option maxHeartbeats 4000000 in
set_option maxRecDepth 100000 in
theorem c_X8_isSort (l_ : Launch) (G : jG) (I : Nat → Nat → Int32) (J : Nat → Nat → Int64) (O : Nat → Nat → Nat) (d : Int32) : jMi l_ G yX8_isSort wsX8_isSort ({ frames := 1, cells := 0, slots := 0, locals := 25 }) [.int d] (I, J, O) (fun r u => r = b2 (isB d 4) ∧ u = (I, J, O)) := by
  refine jMi_of (cc := cX8_isSort) (maxL := 1) (ret := (some .boolean)) (lv0 := [(0, .int d)]) (by decide) rfl (Nat.le_of_ble_eq_true rfl) rfl ?_
  intro pg_ ev_ s_ mi_ below meth cd_ A ls hC hB hl
  obtain ⟨hx, hb, hr, hml, hown, hts, hlocks, hK, hA⟩ := id hC
  refine lv_iload_n hx hb dX8_isSort_0 rfl (lv_at hl 0 rfl) ?_
  refine lv_i2l (v := d.toInt64) hx hb dX8_isSort_1 rfl ?_
  refine lv_lconst (v := 0) hx hb dX8_isSort_2 rfl ?_
  refine lv_ldc2 (v := 3) hx hb hown (hts (.constantLong RX8 68 (3)) (by decide +kernel)) dX8_isSort_3 ?_
  refine j_csi [.long d.toInt64, .long ((0 : Int64)), .long ((3 : Int64))] hC hB hl.1 (c_X8_in l_ G I J O d.toInt64 ((0 : Int64)) ((3 : Int64))) (va_cwS 3 hts gX8_isSort_X8_in rfl rfl rfl (by decide +kernel) ⟨by decide, by decide⟩) dX8_isSort_6 rfl rfl (Nat.le_of_ble_eq_true rfl) (fun r_6 u_6 H locs hp_6 hB => ?_)
  obtain ⟨rfl, rfl⟩ := hp_6
  exact j_zret hC hB dX8_isSort_9 (b2_01 _) (⟨by rw [inR_isB (n := 4) (by decide)], rfl⟩)

set_option maxHeartbeats 4000000 in
set_option maxRecDepth 100000 in
theorem c_X8_isSheet (l_ : Launch) (G : jG) (I : Nat → Nat → Int32) (J : Nat → Nat → Int64) (O : Nat → Nat → Nat) (d : Int32) : jMi l_ G yX8_isSheet wsX8_isSheet ({ frames := 1, cells := 0, slots := 0, locals := 25 }) [.int d] (I, J, O) (fun r u => r = b2 (isB d 4) ∧ u = (I, J, O)) := by
  refine jMi_of (cc := cX8_isSheet) (maxL := 1) (ret := (some .boolean)) (lv0 := [(0, .int d)]) (by decide) rfl (Nat.le_of_ble_eq_true rfl) rfl ?_
  intro pg_ ev_ s_ mi_ below meth cd_ A ls hC hB hl
  obtain ⟨hx, hb, hr, hml, hown, hts, hlocks, hK, hA⟩ := id hC
  refine lv_iload_n hx hb dX8_isSheet_0 rfl (lv_at hl 0 rfl) ?_
  refine lv_i2l (v := d.toInt64) hx hb dX8_isSheet_1 rfl ?_
  refine lv_lconst (v := 0) hx hb dX8_isSheet_2 rfl ?_
  refine lv_ldc2 (v := 3) hx hb hown (hts (.constantLong RX8 68 (3)) (by decide +kernel)) dX8_isSheet_3 ?_
  refine j_csi [.long d.toInt64, .long ((0 : Int64)), .long ((3 : Int64))] hC hB hl.1 (c_X8_in l_ G I J O d.toInt64 ((0 : Int64)) ((3 : Int64))) (va_cwS 3 hts gX8_isSheet_X8_in rfl rfl rfl (by decide +kernel) ⟨by decide, by decide⟩) dX8_isSheet_6 rfl rfl (Nat.le_of_ble_eq_true rfl) (fun r_6 u_6 H locs hp_6 hB => ?_)
  obtain ⟨rfl, rfl⟩ := hp_6
  exact j_zret hC hB dX8_isSheet_9 (b2_01 _) (⟨by rw [inR_isB (n := 4) (by decide)], rfl⟩)

set_option maxHeartbeats 4000000 in
set_option maxRecDepth 100000 in
theorem c_X8_powerAs (l_ : Launch) (G : jG) (I : Nat → Nat → Int32) (J : Nat → Nat → Int64) (O : Nat → Nat → Nat) (kind wit own cell failed sort : Int32) : jMi l_ G yX8_powerAs wsX8_powerAs ({ frames := 0, cells := 0, slots := 0, locals := 0 }) [.int kind, .int wit, .int own, .int cell, .int failed, .int sort] (I, J, O) (fun r u => r = pwF kind wit own cell failed sort ∧ u = (I, J, O)) := by
  refine jMi_of (cc := cX8_powerAs) (maxL := 8) (ret := (some .int)) (lv0 := [(0, .int kind), (1, .int wit), (2, .int own), (3, .int cell), (4, .int failed), (5, .int sort)]) (by decide) rfl (Nat.le_of_ble_eq_true rfl) rfl ?_
  intro pg_ ev_ s_ mi_ below meth cd_ A ls hC hB hl
  obtain ⟨hx, hb, hr, hml, hown, hts, hlocks, hK, hA⟩ := id hC
  refine lv_iload_n hx hb dX8_powerAs_0 rfl (lv_at hl 1 rfl) ?_
  refine lv_iload hx hb dX8_powerAs_1 (lv_at hl 5 rfl) ?_
  refine lv_iload_n hx hb dX8_powerAs_3 rfl (lv_at hl 2 rfl) ?_
  refine lv_icmp_ne (tgt := 11) hx hb dX8_powerAs_4 (by decide) (fun c_4 => ?_) (fun c_4 => ?_)
  · refine lv_iconst (v := nI 0) hx hb dX8_powerAs_11 (by decide) ?_
    refine lv_iadd hx hb dX8_powerAs_12 ?_
    refine lv_istore (lv' := [(6, .int (wit + (nI 0))), (0, .int kind), (1, .int wit), (2, .int own), (3, .int cell), (4, .int failed), (5, .int sort)]) hx hb dX8_powerAs_13 hl (by decide) rfl (fun ls hl => ?_)
    refine lv_iload_n hx hb dX8_powerAs_15 rfl (lv_at hl 2 rfl) ?_
    refine lv_iload_n hx hb dX8_powerAs_16 rfl (lv_at hl 4 rfl) ?_
    refine lv_iconst (v := nI 2) hx hb dX8_powerAs_17 (by decide) ?_
    refine lv_irem hx hb dX8_powerAs_18 (by decide) ?_
    refine lv_iconst (v := nI 1) hx hb dX8_powerAs_19 (by decide) ?_
    refine lv_icmp_ne (tgt := 27) hx hb dX8_powerAs_20 (by decide) (fun c_20 => ?_) (fun c_20 => ?_)
    · refine lv_iconst (v := nI 0) hx hb dX8_powerAs_27 (by decide) ?_
      refine lv_iadd hx hb dX8_powerAs_28 ?_
      refine lv_istore (lv' := [(7, .int (wit + (nI 0))), (6, .int (wit + (nI 0))), (0, .int kind), (1, .int wit), (2, .int own), (3, .int cell), (4, .int failed), (5, .int sort)]) hx hb dX8_powerAs_29 hl (by decide) rfl (fun ls hl => ?_)
      refine lv_iload_n hx hb dX8_powerAs_31 rfl (lv_at hl 2 rfl) ?_
      refine (Decidable.em (kind = nI 1)).elim (fun c_32_1 => ?_) (fun c_32_1 => ?_)
      · refine j_eqi c_32_1 ?_
        refine lv_tableIn (tgt := 64) hx hb dX8_powerAs_32 (by decide) (by decide) rfl (by decide) ?_
        refine lv_iload hx hb dX8_powerAs_64 (lv_at hl 1 rfl) ?_
        exact j_iret hC hB dX8_powerAs_66 (⟨by simp [pwF, oddB, c_4, c_20, eq_true c_32_1], rfl⟩)
      refine (Decidable.em (kind = nI 2)).elim (fun c_32_2 => ?_) (fun c_32_2 => ?_)
      · refine j_eqi c_32_2 ?_
        refine lv_tableIn (tgt := 67) hx hb dX8_powerAs_32 (by decide) (by decide) rfl (by decide) ?_
        refine lv_iload hx hb dX8_powerAs_67 (lv_at hl 0 rfl) ?_
        exact j_iret hC hB dX8_powerAs_69 (⟨by simp [pwF, oddB, c_4, c_20, c_32_1, eq_true c_32_2], rfl⟩)
      refine (Decidable.em (kind = nI 3)).elim (fun c_32_3 => ?_) (fun c_32_3 => ?_)
      · refine j_eqi c_32_3 ?_
        refine lv_tableIn (tgt := 70) hx hb dX8_powerAs_32 (by decide) (by decide) rfl (by decide) ?_
        refine lv_iload hx hb dX8_powerAs_70 (lv_at hl 7 rfl) ?_
        refine lv_if_ne (tgt := 79) hx hb dX8_powerAs_72 (by decide) (fun c_72 => ?_) (fun c_72 => ?_)
        · refine lv_iload hx hb dX8_powerAs_79 (lv_at hl 1 rfl) ?_
          exact j_iret hC hB dX8_powerAs_81 (⟨by simp [pwF, oddB, c_4, c_20, c_32_1, c_32_2, eq_true c_32_3, c_72], rfl⟩)
        · refine lv_iconst (v := nI 0) hx hb dX8_powerAs_75 (by decide) ?_
          refine lv_goto (tgt := 81) hx hb dX8_powerAs_76 (by decide) ?_
          exact j_iret hC hB dX8_powerAs_81 (⟨by simp [pwF, oddB, c_4, c_20, c_32_1, c_32_2, eq_true c_32_3, eq_true c_72], rfl⟩)
      refine (Decidable.em (kind = nI 4)).elim (fun c_32_4 => ?_) (fun c_32_4 => ?_)
      · refine j_eqi c_32_4 ?_
        refine lv_tableIn (tgt := 82) hx hb dX8_powerAs_32 (by decide) (by decide) rfl (by decide) ?_
        refine lv_iload hx hb dX8_powerAs_82 (lv_at hl 0 rfl) ?_
        refine lv_iload hx hb dX8_powerAs_84 (lv_at hl 6 rfl) ?_
        refine lv_bipush (v := nI 9) hx hb dX8_powerAs_86 (by decide) ?_
        refine lv_icmp_le (tgt := 96) hx hb dX8_powerAs_88 (by decide) (fun c_88 => ?_) (fun c_88 => ?_)
        · refine lv_iload hx hb dX8_powerAs_96 (lv_at hl 6 rfl) ?_
          refine lv_iadd hx hb dX8_powerAs_98 ?_
          exact j_iret hC hB dX8_powerAs_99 (⟨by simp [pwF, oddB, c_4, c_20, c_32_1, c_32_2, c_32_3, eq_true c_32_4, c_88], rfl⟩)
        · refine lv_bipush (v := nI 9) hx hb dX8_powerAs_91 (by decide) ?_
          refine lv_goto (tgt := 98) hx hb dX8_powerAs_93 (by decide) ?_
          refine lv_iadd hx hb dX8_powerAs_98 ?_
          exact j_iret hC hB dX8_powerAs_99 (⟨by simp [pwF, oddB, c_4, c_20, c_32_1, c_32_2, c_32_3, eq_true c_32_4, c_88], rfl⟩)
      have h_32 := jtsw_1_4 c_32_1 c_32_2 c_32_3 c_32_4
      refine lv_tableOut (tgt := 100) hx hb dX8_powerAs_32 h_32 (by decide) ?_
      refine lv_iload_n hx hb dX8_powerAs_100 rfl (lv_at hl 3 rfl) ?_
      exact j_iret hC hB dX8_powerAs_101 (⟨by simp [pwF, oddB, c_4, c_20, c_32_1, c_32_2, c_32_3, c_32_4], rfl⟩)
    · refine lv_iconst (v := nI 2) hx hb dX8_powerAs_23 (by decide) ?_
      refine lv_goto (tgt := 28) hx hb dX8_powerAs_24 (by decide) ?_
      refine lv_iadd hx hb dX8_powerAs_28 ?_
      refine lv_istore (lv' := [(7, .int (wit + (nI 2))), (6, .int (wit + (nI 0))), (0, .int kind), (1, .int wit), (2, .int own), (3, .int cell), (4, .int failed), (5, .int sort)]) hx hb dX8_powerAs_29 hl (by decide) rfl (fun ls hl => ?_)
      refine lv_iload_n hx hb dX8_powerAs_31 rfl (lv_at hl 2 rfl) ?_
      refine (Decidable.em (kind = nI 1)).elim (fun c_32_1 => ?_) (fun c_32_1 => ?_)
      · refine j_eqi c_32_1 ?_
        refine lv_tableIn (tgt := 64) hx hb dX8_powerAs_32 (by decide) (by decide) rfl (by decide) ?_
        refine lv_iload hx hb dX8_powerAs_64 (lv_at hl 1 rfl) ?_
        exact j_iret hC hB dX8_powerAs_66 (⟨by simp [pwF, oddB, c_4, eq_true c_20, eq_true c_32_1], rfl⟩)
      refine (Decidable.em (kind = nI 2)).elim (fun c_32_2 => ?_) (fun c_32_2 => ?_)
      · refine j_eqi c_32_2 ?_
        refine lv_tableIn (tgt := 67) hx hb dX8_powerAs_32 (by decide) (by decide) rfl (by decide) ?_
        refine lv_iload hx hb dX8_powerAs_67 (lv_at hl 0 rfl) ?_
        exact j_iret hC hB dX8_powerAs_69 (⟨by simp [pwF, oddB, c_4, eq_true c_20, c_32_1, eq_true c_32_2], rfl⟩)
      refine (Decidable.em (kind = nI 3)).elim (fun c_32_3 => ?_) (fun c_32_3 => ?_)
      · refine j_eqi c_32_3 ?_
        refine lv_tableIn (tgt := 70) hx hb dX8_powerAs_32 (by decide) (by decide) rfl (by decide) ?_
        refine lv_iload hx hb dX8_powerAs_70 (lv_at hl 7 rfl) ?_
        refine lv_if_ne (tgt := 79) hx hb dX8_powerAs_72 (by decide) (fun c_72 => ?_) (fun c_72 => ?_)
        · refine lv_iload hx hb dX8_powerAs_79 (lv_at hl 1 rfl) ?_
          exact j_iret hC hB dX8_powerAs_81 (⟨by simp [pwF, oddB, c_4, eq_true c_20, c_32_1, c_32_2, eq_true c_32_3, c_72], rfl⟩)
        · refine lv_iconst (v := nI 0) hx hb dX8_powerAs_75 (by decide) ?_
          refine lv_goto (tgt := 81) hx hb dX8_powerAs_76 (by decide) ?_
          exact j_iret hC hB dX8_powerAs_81 (⟨by simp [pwF, oddB, c_4, eq_true c_20, c_32_1, c_32_2, eq_true c_32_3, eq_true c_72], rfl⟩)
      refine (Decidable.em (kind = nI 4)).elim (fun c_32_4 => ?_) (fun c_32_4 => ?_)
      · refine j_eqi c_32_4 ?_
        refine lv_tableIn (tgt := 82) hx hb dX8_powerAs_32 (by decide) (by decide) rfl (by decide) ?_
        refine lv_iload hx hb dX8_powerAs_82 (lv_at hl 0 rfl) ?_
        refine lv_iload hx hb dX8_powerAs_84 (lv_at hl 6 rfl) ?_
        refine lv_bipush (v := nI 9) hx hb dX8_powerAs_86 (by decide) ?_
        refine lv_icmp_le (tgt := 96) hx hb dX8_powerAs_88 (by decide) (fun c_88 => ?_) (fun c_88 => ?_)
        · refine lv_iload hx hb dX8_powerAs_96 (lv_at hl 6 rfl) ?_
          refine lv_iadd hx hb dX8_powerAs_98 ?_
          exact j_iret hC hB dX8_powerAs_99 (⟨by simp [pwF, oddB, c_4, eq_true c_20, c_32_1, c_32_2, c_32_3, eq_true c_32_4, c_88], rfl⟩)
        · refine lv_bipush (v := nI 9) hx hb dX8_powerAs_91 (by decide) ?_
          refine lv_goto (tgt := 98) hx hb dX8_powerAs_93 (by decide) ?_
          refine lv_iadd hx hb dX8_powerAs_98 ?_
          exact j_iret hC hB dX8_powerAs_99 (⟨by simp [pwF, oddB, c_4, eq_true c_20, c_32_1, c_32_2, c_32_3, eq_true c_32_4, c_88], rfl⟩)
      have h_32 := jtsw_1_4 c_32_1 c_32_2 c_32_3 c_32_4
      refine lv_tableOut (tgt := 100) hx hb dX8_powerAs_32 h_32 (by decide) ?_
      refine lv_iload_n hx hb dX8_powerAs_100 rfl (lv_at hl 3 rfl) ?_
      exact j_iret hC hB dX8_powerAs_101 (⟨by simp [pwF, oddB, c_4, eq_true c_20, c_32_1, c_32_2, c_32_3, c_32_4], rfl⟩)
  · refine lv_iconst (v := nI 3) hx hb dX8_powerAs_7 (by decide) ?_
    refine lv_goto (tgt := 12) hx hb dX8_powerAs_8 (by decide) ?_
    refine lv_iadd hx hb dX8_powerAs_12 ?_
    refine lv_istore (lv' := [(6, .int (wit + (nI 3))), (0, .int kind), (1, .int wit), (2, .int own), (3, .int cell), (4, .int failed), (5, .int sort)]) hx hb dX8_powerAs_13 hl (by decide) rfl (fun ls hl => ?_)
    refine lv_iload_n hx hb dX8_powerAs_15 rfl (lv_at hl 2 rfl) ?_
    refine lv_iload_n hx hb dX8_powerAs_16 rfl (lv_at hl 4 rfl) ?_
    refine lv_iconst (v := nI 2) hx hb dX8_powerAs_17 (by decide) ?_
    refine lv_irem hx hb dX8_powerAs_18 (by decide) ?_
    refine lv_iconst (v := nI 1) hx hb dX8_powerAs_19 (by decide) ?_
    refine lv_icmp_ne (tgt := 27) hx hb dX8_powerAs_20 (by decide) (fun c_20 => ?_) (fun c_20 => ?_)
    · refine lv_iconst (v := nI 0) hx hb dX8_powerAs_27 (by decide) ?_
      refine lv_iadd hx hb dX8_powerAs_28 ?_
      refine lv_istore (lv' := [(7, .int (wit + (nI 0))), (6, .int (wit + (nI 3))), (0, .int kind), (1, .int wit), (2, .int own), (3, .int cell), (4, .int failed), (5, .int sort)]) hx hb dX8_powerAs_29 hl (by decide) rfl (fun ls hl => ?_)
      refine lv_iload_n hx hb dX8_powerAs_31 rfl (lv_at hl 2 rfl) ?_
      refine (Decidable.em (kind = nI 1)).elim (fun c_32_1 => ?_) (fun c_32_1 => ?_)
      · refine j_eqi c_32_1 ?_
        refine lv_tableIn (tgt := 64) hx hb dX8_powerAs_32 (by decide) (by decide) rfl (by decide) ?_
        refine lv_iload hx hb dX8_powerAs_64 (lv_at hl 1 rfl) ?_
        exact j_iret hC hB dX8_powerAs_66 (⟨by simp [pwF, oddB, eq_true c_4, c_20, eq_true c_32_1], rfl⟩)
      refine (Decidable.em (kind = nI 2)).elim (fun c_32_2 => ?_) (fun c_32_2 => ?_)
      · refine j_eqi c_32_2 ?_
        refine lv_tableIn (tgt := 67) hx hb dX8_powerAs_32 (by decide) (by decide) rfl (by decide) ?_
        refine lv_iload hx hb dX8_powerAs_67 (lv_at hl 0 rfl) ?_
        exact j_iret hC hB dX8_powerAs_69 (⟨by simp [pwF, oddB, eq_true c_4, c_20, c_32_1, eq_true c_32_2], rfl⟩)
      refine (Decidable.em (kind = nI 3)).elim (fun c_32_3 => ?_) (fun c_32_3 => ?_)
      · refine j_eqi c_32_3 ?_
        refine lv_tableIn (tgt := 70) hx hb dX8_powerAs_32 (by decide) (by decide) rfl (by decide) ?_
        refine lv_iload hx hb dX8_powerAs_70 (lv_at hl 7 rfl) ?_
        refine lv_if_ne (tgt := 79) hx hb dX8_powerAs_72 (by decide) (fun c_72 => ?_) (fun c_72 => ?_)
        · refine lv_iload hx hb dX8_powerAs_79 (lv_at hl 1 rfl) ?_
          exact j_iret hC hB dX8_powerAs_81 (⟨by simp [pwF, oddB, eq_true c_4, c_20, c_32_1, c_32_2, eq_true c_32_3, c_72], rfl⟩)
        · refine lv_iconst (v := nI 0) hx hb dX8_powerAs_75 (by decide) ?_
          refine lv_goto (tgt := 81) hx hb dX8_powerAs_76 (by decide) ?_
          exact j_iret hC hB dX8_powerAs_81 (⟨by simp [pwF, oddB, eq_true c_4, c_20, c_32_1, c_32_2, eq_true c_32_3, eq_true c_72], rfl⟩)
      refine (Decidable.em (kind = nI 4)).elim (fun c_32_4 => ?_) (fun c_32_4 => ?_)
      · refine j_eqi c_32_4 ?_
        refine lv_tableIn (tgt := 82) hx hb dX8_powerAs_32 (by decide) (by decide) rfl (by decide) ?_
        refine lv_iload hx hb dX8_powerAs_82 (lv_at hl 0 rfl) ?_
        refine lv_iload hx hb dX8_powerAs_84 (lv_at hl 6 rfl) ?_
        refine lv_bipush (v := nI 9) hx hb dX8_powerAs_86 (by decide) ?_
        refine lv_icmp_le (tgt := 96) hx hb dX8_powerAs_88 (by decide) (fun c_88 => ?_) (fun c_88 => ?_)
        · refine lv_iload hx hb dX8_powerAs_96 (lv_at hl 6 rfl) ?_
          refine lv_iadd hx hb dX8_powerAs_98 ?_
          exact j_iret hC hB dX8_powerAs_99 (⟨by simp [pwF, oddB, eq_true c_4, c_20, c_32_1, c_32_2, c_32_3, eq_true c_32_4, c_88], rfl⟩)
        · refine lv_bipush (v := nI 9) hx hb dX8_powerAs_91 (by decide) ?_
          refine lv_goto (tgt := 98) hx hb dX8_powerAs_93 (by decide) ?_
          refine lv_iadd hx hb dX8_powerAs_98 ?_
          exact j_iret hC hB dX8_powerAs_99 (⟨by simp [pwF, oddB, eq_true c_4, c_20, c_32_1, c_32_2, c_32_3, eq_true c_32_4, c_88], rfl⟩)
      have h_32 := jtsw_1_4 c_32_1 c_32_2 c_32_3 c_32_4
      refine lv_tableOut (tgt := 100) hx hb dX8_powerAs_32 h_32 (by decide) ?_
      refine lv_iload_n hx hb dX8_powerAs_100 rfl (lv_at hl 3 rfl) ?_
      exact j_iret hC hB dX8_powerAs_101 (⟨by simp [pwF, oddB, eq_true c_4, c_20, c_32_1, c_32_2, c_32_3, c_32_4], rfl⟩)
    · refine lv_iconst (v := nI 2) hx hb dX8_powerAs_23 (by decide) ?_
      refine lv_goto (tgt := 28) hx hb dX8_powerAs_24 (by decide) ?_
      refine lv_iadd hx hb dX8_powerAs_28 ?_
      refine lv_istore (lv' := [(7, .int (wit + (nI 2))), (6, .int (wit + (nI 3))), (0, .int kind), (1, .int wit), (2, .int own), (3, .int cell), (4, .int failed), (5, .int sort)]) hx hb dX8_powerAs_29 hl (by decide) rfl (fun ls hl => ?_)
      refine lv_iload_n hx hb dX8_powerAs_31 rfl (lv_at hl 2 rfl) ?_
      refine (Decidable.em (kind = nI 1)).elim (fun c_32_1 => ?_) (fun c_32_1 => ?_)
      · refine j_eqi c_32_1 ?_
        refine lv_tableIn (tgt := 64) hx hb dX8_powerAs_32 (by decide) (by decide) rfl (by decide) ?_
        refine lv_iload hx hb dX8_powerAs_64 (lv_at hl 1 rfl) ?_
        exact j_iret hC hB dX8_powerAs_66 (⟨by simp [pwF, oddB, eq_true c_4, eq_true c_20, eq_true c_32_1], rfl⟩)
      refine (Decidable.em (kind = nI 2)).elim (fun c_32_2 => ?_) (fun c_32_2 => ?_)
      · refine j_eqi c_32_2 ?_
        refine lv_tableIn (tgt := 67) hx hb dX8_powerAs_32 (by decide) (by decide) rfl (by decide) ?_
        refine lv_iload hx hb dX8_powerAs_67 (lv_at hl 0 rfl) ?_
        exact j_iret hC hB dX8_powerAs_69 (⟨by simp [pwF, oddB, eq_true c_4, eq_true c_20, c_32_1, eq_true c_32_2], rfl⟩)
      refine (Decidable.em (kind = nI 3)).elim (fun c_32_3 => ?_) (fun c_32_3 => ?_)
      · refine j_eqi c_32_3 ?_
        refine lv_tableIn (tgt := 70) hx hb dX8_powerAs_32 (by decide) (by decide) rfl (by decide) ?_
        refine lv_iload hx hb dX8_powerAs_70 (lv_at hl 7 rfl) ?_
        refine lv_if_ne (tgt := 79) hx hb dX8_powerAs_72 (by decide) (fun c_72 => ?_) (fun c_72 => ?_)
        · refine lv_iload hx hb dX8_powerAs_79 (lv_at hl 1 rfl) ?_
          exact j_iret hC hB dX8_powerAs_81 (⟨by simp [pwF, oddB, eq_true c_4, eq_true c_20, c_32_1, c_32_2, eq_true c_32_3, c_72], rfl⟩)
        · refine lv_iconst (v := nI 0) hx hb dX8_powerAs_75 (by decide) ?_
          refine lv_goto (tgt := 81) hx hb dX8_powerAs_76 (by decide) ?_
          exact j_iret hC hB dX8_powerAs_81 (⟨by simp [pwF, oddB, eq_true c_4, eq_true c_20, c_32_1, c_32_2, eq_true c_32_3, eq_true c_72], rfl⟩)
      refine (Decidable.em (kind = nI 4)).elim (fun c_32_4 => ?_) (fun c_32_4 => ?_)
      · refine j_eqi c_32_4 ?_
        refine lv_tableIn (tgt := 82) hx hb dX8_powerAs_32 (by decide) (by decide) rfl (by decide) ?_
        refine lv_iload hx hb dX8_powerAs_82 (lv_at hl 0 rfl) ?_
        refine lv_iload hx hb dX8_powerAs_84 (lv_at hl 6 rfl) ?_
        refine lv_bipush (v := nI 9) hx hb dX8_powerAs_86 (by decide) ?_
        refine lv_icmp_le (tgt := 96) hx hb dX8_powerAs_88 (by decide) (fun c_88 => ?_) (fun c_88 => ?_)
        · refine lv_iload hx hb dX8_powerAs_96 (lv_at hl 6 rfl) ?_
          refine lv_iadd hx hb dX8_powerAs_98 ?_
          exact j_iret hC hB dX8_powerAs_99 (⟨by simp [pwF, oddB, eq_true c_4, eq_true c_20, c_32_1, c_32_2, c_32_3, eq_true c_32_4, c_88], rfl⟩)
        · refine lv_bipush (v := nI 9) hx hb dX8_powerAs_91 (by decide) ?_
          refine lv_goto (tgt := 98) hx hb dX8_powerAs_93 (by decide) ?_
          refine lv_iadd hx hb dX8_powerAs_98 ?_
          exact j_iret hC hB dX8_powerAs_99 (⟨by simp [pwF, oddB, eq_true c_4, eq_true c_20, c_32_1, c_32_2, c_32_3, eq_true c_32_4, c_88], rfl⟩)
      have h_32 := jtsw_1_4 c_32_1 c_32_2 c_32_3 c_32_4
      refine lv_tableOut (tgt := 100) hx hb dX8_powerAs_32 h_32 (by decide) ?_
      refine lv_iload_n hx hb dX8_powerAs_100 rfl (lv_at hl 3 rfl) ?_
      exact j_iret hC hB dX8_powerAs_101 (⟨by simp [pwF, oddB, eq_true c_4, eq_true c_20, c_32_1, c_32_2, c_32_3, c_32_4], rfl⟩)

set_option maxHeartbeats 4000000 in
set_option maxRecDepth 100000 in
theorem c_X8_behind (l_ : Launch) (G : jG) (I : Nat → Nat → Int32) (J : Nat → Nat → Int64) (O : Nat → Nat → Nat) (d : Nat) (cell : Int32) (hd : d < 10) : jMi l_ G yX8_behind wsX8_behind ({ frames := 0, cells := 0, slots := 0, locals := 0 }) [.ref (G.2.2.1 (20, 0, 0)), .int (nI d), .int cell] (I, J, O) (fun r u => r = bhF (I 41) d cell ∧ u = (I, J, O)) := by
  refine jMi_of (cc := cX8_behind) (maxL := 3) (ret := (some .int)) (lv0 := [(0, .ref (G.2.2.1 (20, 0, 0))), (1, .int (nI d)), (2, .int cell)]) (by decide) rfl (Nat.le_of_ble_eq_true rfl) rfl ?_
  intro pg_ ev_ s_ mi_ below meth cd_ A ls hC hB hl
  obtain ⟨hx, hb, hr, hml, hown, hts, hlocks, hK, hA⟩ := id hC
  have lk_7 := hts (.fieldLink RX8 7 "RiddlePrisonModel" "now" "[I") (by decide +kernel)
  have in_X8 := (fun w h => List.mem_cons_of_mem _ (List.mem_append_right _ h) : ∀ w ∈ wsX80, w ∈ wsX8_behind)
  refine lv_aload_n hx hb dX8_behind_0 rfl (lv_at hl 0 rfl) ?_
  refine j_get (20, 0, 0) 0 (v := .ref (G.2.2.1 (21, 41, 0))) hC hB in_X8 lk_7 dX8_behind_1 jk20 rfl rfl (by decide) rfl ?_
  refine lv_bipush (v := nI 11) hx hb dX8_behind_4 (by decide) ?_
  refine lv_iload_n hx hb dX8_behind_6 rfl (lv_at hl 1 rfl) ?_
  refine jn_iadd hx hb dX8_behind_7 ?_
  refine j_ild 41 (11 + d) hC hB dX8_behind_8 (by decide) rfl (by simp only [lenI_41]; omega) ?_
  refine j_eqi (y := (I 41) (11 + d)) rfl ?_
  refine lv_iload_n hx hb dX8_behind_9 rfl (lv_at hl 2 rfl) ?_
  refine lv_icmp_ne (tgt := 25) hx hb dX8_behind_10 (by decide) (fun c_10 => ?_) (fun c_10 => ?_)
  · refine lv_aload_n hx hb dX8_behind_25 rfl (lv_at hl 0 rfl) ?_
    refine j_get (20, 0, 0) 0 (v := .ref (G.2.2.1 (21, 41, 0))) hC hB in_X8 lk_7 dX8_behind_26 jk20 rfl rfl (by decide) rfl ?_
    refine lv_bipush (v := nI 21) hx hb dX8_behind_29 (by decide) ?_
    refine lv_iload_n hx hb dX8_behind_31 rfl (lv_at hl 1 rfl) ?_
    refine jn_iadd hx hb dX8_behind_32 ?_
    refine j_ild 41 (21 + d) hC hB dX8_behind_33 (by decide) rfl (by simp only [lenI_41]; omega) ?_
    refine j_eqi (y := (I 41) (21 + d)) rfl ?_
    refine lv_iload_n hx hb dX8_behind_34 rfl (lv_at hl 2 rfl) ?_
    refine lv_icmp_ne (tgt := 50) hx hb dX8_behind_35 (by decide) (fun c_35 => ?_) (fun c_35 => ?_)
    · refine lv_bipush (v := (-4 : Int32)) hx hb dX8_behind_50 (by decide) ?_
      exact j_iret hC hB dX8_behind_52 (⟨by simp [bhF, c_10, c_35], rfl⟩)
    · refine lv_aload_n hx hb dX8_behind_38 rfl (lv_at hl 0 rfl) ?_
      refine j_get (20, 0, 0) 0 (v := .ref (G.2.2.1 (21, 41, 0))) hC hB in_X8 lk_7 dX8_behind_39 jk20 rfl rfl (by decide) rfl ?_
      refine lv_bipush (v := nI 11) hx hb dX8_behind_42 (by decide) ?_
      refine lv_iload_n hx hb dX8_behind_44 rfl (lv_at hl 1 rfl) ?_
      refine jn_iadd hx hb dX8_behind_45 ?_
      refine j_ild 41 (11 + d) hC hB dX8_behind_46 (by decide) rfl (by simp only [lenI_41]; omega) ?_
      refine j_eqi (y := (I 41) (11 + d)) rfl ?_
      refine lv_goto (tgt := 52) hx hb dX8_behind_47 (by decide) ?_
      exact j_iret hC hB dX8_behind_52 (⟨by simp [bhF, c_10, eq_true c_35], rfl⟩)
  · refine lv_aload_n hx hb dX8_behind_13 rfl (lv_at hl 0 rfl) ?_
    refine j_get (20, 0, 0) 0 (v := .ref (G.2.2.1 (21, 41, 0))) hC hB in_X8 lk_7 dX8_behind_14 jk20 rfl rfl (by decide) rfl ?_
    refine lv_bipush (v := nI 21) hx hb dX8_behind_17 (by decide) ?_
    refine lv_iload_n hx hb dX8_behind_19 rfl (lv_at hl 1 rfl) ?_
    refine jn_iadd hx hb dX8_behind_20 ?_
    refine j_ild 41 (21 + d) hC hB dX8_behind_21 (by decide) rfl (by simp only [lenI_41]; omega) ?_
    refine j_eqi (y := (I 41) (21 + d)) rfl ?_
    refine lv_goto (tgt := 52) hx hb dX8_behind_22 (by decide) ?_
    exact j_iret hC hB dX8_behind_52 (⟨by simp [bhF, eq_true c_10], rfl⟩)

set_option maxHeartbeats 4000000 in
set_option maxRecDepth 100000 in
theorem c_X8_powerAt (l_ : Launch) (G : jG) (I : Nat → Nat → Int32) (J : Nat → Nat → Int64) (O : Nat → Nat → Nat) (m d : Nat) (cell : Int32) (hm : m < 4) (hd : d < 10) : jMi l_ G yX8_powerAt wsX8_powerAt ({ frames := 1, cells := 0, slots := 0, locals := 27 }) [.ref (G.2.2.1 (20, 0, 0)), .int (nI m), .int (nI d), .int cell] (I, J, O) (fun r u => r = paF (I 41) m d cell ∧ u = (I, J, O)) := by
  refine jMi_of (cc := cX8_powerAt) (maxL := 4) (ret := (some .int)) (lv0 := [(0, .ref (G.2.2.1 (20, 0, 0))), (1, .int (nI m)), (2, .int (nI d)), (3, .int cell)]) (by decide) rfl (Nat.le_of_ble_eq_true rfl) rfl ?_
  intro pg_ ev_ s_ mi_ below meth cd_ A ls hC hB hl
  obtain ⟨hx, hb, hr, hml, hown, hts, hlocks, hK, hA⟩ := id hC
  have lk_7 := hts (.fieldLink RX8 7 "RiddlePrisonModel" "now" "[I") (by decide +kernel)
  have in_X8 := (fun w h => List.mem_cons_of_mem _ (List.mem_append_right _ h) : ∀ w ∈ wsX80, w ∈ wsX8_powerAt)
  refine lv_aload_n hx hb dX8_powerAt_0 rfl (lv_at hl 0 rfl) ?_
  refine j_get (20, 0, 0) 0 (v := .ref (G.2.2.1 (21, 41, 0))) hC hB in_X8 lk_7 dX8_powerAt_1 jk20 rfl rfl (by decide) rfl ?_
  refine lv_iconst (v := nI 3) hx hb dX8_powerAt_4 (by decide) ?_
  refine lv_iload_n hx hb dX8_powerAt_5 rfl (lv_at hl 1 rfl) ?_
  refine jn_iadd hx hb dX8_powerAt_6 ?_
  refine j_ild 41 (3 + m) hC hB dX8_powerAt_7 (by decide) rfl (by simp only [lenI_41]; omega) ?_
  refine j_eqi (y := (I 41) (3 + m)) rfl ?_
  refine lv_aload_n hx hb dX8_powerAt_8 rfl (lv_at hl 0 rfl) ?_
  refine j_get (20, 0, 0) 0 (v := .ref (G.2.2.1 (21, 41, 0))) hC hB in_X8 lk_7 dX8_powerAt_9 jk20 rfl rfl (by decide) rfl ?_
  refine lv_bipush (v := nI 63) hx hb dX8_powerAt_12 (by decide) ?_
  refine lv_iload_n hx hb dX8_powerAt_14 rfl (lv_at hl 1 rfl) ?_
  refine jn_iadd hx hb dX8_powerAt_15 ?_
  refine j_ild 41 (63 + m) hC hB dX8_powerAt_16 (by decide) rfl (by simp only [lenI_41]; omega) ?_
  refine j_eqi (y := (I 41) (63 + m)) rfl ?_
  refine lv_aload_n hx hb dX8_powerAt_17 rfl (lv_at hl 0 rfl) ?_
  refine j_get (20, 0, 0) 0 (v := .ref (G.2.2.1 (21, 41, 0))) hC hB in_X8 lk_7 dX8_powerAt_18 jk20 rfl rfl (by decide) rfl ?_
  refine lv_bipush (v := nI 7) hx hb dX8_powerAt_21 (by decide) ?_
  refine lv_iload_n hx hb dX8_powerAt_23 rfl (lv_at hl 1 rfl) ?_
  refine jn_iadd hx hb dX8_powerAt_24 ?_
  refine j_ild 41 (7 + m) hC hB dX8_powerAt_25 (by decide) rfl (by simp only [lenI_41]; omega) ?_
  refine j_eqi (y := (I 41) (7 + m)) rfl ?_
  refine lv_iload_n hx hb dX8_powerAt_26 rfl (lv_at hl 3 rfl) ?_
  refine lv_aload_n hx hb dX8_powerAt_27 rfl (lv_at hl 0 rfl) ?_
  refine j_get (20, 0, 0) 0 (v := .ref (G.2.2.1 (21, 41, 0))) hC hB in_X8 lk_7 dX8_powerAt_28 jk20 rfl rfl (by decide) rfl ?_
  refine lv_bipush (v := nI 59) hx hb dX8_powerAt_31 (by decide) ?_
  refine lv_iload_n hx hb dX8_powerAt_33 rfl (lv_at hl 1 rfl) ?_
  refine jn_iadd hx hb dX8_powerAt_34 ?_
  refine j_ild 41 (59 + m) hC hB dX8_powerAt_35 (by decide) rfl (by simp only [lenI_41]; omega) ?_
  refine j_eqi (y := (I 41) (59 + m)) rfl ?_
  refine lv_aload_n hx hb dX8_powerAt_36 rfl (lv_at hl 0 rfl) ?_
  refine j_get (20, 0, 0) 0 (v := .ref (G.2.2.1 (21, 41, 0))) hC hB in_X8 lk_7 dX8_powerAt_37 jk20 rfl rfl (by decide) rfl ?_
  refine lv_bipush (v := nI 31) hx hb dX8_powerAt_40 (by decide) ?_
  refine lv_iload_n hx hb dX8_powerAt_42 rfl (lv_at hl 2 rfl) ?_
  refine jn_iadd hx hb dX8_powerAt_43 ?_
  refine j_ild 41 (31 + d) hC hB dX8_powerAt_44 (by decide) rfl (by simp only [lenI_41]; omega) ?_
  refine j_eqi (y := (I 41) (31 + d)) rfl ?_
  refine j_csi [.int ((I 41) (3 + m)), .int ((I 41) (63 + m)), .int ((I 41) (7 + m)), .int cell, .int ((I 41) (59 + m)), .int ((I 41) (31 + d))] hC hB hl.1 (c_X8_powerAs l_ G I J O ((I 41) (3 + m)) ((I 41) (63 + m)) ((I 41) (7 + m)) cell ((I 41) (59 + m)) ((I 41) (31 + d))) (va_cwS 6 hts gX8_powerAt_X8_powerAs rfl rfl rfl (by decide +kernel) ⟨by decide, by decide⟩) dX8_powerAt_45 rfl rfl (Nat.le_of_ble_eq_true rfl) (fun r_45 u_45 H locs hp_45 hB => ?_)
  obtain ⟨rfl, rfl⟩ := hp_45
  exact j_iret hC hB dX8_powerAt_48 (⟨rfl, rfl⟩)

set_option maxHeartbeats 4000000 in
set_option maxRecDepth 100000 in
theorem c_X8_passes (l_ : Launch) (G : jG) (I : Nat → Nat → Int32) (J : Nat → Nat → Int64) (O : Nat → Nat → Nat) (m d : Nat) (cell : Int32) (hm : m < 4) (hd : d < 10) : jMi l_ G yX8_passes wsX8_passes ({ frames := 2, cells := 0, slots := 0, locals := 50 }) [.ref (G.2.2.1 (20, 0, 0)), .int (nI m), .int (nI d), .int cell] (I, J, O) (fun r u => r = b2 (psB (I 41) m d cell) ∧ u = (I, J, O)) := by
  refine jMi_of (cc := cX8_passes) (maxL := 4) (ret := (some .boolean)) (lv0 := [(0, .ref (G.2.2.1 (20, 0, 0))), (1, .int (nI m)), (2, .int (nI d)), (3, .int cell)]) (by decide) rfl (Nat.le_of_ble_eq_true rfl) rfl ?_
  intro pg_ ev_ s_ mi_ below meth cd_ A ls hC hB hl
  obtain ⟨hx, hb, hr, hml, hown, hts, hlocks, hK, hA⟩ := id hC
  have lk_7 := hts (.fieldLink RX8 7 "RiddlePrisonModel" "now" "[I") (by decide +kernel)
  have in_X8 := (fun w h => List.mem_cons_of_mem _ (List.mem_append_right _ h) : ∀ w ∈ wsX80, w ∈ wsX8_passes)
  refine lv_aload_n hx hb dX8_passes_0 rfl (lv_at hl 0 rfl) ?_
  refine lv_iload_n hx hb dX8_passes_1 rfl (lv_at hl 2 rfl) ?_
  refine lv_iload_n hx hb dX8_passes_2 rfl (lv_at hl 3 rfl) ?_
  refine j_cvi (20, 0, 0) [.int (nI d), .int cell] hC hB hl.1 (c_X8_behind l_ G I J O d cell (by omega)) (cwV 2 hts gX8_passes_X8_behind rfl rfl rfl (by decide +kernel) ⟨by decide, by decide⟩) dX8_passes_3 jk20 rfl rfl rfl rfl (Nat.le_of_ble_eq_true rfl) (fun r_3 u_3 H locs hp_3 hB => ?_)
  obtain ⟨rfl, rfl⟩ := hp_3
  refine lv_bipush (v := (-4 : Int32)) hx hb dX8_passes_6 (by decide) ?_
  refine lv_icmp_eq (tgt := 50) hx hb dX8_passes_8 (by decide) (fun c_8 => ?_) (fun c_8 => ?_)
  · refine lv_iconst (v := nI 0) hx hb dX8_passes_50 (by decide) ?_
    exact j_zret hC hB dX8_passes_51 (by decide) (⟨by simp [psB, b2, eq_true c_8], rfl⟩)
  · refine lv_aload_n hx hb dX8_passes_11 rfl (lv_at hl 0 rfl) ?_
    refine j_get (20, 0, 0) 0 (v := .ref (G.2.2.1 (21, 41, 0))) hC hB in_X8 lk_7 dX8_passes_12 jk20 rfl rfl (by decide) rfl ?_
    refine lv_bipush (v := nI 55) hx hb dX8_passes_15 (by decide) ?_
    refine lv_iload_n hx hb dX8_passes_17 rfl (lv_at hl 1 rfl) ?_
    refine jn_iadd hx hb dX8_passes_18 ?_
    refine j_ild 41 (55 + m) hC hB dX8_passes_19 (by decide) rfl (by simp only [lenI_41]; omega) ?_
    refine j_eqi (y := (I 41) (55 + m)) rfl ?_
    refine lv_iload_n hx hb dX8_passes_20 rfl (lv_at hl 2 rfl) ?_
    refine j_csi [.int ((I 41) (55 + m)), .int (nI d)] hC hB hl.1 (c_X8_has l_ G I J O ((I 41) (55 + m)) d) (va_cwS 2 hts gX8_passes_X8_has rfl rfl rfl (by decide +kernel) ⟨by decide, by decide⟩) dX8_passes_21 rfl rfl (Nat.le_of_ble_eq_true rfl) (fun r_21 u_21 H locs hp_21 hB => ?_)
    obtain ⟨rfl, rfl⟩ := hp_21
    refine jb_if_ne (tgt := 46) hx hb dX8_passes_24 (by decide) (fun c_24 => ?_) (fun c_24 => ?_)
    · refine lv_iconst (v := nI 1) hx hb dX8_passes_46 (by decide) ?_
      refine lv_goto (tgt := 51) hx hb dX8_passes_47 (by decide) ?_
      exact j_zret hC hB dX8_passes_51 (by decide) (⟨by simp [psB, b2, c_8, c_24], rfl⟩)
    · refine lv_aload_n hx hb dX8_passes_27 rfl (lv_at hl 0 rfl) ?_
      refine lv_iload_n hx hb dX8_passes_28 rfl (lv_at hl 1 rfl) ?_
      refine lv_iload_n hx hb dX8_passes_29 rfl (lv_at hl 2 rfl) ?_
      refine lv_iload_n hx hb dX8_passes_30 rfl (lv_at hl 3 rfl) ?_
      refine j_cvi (20, 0, 0) [.int (nI m), .int (nI d), .int cell] hC hB hl.1 (c_X8_powerAt l_ G I J O m d cell (by omega) (by omega)) (cwV 3 hts gX8_passes_X8_powerAt rfl rfl rfl (by decide +kernel) ⟨by decide, by decide⟩) dX8_passes_31 jk20 rfl rfl rfl rfl (Nat.le_of_ble_eq_true rfl) (fun r_31 u_31 H locs hp_31 hB => ?_)
      obtain ⟨rfl, rfl⟩ := hp_31
      refine lv_aload_n hx hb dX8_passes_34 rfl (lv_at hl 0 rfl) ?_
      refine j_get (20, 0, 0) 0 (v := .ref (G.2.2.1 (21, 41, 0))) hC hB in_X8 lk_7 dX8_passes_35 jk20 rfl rfl (by decide) rfl ?_
      refine lv_bipush (v := nI 41) hx hb dX8_passes_38 (by decide) ?_
      refine lv_iload_n hx hb dX8_passes_40 rfl (lv_at hl 2 rfl) ?_
      refine jn_iadd hx hb dX8_passes_41 ?_
      refine j_ild 41 (41 + d) hC hB dX8_passes_42 (by decide) rfl (by simp only [lenI_41]; omega) ?_
      refine j_eqi (y := (I 41) (41 + d)) rfl ?_
      refine lv_icmp_lt (tgt := 50) hx hb dX8_passes_43 (by decide) (fun c_43 => ?_) (fun c_43 => ?_)
      · refine lv_iconst (v := nI 0) hx hb dX8_passes_50 (by decide) ?_
        exact j_zret hC hB dX8_passes_51 (by decide) (⟨by simp [psB, b2, c_8, c_24, c_43], rfl⟩)
      · refine lv_iconst (v := nI 1) hx hb dX8_passes_46 (by decide) ?_
        refine lv_goto (tgt := 51) hx hb dX8_passes_47 (by decide) ?_
        exact j_zret hC hB dX8_passes_51 (by decide) (⟨by simp [psB, b2, c_8, c_24, c_43], rfl⟩)

set_option maxHeartbeats 4000000 in
set_option maxRecDepth 100000 in
theorem c_X8_passableOf (l_ : Launch) (G : jG) (I : Nat → Nat → Int32) (J : Nat → Nat → Int64) (O : Nat → Nat → Nat) (m : Nat) (hm : m < 4) {nd : Nat} (hnd : nd ≤ 10) (hD : I 41 0 = nI nd) : jMi l_ G yX8_passableOf wsX8_passableOf ({ frames := 3, cells := 0, slots := 0, locals := 73 }) [.ref (G.2.2.1 (20, 0, 0)), .int (nI m)] (I, J, O) (fun r u => r = poF (I 41) m (I 41 (51 + m)) nd ∧ u = (I, J, O)) := by
  refine jMi_of (cc := cX8_passableOf) (maxL := 4) (ret := (some .int)) (lv0 := [(0, .ref (G.2.2.1 (20, 0, 0))), (1, .int (nI m))]) (by decide) rfl (Nat.le_of_ble_eq_true rfl) rfl ?_
  intro pg_ ev_ s_ mi_ below meth cd_ A ls hC hB hl
  obtain ⟨hx, hb, hr, hml, hown, hts, hlocks, hK, hA⟩ := id hC
  have lk_7 := hts (.fieldLink RX8 7 "RiddlePrisonModel" "now" "[I") (by decide +kernel)
  have in_X8 := (fun w h => List.mem_cons_of_mem _ (List.mem_append_right _ h) : ∀ w ∈ wsX80, w ∈ wsX8_passableOf)
  refine lv_iconst (v := nI 0) hx hb dX8_passableOf_0 (by decide) ?_
  refine lv_istore_n (lv' := [(2, .int (nI 0)), (0, .ref (G.2.2.1 (20, 0, 0))), (1, .int (nI m))]) hx hb dX8_passableOf_1 rfl hl (by decide) rfl (fun ls hl => ?_)
  refine lv_iconst (v := nI 0) hx hb dX8_passableOf_2 (by decide) ?_
  refine lv_istore_n (lv' := [(3, .int (nI 0)), (2, .int (nI 0)), (0, .ref (G.2.2.1 (20, 0, 0))), (1, .int (nI m))]) hx hb dX8_passableOf_3 rfl hl (by decide) rfl (fun ls hl => ?_)
  have lp_4 : ∀ (fu : Nat) (set : Int32) (d : Nat), nd - d < fu → (d ≤ nd) → (set = poF (I 41) m (I 41 (51 + m)) d) → ∀ H locs ls, jB G A s_.heap (I, J, O) H locs → lv_has ls 4 [(3, .int (nI d)), (2, .int set), (0, .ref (G.2.2.1 (20, 0, 0))), (1, .int (nI m))] → W pg_ l_ ev_ ({ frames := 3, cells := 0, slots := 0, locals := 73 }) s_ mi_ ([.ref (G.2.2.1 (20, 0, 0)), .int (nI m)]).toArray below meth cd_ H locs 0 0 (jQi G A below [.ref (G.2.2.1 (20, 0, 0)), .int (nI m)] s_ (fun r u => r = poF (I 41) m (I 41 (51 + m)) nd ∧ u = (I, J, O))) (F0 mi_ 4 ls []) := by
    intro fu
    induction fu with
    | zero => intro set d hf; exact absurd hf (Nat.not_lt_zero _)
    | succ fu ih_4 =>
      intro set d hf_4 hd hs H locs ls hB hl
      refine lv_iload_n hx hb dX8_passableOf_4 rfl (lv_at hl 0 rfl) ?_
      refine lv_aload_n hx hb dX8_passableOf_5 rfl (lv_at hl 2 rfl) ?_
      refine j_get (20, 0, 0) 0 (v := .ref (G.2.2.1 (21, 41, 0))) hC hB in_X8 lk_7 dX8_passableOf_6 jk20 rfl rfl (by decide) rfl ?_
      refine lv_iconst (v := nI 0) hx hb dX8_passableOf_9 (by decide) ?_
      refine j_ild 41 0 hC hB dX8_passableOf_10 (by decide) rfl (by simp only [lenI_41]; omega) ?_
      refine j_eqi (y := nI nd) (hD) ?_
      refine jn_icmp_ge (tgt := 48) hx hb dX8_passableOf_11 (by decide) (by omega) (by omega) (fun c_11 => ?_) (fun c_11 => ?_)
      · refine lv_iload_n hx hb dX8_passableOf_48 rfl (lv_at hl 1 rfl) ?_
        exact j_iret hC hB dX8_passableOf_49 (⟨by rw [hs, show d = nd by omega], rfl⟩)
      · refine lv_iload_n hx hb dX8_passableOf_14 rfl (lv_at hl 1 rfl) ?_
        refine lv_aload_n hx hb dX8_passableOf_15 rfl (lv_at hl 2 rfl) ?_
        refine lv_iload_n hx hb dX8_passableOf_16 rfl (lv_at hl 3 rfl) ?_
        refine lv_iload_n hx hb dX8_passableOf_17 rfl (lv_at hl 0 rfl) ?_
        refine lv_aload_n hx hb dX8_passableOf_18 rfl (lv_at hl 2 rfl) ?_
        refine j_get (20, 0, 0) 0 (v := .ref (G.2.2.1 (21, 41, 0))) hC hB in_X8 lk_7 dX8_passableOf_19 jk20 rfl rfl (by decide) rfl ?_
        refine lv_bipush (v := nI 51) hx hb dX8_passableOf_22 (by decide) ?_
        refine lv_iload_n hx hb dX8_passableOf_24 rfl (lv_at hl 3 rfl) ?_
        refine jn_iadd hx hb dX8_passableOf_25 ?_
        refine j_ild 41 (51 + m) hC hB dX8_passableOf_26 (by decide) rfl (by simp only [lenI_41]; omega) ?_
        refine j_eqi (y := (I 41) (51 + m)) rfl ?_
        refine j_cvi (20, 0, 0) [.int (nI m), .int (nI d), .int ((I 41) (51 + m))] hC hB hl.1 (c_X8_passes l_ G I J O m d ((I 41) (51 + m)) (by omega) (by omega)) (cwV 3 hts gX8_passableOf_X8_passes rfl rfl rfl (by decide +kernel) ⟨by decide, by decide⟩) dX8_passableOf_27 jk20 rfl rfl rfl rfl (Nat.le_of_ble_eq_true rfl) (fun r_27 u_27 H locs hp_27 hB => ?_)
        obtain ⟨rfl, rfl⟩ := hp_27
        refine jb_if_eq (tgt := 39) hx hb dX8_passableOf_30 (by decide) (fun c_30 => ?_) (fun c_30 => ?_)
        · refine lv_iconst (v := nI 0) hx hb dX8_passableOf_39 (by decide) ?_
          refine lv_ior hx hb dX8_passableOf_40 ?_
          refine lv_istore_n (lv' := [(2, .int (set ||| (nI 0))), (3, .int (nI d)), (0, .ref (G.2.2.1 (20, 0, 0))), (1, .int (nI m))]) hx hb dX8_passableOf_41 rfl hl (by decide) rfl (fun ls hl => ?_)
          refine lv_iinc (v := nI (d + 1)) (lv' := [(3, .int (nI (d + 1))), (2, .int (set ||| (nI 0))), (0, .ref (G.2.2.1 (20, 0, 0))), (1, .int (nI m))]) hx hb dX8_passableOf_42 hl (k := 1) rfl (jn_inc _ 1) (by decide) rfl (fun ls hl => ?_)
          refine lv_goto (tgt := 4) hx hb dX8_passableOf_45 (by decide) ?_
          exact ih_4 (set ||| (nI 0)) (d + 1) (by omega) (by omega) (by simp [poF, bitI, hs, c_30]) _ _ _ hB (lv_sub hl [0, 1, 2, 3] rfl)
        · refine lv_iconst (v := nI 1) hx hb dX8_passableOf_33 (by decide) ?_
          refine lv_iload_n hx hb dX8_passableOf_34 rfl (lv_at hl 0 rfl) ?_
          refine lv_ishl hx hb dX8_passableOf_35 ?_
          refine lv_goto (tgt := 40) hx hb dX8_passableOf_36 (by decide) ?_
          refine lv_ior hx hb dX8_passableOf_40 ?_
          refine lv_istore_n (lv' := [(2, .int (set ||| ((nI 1) <<< ((nI d) &&& 31)))), (3, .int (nI d)), (0, .ref (G.2.2.1 (20, 0, 0))), (1, .int (nI m))]) hx hb dX8_passableOf_41 rfl hl (by decide) rfl (fun ls hl => ?_)
          refine lv_iinc (v := nI (d + 1)) (lv' := [(3, .int (nI (d + 1))), (2, .int (set ||| ((nI 1) <<< ((nI d) &&& 31)))), (0, .ref (G.2.2.1 (20, 0, 0))), (1, .int (nI m))]) hx hb dX8_passableOf_42 hl (k := 1) rfl (jn_inc _ 1) (by decide) rfl (fun ls hl => ?_)
          refine lv_goto (tgt := 4) hx hb dX8_passableOf_45 (by decide) ?_
          exact ih_4 (set ||| ((nI 1) <<< ((nI d) &&& 31))) (d + 1) (by omega) (by omega) (by simp [poF, bitI, hs, c_30]) _ _ _ hB (lv_sub hl [0, 1, 2, 3] rfl)
  exact lp_4 _ (nI 0) 0 (Nat.lt_succ_self _) (by omega) (rfl) _ _ _ hB (lv_sub hl [0, 1, 2, 3] rfl)

set_option maxHeartbeats 4000000 in
set_option maxRecDepth 100000 in
theorem c_X8_failedAll (l_ : Launch) (G : jG) (I : Nat → Nat → Int32) (J : Nat → Nat → Int64) (O : Nat → Nat → Nat) {nm : Nat} (hnm : nm ≤ 4) (hM : I 41 1 = nI nm) : jMi l_ G yX8_failedAll wsX8_failedAll ({ frames := 0, cells := 0, slots := 0, locals := 0 }) [.ref (G.2.2.1 (20, 0, 0))] (I, J, O) (fun r u => r = fsF (I 41) nm ∧ u = (I, J, O)) := by
  refine jMi_of (cc := cX8_failedAll) (maxL := 3) (ret := (some .int)) (lv0 := [(0, .ref (G.2.2.1 (20, 0, 0)))]) (by decide) rfl (Nat.le_of_ble_eq_true rfl) rfl ?_
  intro pg_ ev_ s_ mi_ below meth cd_ A ls hC hB hl
  obtain ⟨hx, hb, hr, hml, hown, hts, hlocks, hK, hA⟩ := id hC
  have lk_7 := hts (.fieldLink RX8 7 "RiddlePrisonModel" "now" "[I") (by decide +kernel)
  have in_X8 := (fun w h => List.mem_cons_of_mem _ (List.mem_append_right _ h) : ∀ w ∈ wsX80, w ∈ wsX8_failedAll)
  refine lv_iconst (v := nI 0) hx hb dX8_failedAll_0 (by decide) ?_
  refine lv_istore_n (lv' := [(1, .int (nI 0)), (0, .ref (G.2.2.1 (20, 0, 0)))]) hx hb dX8_failedAll_1 rfl hl (by decide) rfl (fun ls hl => ?_)
  refine lv_iconst (v := nI 0) hx hb dX8_failedAll_2 (by decide) ?_
  refine lv_istore_n (lv' := [(2, .int (nI 0)), (1, .int (nI 0)), (0, .ref (G.2.2.1 (20, 0, 0)))]) hx hb dX8_failedAll_3 rfl hl (by decide) rfl (fun ls hl => ?_)
  have lp_4 : ∀ (fu : Nat) (set : Int32) (d : Nat), nm - d < fu → (d ≤ nm) → (set = fsF (I 41) d) → ∀ H locs ls, jB G A s_.heap (I, J, O) H locs → lv_has ls 3 [(2, .int (nI d)), (1, .int set), (0, .ref (G.2.2.1 (20, 0, 0)))] → W pg_ l_ ev_ ({ frames := 0, cells := 0, slots := 0, locals := 0 }) s_ mi_ ([.ref (G.2.2.1 (20, 0, 0))]).toArray below meth cd_ H locs 0 0 (jQi G A below [.ref (G.2.2.1 (20, 0, 0))] s_ (fun r u => r = fsF (I 41) nm ∧ u = (I, J, O))) (F0 mi_ 4 ls []) := by
    intro fu
    induction fu with
    | zero => intro set d hf; exact absurd hf (Nat.not_lt_zero _)
    | succ fu ih_4 =>
      intro set d hf_4 hd hs H locs ls hB hl
      refine lv_iload_n hx hb dX8_failedAll_4 rfl (lv_at hl 0 rfl) ?_
      refine lv_aload_n hx hb dX8_failedAll_5 rfl (lv_at hl 2 rfl) ?_
      refine j_get (20, 0, 0) 0 (v := .ref (G.2.2.1 (21, 41, 0))) hC hB in_X8 lk_7 dX8_failedAll_6 jk20 rfl rfl (by decide) rfl ?_
      refine lv_iconst (v := nI 1) hx hb dX8_failedAll_9 (by decide) ?_
      refine j_ild 41 1 hC hB dX8_failedAll_10 (by decide) rfl (by simp only [lenI_41]; omega) ?_
      refine j_eqi (y := nI nm) (hM) ?_
      refine jn_icmp_ge (tgt := 32) hx hb dX8_failedAll_11 (by decide) (by omega) (by omega) (fun c_11 => ?_) (fun c_11 => ?_)
      · refine lv_iload_n hx hb dX8_failedAll_32 rfl (lv_at hl 1 rfl) ?_
        exact j_iret hC hB dX8_failedAll_33 (⟨by rw [hs, show d = nm by omega], rfl⟩)
      · refine lv_iload_n hx hb dX8_failedAll_14 rfl (lv_at hl 1 rfl) ?_
        refine lv_aload_n hx hb dX8_failedAll_15 rfl (lv_at hl 2 rfl) ?_
        refine j_get (20, 0, 0) 0 (v := .ref (G.2.2.1 (21, 41, 0))) hC hB in_X8 lk_7 dX8_failedAll_16 jk20 rfl rfl (by decide) rfl ?_
        refine lv_bipush (v := nI 59) hx hb dX8_failedAll_19 (by decide) ?_
        refine lv_iload_n hx hb dX8_failedAll_21 rfl (lv_at hl 0 rfl) ?_
        refine jn_iadd hx hb dX8_failedAll_22 ?_
        refine j_ild 41 (59 + d) hC hB dX8_failedAll_23 (by decide) rfl (by simp only [lenI_41]; omega) ?_
        refine j_eqi (y := (I 41) (59 + d)) rfl ?_
        refine lv_iadd hx hb dX8_failedAll_24 ?_
        refine lv_istore_n (lv' := [(1, .int (set + ((I 41) (59 + d)))), (2, .int (nI d)), (0, .ref (G.2.2.1 (20, 0, 0)))]) hx hb dX8_failedAll_25 rfl hl (by decide) rfl (fun ls hl => ?_)
        refine lv_iinc (v := nI (d + 1)) (lv' := [(2, .int (nI (d + 1))), (1, .int (set + ((I 41) (59 + d)))), (0, .ref (G.2.2.1 (20, 0, 0)))]) hx hb dX8_failedAll_26 hl (k := 1) rfl (jn_inc _ 1) (by decide) rfl (fun ls hl => ?_)
        refine lv_goto (tgt := 4) hx hb dX8_failedAll_29 (by decide) ?_
        exact ih_4 (set + ((I 41) (59 + d))) (d + 1) (by omega) (by omega) (by rw [hs]; rfl) _ _ _ hB (lv_sub hl [0, 1, 2] rfl)
  exact lp_4 _ (nI 0) 0 (Nat.lt_succ_self _) (by omega) (rfl) _ _ _ hB (lv_sub hl [0, 1, 2] rfl)

set_option maxHeartbeats 4000000 in
set_option maxRecDepth 100000 in
theorem c_X8_of (l_ : Launch) (G : jG) (I : Nat → Nat → Int32) (J : Nat → Nat → Int64) (O : Nat → Nat → Nat) (door what : Int32) {nd : Nat} (hnd : nd ≤ 10) (hD : I 41 0 = nI nd) {nm : Nat} (hnm : nm ≤ 4) (hM : I 41 1 = nI nm) : jMi l_ G yX8_of wsX8_of ({ frames := 3, cells := 0, slots := 0, locals := 73 }) [.ref (G.2.2.1 (20, 0, 0)), .int door, .int what] (I, J, O) (fun r u => r = ofF (I 41) nd nm door what ∧ u = (I, J, O)) := by
  refine jMi_of (cc := cX8_of) (maxL := 6) (ret := (some .int)) (lv0 := [(0, .ref (G.2.2.1 (20, 0, 0))), (1, .int door), (2, .int what)]) (by decide) rfl (Nat.le_of_ble_eq_true rfl) rfl ?_
  intro pg_ ev_ s_ mi_ below meth cd_ A ls hC hB hl
  obtain ⟨hx, hb, hr, hml, hown, hts, hlocks, hK, hA⟩ := id hC
  have lk_7 := hts (.fieldLink RX8 7 "RiddlePrisonModel" "now" "[I") (by decide +kernel)
  have in_X8 := (fun w h => List.mem_cons_of_mem _ (List.mem_append_right _ h) : ∀ w ∈ wsX80, w ∈ wsX8_of)
  refine lv_aload_n hx hb dX8_of_0 rfl (lv_at hl 0 rfl) ?_
  refine lv_iload_n hx hb dX8_of_1 rfl (lv_at hl 1 rfl) ?_
  refine j_cvi (20, 0, 0) [.int door] hC hB hl.1 (c_X8_isDoor l_ G I J O door (by omega) (hD)) (cwV 1 hts gX8_of_X8_isDoor rfl rfl rfl (by decide +kernel) ⟨by decide, by decide⟩) dX8_of_2 jk20 rfl rfl rfl rfl (Nat.le_of_ble_eq_true rfl) (fun r_2 u_2 H locs hp_2 hB => ?_)
  obtain ⟨rfl, rfl⟩ := hp_2
  refine jb_if_eq (tgt := 20) hx hb dX8_of_5 (by decide) (fun c_5 => ?_) (fun c_5 => ?_)
  · refine lv_iconst (v := (-1 : Int32)) hx hb dX8_of_20 (by decide) ?_
    exact j_iret hC hB dX8_of_21 (⟨by simp [ofF, c_5], rfl⟩)
  · obtain ⟨dd, hdd, rfl⟩ := isB_nat c_5 (by omega)
    refine lv_iload_n hx hb dX8_of_8 rfl (lv_at hl 2 rfl) ?_
    refine lv_i2l (v := what.toInt64) hx hb dX8_of_9 rfl ?_
    refine lv_lconst (v := 0) hx hb dX8_of_10 rfl ?_
    refine lv_ldc2 (v := 5) hx hb hown (hts (.constantLong RX8 113 (5)) (by decide +kernel)) dX8_of_11 ?_
    refine j_csi [.long what.toInt64, .long ((0 : Int64)), .long ((5 : Int64))] hC hB hl.1 (c_X8_in l_ G I J O what.toInt64 ((0 : Int64)) ((5 : Int64))) (va_cwS 3 hts gX8_of_X8_in rfl rfl rfl (by decide +kernel) ⟨by decide, by decide⟩) dX8_of_14 rfl rfl (Nat.le_of_ble_eq_true rfl) (fun r_14 u_14 H locs hp_14 hB => ?_)
    obtain ⟨rfl, rfl⟩ := hp_14
    refine j_eqi (y := b2 (isB what 6)) (by rw [inR_isB (n := 6) (by decide)]) ?_
    refine jb_if_ne (tgt := 22) hx hb dX8_of_17 (by decide) (fun c_17 => ?_) (fun c_17 => ?_)
    · obtain ⟨ww, hww, rfl⟩ := isB_nat c_17 (by omega)
      refine lv_iconst (v := nI 0) hx hb dX8_of_22 (by decide) ?_
      refine lv_istore_n (lv' := [(3, .int (nI 0)), (0, .ref (G.2.2.1 (20, 0, 0))), (1, .int (nI dd)), (2, .int (nI ww))]) hx hb dX8_of_23 rfl hl (by decide) rfl (fun ls hl => ?_)
      refine lv_iconst (v := nI 0) hx hb dX8_of_24 (by decide) ?_
      refine lv_istore (lv' := [(4, .int (nI 0)), (3, .int (nI 0)), (0, .ref (G.2.2.1 (20, 0, 0))), (1, .int (nI dd)), (2, .int (nI ww))]) hx hb dX8_of_25 hl (by decide) rfl (fun ls hl => ?_)
      have lp_27 : ∀ (fu : Nat) (set : Int32) (m : Nat), nm - m < fu → (m ≤ nm) → (set = if ww = 4 then knF (I 41) dd m else pmF (I 41) dd m) → ∀ H locs ls, jB G A s_.heap (I, J, O) H locs → lv_has ls 6 [(4, .int (nI m)), (3, .int set), (0, .ref (G.2.2.1 (20, 0, 0))), (1, .int (nI dd)), (2, .int (nI ww))] → W pg_ l_ ev_ ({ frames := 3, cells := 0, slots := 0, locals := 73 }) s_ mi_ ([.ref (G.2.2.1 (20, 0, 0)), .int (nI dd), .int (nI ww)]).toArray below meth cd_ H locs 0 0 (jQi G A below [.ref (G.2.2.1 (20, 0, 0)), .int (nI dd), .int (nI ww)] s_ (fun r u => r = ofF (I 41) nd nm (nI dd) (nI ww) ∧ u = (I, J, O))) (F0 mi_ 27 ls []) := by
        intro fu
        induction fu with
        | zero => intro set m hf; exact absurd hf (Nat.not_lt_zero _)
        | succ fu ih_27 =>
          intro set m hf_27 hm hs H locs ls hB hl
          refine lv_iload hx hb dX8_of_27 (lv_at hl 0 rfl) ?_
          refine lv_aload_n hx hb dX8_of_29 rfl (lv_at hl 2 rfl) ?_
          refine j_get (20, 0, 0) 0 (v := .ref (G.2.2.1 (21, 41, 0))) hC hB in_X8 lk_7 dX8_of_30 jk20 rfl rfl (by decide) rfl ?_
          refine lv_iconst (v := nI 1) hx hb dX8_of_33 (by decide) ?_
          refine j_ild 41 1 hC hB dX8_of_34 (by decide) rfl (by simp only [lenI_41]; omega) ?_
          refine j_eqi (y := nI nm) (hM) ?_
          refine jn_icmp_ge (tgt := 101) hx hb dX8_of_35 (by decide) (by omega) (by omega) (fun c_35 => ?_) (fun c_35 => ?_)
          · refine lv_iload_n hx hb dX8_of_101 rfl (lv_at hl 4 rfl) ?_
            refine lv_iconst (v := nI 3) hx hb dX8_of_102 (by decide) ?_
            refine jn_icmp_le (tgt := 110) hx hb dX8_of_103 (by decide) (by omega) (by omega) (fun c_103 => ?_) (fun c_103 => ?_)
            · refine lv_aload_n hx hb dX8_of_110 rfl (lv_at hl 2 rfl) ?_
              refine j_get (20, 0, 0) 0 (v := .ref (G.2.2.1 (21, 41, 0))) hC hB in_X8 lk_7 dX8_of_111 jk20 rfl rfl (by decide) rfl ?_
              refine lv_iload_n hx hb dX8_of_114 rfl (lv_at hl 4 rfl) ?_
              refine jn_if_ne (tgt := 123) hx hb dX8_of_115 (by decide) (by omega) (fun c_115 => ?_) (fun c_115 => ?_)
              · refine lv_iload_n hx hb dX8_of_123 rfl (lv_at hl 4 rfl) ?_
                refine lv_iconst (v := nI 1) hx hb dX8_of_124 (by decide) ?_
                refine jn_icmp_ne (tgt := 133) hx hb dX8_of_125 (by decide) (by omega) (by omega) (fun c_125 => ?_) (fun c_125 => ?_)
                · refine lv_iload_n hx hb dX8_of_133 rfl (lv_at hl 4 rfl) ?_
                  refine lv_iconst (v := nI 2) hx hb dX8_of_134 (by decide) ?_
                  refine jn_icmp_ne (tgt := 143) hx hb dX8_of_135 (by decide) (by omega) (by omega) (fun c_135 => ?_) (fun c_135 => ?_)
                  · refine lv_bipush (v := nI 41) hx hb dX8_of_143 (by decide) ?_
                    refine lv_iload_n hx hb dX8_of_145 rfl (lv_at hl 3 rfl) ?_
                    refine jn_iadd hx hb dX8_of_146 ?_
                    refine j_ild 41 (41 + dd) hC hB dX8_of_147 (by decide) rfl (by simp only [lenI_41]; omega) ?_
                    refine j_eqi (y := (I 41) (41 + dd)) rfl ?_
                    exact j_iret hC hB dX8_of_148 (⟨by rcases (show ww = 0 ∨ ww = 1 ∨ ww = 2 ∨ ww = 3 ∨ ww = 4 ∨ ww = 5 by omega) with rfl | rfl | rfl | rfl | rfl | rfl <;> first | omega | simp [ofF, c_5, hs, nIn, nIc (show dd < 2147483648 by omega), show m = nm by omega], rfl⟩)
                  · refine lv_bipush (v := nI 31) hx hb dX8_of_138 (by decide) ?_
                    refine lv_goto (tgt := 145) hx hb dX8_of_140 (by decide) ?_
                    refine lv_iload_n hx hb dX8_of_145 rfl (lv_at hl 3 rfl) ?_
                    refine jn_iadd hx hb dX8_of_146 ?_
                    refine j_ild 41 (31 + dd) hC hB dX8_of_147 (by decide) rfl (by simp only [lenI_41]; omega) ?_
                    refine j_eqi (y := (I 41) (31 + dd)) rfl ?_
                    exact j_iret hC hB dX8_of_148 (⟨by rcases (show ww = 0 ∨ ww = 1 ∨ ww = 2 ∨ ww = 3 ∨ ww = 4 ∨ ww = 5 by omega) with rfl | rfl | rfl | rfl | rfl | rfl <;> first | omega | simp [ofF, c_5, hs, nIn, nIc (show dd < 2147483648 by omega), show m = nm by omega], rfl⟩)
                · refine lv_bipush (v := nI 21) hx hb dX8_of_128 (by decide) ?_
                  refine lv_goto (tgt := 145) hx hb dX8_of_130 (by decide) ?_
                  refine lv_iload_n hx hb dX8_of_145 rfl (lv_at hl 3 rfl) ?_
                  refine jn_iadd hx hb dX8_of_146 ?_
                  refine j_ild 41 (21 + dd) hC hB dX8_of_147 (by decide) rfl (by simp only [lenI_41]; omega) ?_
                  refine j_eqi (y := (I 41) (21 + dd)) rfl ?_
                  exact j_iret hC hB dX8_of_148 (⟨by rcases (show ww = 0 ∨ ww = 1 ∨ ww = 2 ∨ ww = 3 ∨ ww = 4 ∨ ww = 5 by omega) with rfl | rfl | rfl | rfl | rfl | rfl <;> first | omega | simp [ofF, c_5, hs, nIn, nIc (show dd < 2147483648 by omega), show m = nm by omega], rfl⟩)
              · refine lv_bipush (v := nI 11) hx hb dX8_of_118 (by decide) ?_
                refine lv_goto (tgt := 145) hx hb dX8_of_120 (by decide) ?_
                refine lv_iload_n hx hb dX8_of_145 rfl (lv_at hl 3 rfl) ?_
                refine jn_iadd hx hb dX8_of_146 ?_
                refine j_ild 41 (11 + dd) hC hB dX8_of_147 (by decide) rfl (by simp only [lenI_41]; omega) ?_
                refine j_eqi (y := (I 41) (11 + dd)) rfl ?_
                exact j_iret hC hB dX8_of_148 (⟨by rcases (show ww = 0 ∨ ww = 1 ∨ ww = 2 ∨ ww = 3 ∨ ww = 4 ∨ ww = 5 by omega) with rfl | rfl | rfl | rfl | rfl | rfl <;> first | omega | simp [ofF, c_5, hs, nIn, nIc (show dd < 2147483648 by omega), show m = nm by omega], rfl⟩)
            · refine lv_iload_n hx hb dX8_of_106 rfl (lv_at hl 1 rfl) ?_
              refine lv_goto (tgt := 148) hx hb dX8_of_107 (by decide) ?_
              exact j_iret hC hB dX8_of_148 (⟨by rcases (show ww = 0 ∨ ww = 1 ∨ ww = 2 ∨ ww = 3 ∨ ww = 4 ∨ ww = 5 by omega) with rfl | rfl | rfl | rfl | rfl | rfl <;> first | omega | simp [ofF, c_5, hs, nIn, nIc (show dd < 2147483648 by omega), show m = nm by omega], rfl⟩)
          · refine lv_iload_n hx hb dX8_of_38 rfl (lv_at hl 4 rfl) ?_
            refine lv_iconst (v := nI 4) hx hb dX8_of_39 (by decide) ?_
            refine jn_icmp_ne (tgt := 60) hx hb dX8_of_40 (by decide) (by omega) (by omega) (fun c_40 => ?_) (fun c_40 => ?_)
            · refine lv_aload_n hx hb dX8_of_60 rfl (lv_at hl 2 rfl) ?_
              refine lv_iload hx hb dX8_of_61 (lv_at hl 0 rfl) ?_
              refine lv_iload_n hx hb dX8_of_63 rfl (lv_at hl 3 rfl) ?_
              refine lv_aload_n hx hb dX8_of_64 rfl (lv_at hl 2 rfl) ?_
              refine j_get (20, 0, 0) 0 (v := .ref (G.2.2.1 (21, 41, 0))) hC hB in_X8 lk_7 dX8_of_65 jk20 rfl rfl (by decide) rfl ?_
              refine lv_bipush (v := nI 51) hx hb dX8_of_68 (by decide) ?_
              refine lv_iload hx hb dX8_of_70 (lv_at hl 0 rfl) ?_
              refine jn_iadd hx hb dX8_of_72 ?_
              refine j_ild 41 (51 + m) hC hB dX8_of_73 (by decide) rfl (by simp only [lenI_41]; omega) ?_
              refine j_eqi (y := (I 41) (51 + m)) rfl ?_
              refine j_cvi (20, 0, 0) [.int (nI m), .int (nI dd), .int ((I 41) (51 + m))] hC hB hl.1 (c_X8_passes l_ G I J O m dd ((I 41) (51 + m)) (by omega) (by omega)) (cwV 3 hts gX8_of_X8_passes rfl rfl rfl (by decide +kernel) ⟨by decide, by decide⟩) dX8_of_74 jk20 rfl rfl rfl rfl (Nat.le_of_ble_eq_true rfl) (fun r_74 u_74 H locs hp_74 hB => ?_)
              obtain ⟨rfl, rfl⟩ := hp_74
              refine lv_istore (lv' := [(5, .int (b2 (psB (I 41) m dd ((I 41) (51 + m))))), (4, .int (nI m)), (3, .int set), (0, .ref (G.2.2.1 (20, 0, 0))), (1, .int (nI dd)), (2, .int (nI ww))]) hx hb dX8_of_77 hl (by decide) rfl (fun ls hl => ?_)
              refine lv_iload_n hx hb dX8_of_79 rfl (lv_at hl 2 rfl) ?_
              refine lv_iload hx hb dX8_of_80 (lv_at hl 0 rfl) ?_
              refine jb_if_eq (tgt := 92) hx hb dX8_of_82 (by decide) (fun c_82 => ?_) (fun c_82 => ?_)
              · refine lv_iconst (v := nI 0) hx hb dX8_of_92 (by decide) ?_
                refine lv_ior hx hb dX8_of_93 ?_
                refine lv_istore_n (lv' := [(3, .int (set ||| (nI 0))), (5, .int (b2 (psB (I 41) m dd ((I 41) (51 + m))))), (4, .int (nI m)), (0, .ref (G.2.2.1 (20, 0, 0))), (1, .int (nI dd)), (2, .int (nI ww))]) hx hb dX8_of_94 rfl hl (by decide) rfl (fun ls hl => ?_)
                refine lv_iinc (v := nI (m + 1)) (lv' := [(4, .int (nI (m + 1))), (3, .int (set ||| (nI 0))), (5, .int (b2 (psB (I 41) m dd ((I 41) (51 + m))))), (0, .ref (G.2.2.1 (20, 0, 0))), (1, .int (nI dd)), (2, .int (nI ww))]) hx hb dX8_of_95 hl (k := 2) rfl (jn_inc _ 1) (by decide) rfl (fun ls hl => ?_)
                refine lv_goto (tgt := 27) hx hb dX8_of_98 (by decide) ?_
                exact ih_27 (set ||| (nI 0)) (m + 1) (by omega) (by omega) (by simp [hs, knF, pmF, bitI, c_40, c_82]) _ _ _ hB (lv_sub hl [0, 1, 3, 4, 5] rfl)
              · refine lv_iconst (v := nI 1) hx hb dX8_of_85 (by decide) ?_
                refine lv_iload hx hb dX8_of_86 (lv_at hl 1 rfl) ?_
                refine lv_ishl hx hb dX8_of_88 ?_
                refine lv_goto (tgt := 93) hx hb dX8_of_89 (by decide) ?_
                refine lv_ior hx hb dX8_of_93 ?_
                refine lv_istore_n (lv' := [(3, .int (set ||| ((nI 1) <<< ((nI m) &&& 31)))), (5, .int (b2 (psB (I 41) m dd ((I 41) (51 + m))))), (4, .int (nI m)), (0, .ref (G.2.2.1 (20, 0, 0))), (1, .int (nI dd)), (2, .int (nI ww))]) hx hb dX8_of_94 rfl hl (by decide) rfl (fun ls hl => ?_)
                refine lv_iinc (v := nI (m + 1)) (lv' := [(4, .int (nI (m + 1))), (3, .int (set ||| ((nI 1) <<< ((nI m) &&& 31)))), (5, .int (b2 (psB (I 41) m dd ((I 41) (51 + m))))), (0, .ref (G.2.2.1 (20, 0, 0))), (1, .int (nI dd)), (2, .int (nI ww))]) hx hb dX8_of_95 hl (k := 2) rfl (jn_inc _ 1) (by decide) rfl (fun ls hl => ?_)
                refine lv_goto (tgt := 27) hx hb dX8_of_98 (by decide) ?_
                exact ih_27 (set ||| ((nI 1) <<< ((nI m) &&& 31))) (m + 1) (by omega) (by omega) (by simp [hs, knF, pmF, bitI, c_40, c_82]) _ _ _ hB (lv_sub hl [0, 1, 3, 4, 5] rfl)
            · refine lv_aload_n hx hb dX8_of_43 rfl (lv_at hl 2 rfl) ?_
              refine j_get (20, 0, 0) 0 (v := .ref (G.2.2.1 (21, 41, 0))) hC hB in_X8 lk_7 dX8_of_44 jk20 rfl rfl (by decide) rfl ?_
              refine lv_bipush (v := nI 55) hx hb dX8_of_47 (by decide) ?_
              refine lv_iload hx hb dX8_of_49 (lv_at hl 0 rfl) ?_
              refine jn_iadd hx hb dX8_of_51 ?_
              refine j_ild 41 (55 + m) hC hB dX8_of_52 (by decide) rfl (by simp only [lenI_41]; omega) ?_
              refine j_eqi (y := (I 41) (55 + m)) rfl ?_
              refine lv_iload_n hx hb dX8_of_53 rfl (lv_at hl 3 rfl) ?_
              refine j_csi [.int ((I 41) (55 + m)), .int (nI dd)] hC hB hl.1 (c_X8_has l_ G I J O ((I 41) (55 + m)) dd) (va_cwS 2 hts gX8_of_X8_has rfl rfl rfl (by decide +kernel) ⟨by decide, by decide⟩) dX8_of_54 rfl rfl (Nat.le_of_ble_eq_true rfl) (fun r_54 u_54 H locs hp_54 hB => ?_)
              obtain ⟨rfl, rfl⟩ := hp_54
              refine lv_goto (tgt := 77) hx hb dX8_of_57 (by decide) ?_
              refine lv_istore (lv' := [(5, .int (b2 (hasB ((I 41) (55 + m)) dd))), (4, .int (nI m)), (3, .int set), (0, .ref (G.2.2.1 (20, 0, 0))), (1, .int (nI dd)), (2, .int (nI ww))]) hx hb dX8_of_77 hl (by decide) rfl (fun ls hl => ?_)
              refine lv_iload_n hx hb dX8_of_79 rfl (lv_at hl 2 rfl) ?_
              refine lv_iload hx hb dX8_of_80 (lv_at hl 0 rfl) ?_
              refine jb_if_eq (tgt := 92) hx hb dX8_of_82 (by decide) (fun c_82 => ?_) (fun c_82 => ?_)
              · refine lv_iconst (v := nI 0) hx hb dX8_of_92 (by decide) ?_
                refine lv_ior hx hb dX8_of_93 ?_
                refine lv_istore_n (lv' := [(3, .int (set ||| (nI 0))), (5, .int (b2 (hasB ((I 41) (55 + m)) dd))), (4, .int (nI m)), (0, .ref (G.2.2.1 (20, 0, 0))), (1, .int (nI dd)), (2, .int (nI ww))]) hx hb dX8_of_94 rfl hl (by decide) rfl (fun ls hl => ?_)
                refine lv_iinc (v := nI (m + 1)) (lv' := [(4, .int (nI (m + 1))), (3, .int (set ||| (nI 0))), (5, .int (b2 (hasB ((I 41) (55 + m)) dd))), (0, .ref (G.2.2.1 (20, 0, 0))), (1, .int (nI dd)), (2, .int (nI ww))]) hx hb dX8_of_95 hl (k := 2) rfl (jn_inc _ 1) (by decide) rfl (fun ls hl => ?_)
                refine lv_goto (tgt := 27) hx hb dX8_of_98 (by decide) ?_
                exact ih_27 (set ||| (nI 0)) (m + 1) (by omega) (by omega) (by simp [hs, knF, pmF, bitI, eq_true c_40, c_82]) _ _ _ hB (lv_sub hl [0, 1, 3, 4, 5] rfl)
              · refine lv_iconst (v := nI 1) hx hb dX8_of_85 (by decide) ?_
                refine lv_iload hx hb dX8_of_86 (lv_at hl 1 rfl) ?_
                refine lv_ishl hx hb dX8_of_88 ?_
                refine lv_goto (tgt := 93) hx hb dX8_of_89 (by decide) ?_
                refine lv_ior hx hb dX8_of_93 ?_
                refine lv_istore_n (lv' := [(3, .int (set ||| ((nI 1) <<< ((nI m) &&& 31)))), (5, .int (b2 (hasB ((I 41) (55 + m)) dd))), (4, .int (nI m)), (0, .ref (G.2.2.1 (20, 0, 0))), (1, .int (nI dd)), (2, .int (nI ww))]) hx hb dX8_of_94 rfl hl (by decide) rfl (fun ls hl => ?_)
                refine lv_iinc (v := nI (m + 1)) (lv' := [(4, .int (nI (m + 1))), (3, .int (set ||| ((nI 1) <<< ((nI m) &&& 31)))), (5, .int (b2 (hasB ((I 41) (55 + m)) dd))), (0, .ref (G.2.2.1 (20, 0, 0))), (1, .int (nI dd)), (2, .int (nI ww))]) hx hb dX8_of_95 hl (k := 2) rfl (jn_inc _ 1) (by decide) rfl (fun ls hl => ?_)
                refine lv_goto (tgt := 27) hx hb dX8_of_98 (by decide) ?_
                exact ih_27 (set ||| ((nI 1) <<< ((nI m) &&& 31))) (m + 1) (by omega) (by omega) (by simp [hs, knF, pmF, bitI, eq_true c_40, c_82]) _ _ _ hB (lv_sub hl [0, 1, 3, 4, 5] rfl)
      exact lp_27 _ (nI 0) 0 (Nat.lt_succ_self _) (by omega) (by simp [knF, pmF]) _ _ _ hB (lv_sub hl [0, 1, 2, 3, 4] rfl)
    · refine lv_iconst (v := (-1 : Int32)) hx hb dX8_of_20 (by decide) ?_
      exact j_iret hC hB dX8_of_21 (⟨by simp [ofF, c_5, c_17, isB_no c_17 (show 0 < 6 by decide) (by decide), isB_no c_17 (show 1 < 6 by decide) (by decide), isB_no c_17 (show 2 < 6 by decide) (by decide), isB_no c_17 (show 3 < 6 by decide) (by decide), isB_no c_17 (show 4 < 6 by decide) (by decide), isB_no c_17 (show 5 < 6 by decide) (by decide)], rfl⟩)

set_option maxHeartbeats 4000000 in
set_option maxRecDepth 100000 in
theorem c_X8_at (l_ : Launch) (G : jG) (I : Nat → Nat → Int32) (J : Nat → Nat → Int64) (O : Nat → Nat → Nat) (man what : Int32) {nd : Nat} (hnd : nd ≤ 10) (hD : I 41 0 = nI nd) {nm : Nat} (hnm : nm ≤ 4) (hM : I 41 1 = nI nm) : jMi l_ G yX8_at wsX8_at ({ frames := 4, cells := 0, slots := 0, locals := 96 }) [.ref (G.2.2.1 (20, 0, 0)), .int man, .int what] (I, J, O) (fun r u => r = atF (I 41) nd nm man what ∧ u = (I, J, O)) := by
  refine jMi_of (cc := cX8_at) (maxL := 3) (ret := (some .int)) (lv0 := [(0, .ref (G.2.2.1 (20, 0, 0))), (1, .int man), (2, .int what)]) (by decide) rfl (Nat.le_of_ble_eq_true rfl) rfl ?_
  intro pg_ ev_ s_ mi_ below meth cd_ A ls hC hB hl
  obtain ⟨hx, hb, hr, hml, hown, hts, hlocks, hK, hA⟩ := id hC
  have lk_7 := hts (.fieldLink RX8 7 "RiddlePrisonModel" "now" "[I") (by decide +kernel)
  have in_X8 := (fun w h => List.mem_cons_of_mem _ (List.mem_append_right _ h) : ∀ w ∈ wsX80, w ∈ wsX8_at)
  refine lv_aload_n hx hb dX8_at_0 rfl (lv_at hl 0 rfl) ?_
  refine lv_iload_n hx hb dX8_at_1 rfl (lv_at hl 1 rfl) ?_
  refine j_cvi (20, 0, 0) [.int man] hC hB hl.1 (c_X8_isMan l_ G I J O man (by omega) (hM)) (cwV 1 hts gX8_at_X8_isMan rfl rfl rfl (by decide +kernel) ⟨by decide, by decide⟩) dX8_at_2 jk20 rfl rfl rfl rfl (Nat.le_of_ble_eq_true rfl) (fun r_2 u_2 H locs hp_2 hB => ?_)
  obtain ⟨rfl, rfl⟩ := hp_2
  refine jb_if_eq (tgt := 20) hx hb dX8_at_5 (by decide) (fun c_5 => ?_) (fun c_5 => ?_)
  · refine lv_iconst (v := (-1 : Int32)) hx hb dX8_at_20 (by decide) ?_
    exact j_iret hC hB dX8_at_21 (⟨by simp [atF, c_5], rfl⟩)
  · obtain ⟨mm, hmm, rfl⟩ := isB_nat c_5 (by omega)
    refine lv_iload_n hx hb dX8_at_8 rfl (lv_at hl 2 rfl) ?_
    refine lv_i2l (v := what.toInt64) hx hb dX8_at_9 rfl ?_
    refine lv_lconst (v := 0) hx hb dX8_at_10 rfl ?_
    refine lv_ldc2 (v := 6) hx hb hown (hts (.constantLong RX8 118 (6)) (by decide +kernel)) dX8_at_11 ?_
    refine j_csi [.long what.toInt64, .long ((0 : Int64)), .long ((6 : Int64))] hC hB hl.1 (c_X8_in l_ G I J O what.toInt64 ((0 : Int64)) ((6 : Int64))) (va_cwS 3 hts gX8_at_X8_in rfl rfl rfl (by decide +kernel) ⟨by decide, by decide⟩) dX8_at_14 rfl rfl (Nat.le_of_ble_eq_true rfl) (fun r_14 u_14 H locs hp_14 hB => ?_)
    obtain ⟨rfl, rfl⟩ := hp_14
    refine j_eqi (y := b2 (isB what 7)) (by rw [inR_isB (n := 7) (by decide)]) ?_
    refine jb_if_ne (tgt := 22) hx hb dX8_at_17 (by decide) (fun c_17 => ?_) (fun c_17 => ?_)
    · refine lv_iload_n hx hb dX8_at_22 rfl (lv_at hl 2 rfl) ?_
      refine (Decidable.em (what = nI 0)).elim (fun c_23_0 => ?_) (fun c_23_0 => ?_)
      · refine j_eqi c_23_0 ?_
        refine lv_tableIn (tgt := 60) hx hb dX8_at_23 (by decide) (by decide) rfl (by decide) ?_
        refine lv_aload_n hx hb dX8_at_60 rfl (lv_at hl 0 rfl) ?_
        refine j_get (20, 0, 0) 0 (v := .ref (G.2.2.1 (21, 41, 0))) hC hB in_X8 lk_7 dX8_at_61 jk20 rfl rfl (by decide) rfl ?_
        refine lv_iconst (v := nI 3) hx hb dX8_at_64 (by decide) ?_
        refine lv_iload_n hx hb dX8_at_65 rfl (lv_at hl 1 rfl) ?_
        refine jn_iadd hx hb dX8_at_66 ?_
        refine j_ild 41 (3 + mm) hC hB dX8_at_67 (by decide) rfl (by simp only [lenI_41]; omega) ?_
        refine j_eqi (y := (I 41) (3 + mm)) rfl ?_
        exact j_iret hC hB dX8_at_68 (⟨by simp [atF, nIc (show mm < 2147483648 by omega), nIn, c_5, c_17, eq_true c_23_0], rfl⟩)
      refine (Decidable.em (what = nI 1)).elim (fun c_23_1 => ?_) (fun c_23_1 => ?_)
      · refine j_eqi c_23_1 ?_
        refine lv_tableIn (tgt := 69) hx hb dX8_at_23 (by decide) (by decide) rfl (by decide) ?_
        refine lv_aload_n hx hb dX8_at_69 rfl (lv_at hl 0 rfl) ?_
        refine j_get (20, 0, 0) 0 (v := .ref (G.2.2.1 (21, 41, 0))) hC hB in_X8 lk_7 dX8_at_70 jk20 rfl rfl (by decide) rfl ?_
        refine lv_bipush (v := nI 63) hx hb dX8_at_73 (by decide) ?_
        refine lv_iload_n hx hb dX8_at_75 rfl (lv_at hl 1 rfl) ?_
        refine jn_iadd hx hb dX8_at_76 ?_
        refine j_ild 41 (63 + mm) hC hB dX8_at_77 (by decide) rfl (by simp only [lenI_41]; omega) ?_
        refine j_eqi (y := (I 41) (63 + mm)) rfl ?_
        exact j_iret hC hB dX8_at_78 (⟨by simp [atF, nIc (show mm < 2147483648 by omega), nIn, c_5, c_17, c_23_0, eq_true c_23_1], rfl⟩)
      refine (Decidable.em (what = nI 2)).elim (fun c_23_2 => ?_) (fun c_23_2 => ?_)
      · refine j_eqi c_23_2 ?_
        refine lv_tableIn (tgt := 79) hx hb dX8_at_23 (by decide) (by decide) rfl (by decide) ?_
        refine lv_aload_n hx hb dX8_at_79 rfl (lv_at hl 0 rfl) ?_
        refine j_get (20, 0, 0) 0 (v := .ref (G.2.2.1 (21, 41, 0))) hC hB in_X8 lk_7 dX8_at_80 jk20 rfl rfl (by decide) rfl ?_
        refine lv_bipush (v := nI 7) hx hb dX8_at_83 (by decide) ?_
        refine lv_iload_n hx hb dX8_at_85 rfl (lv_at hl 1 rfl) ?_
        refine jn_iadd hx hb dX8_at_86 ?_
        refine j_ild 41 (7 + mm) hC hB dX8_at_87 (by decide) rfl (by simp only [lenI_41]; omega) ?_
        refine j_eqi (y := (I 41) (7 + mm)) rfl ?_
        exact j_iret hC hB dX8_at_88 (⟨by simp [atF, nIc (show mm < 2147483648 by omega), nIn, c_5, c_17, c_23_0, c_23_1, eq_true c_23_2], rfl⟩)
      refine (Decidable.em (what = nI 3)).elim (fun c_23_3 => ?_) (fun c_23_3 => ?_)
      · refine j_eqi c_23_3 ?_
        refine lv_tableIn (tgt := 89) hx hb dX8_at_23 (by decide) (by decide) rfl (by decide) ?_
        refine lv_aload_n hx hb dX8_at_89 rfl (lv_at hl 0 rfl) ?_
        refine j_get (20, 0, 0) 0 (v := .ref (G.2.2.1 (21, 41, 0))) hC hB in_X8 lk_7 dX8_at_90 jk20 rfl rfl (by decide) rfl ?_
        refine lv_bipush (v := nI 51) hx hb dX8_at_93 (by decide) ?_
        refine lv_iload_n hx hb dX8_at_95 rfl (lv_at hl 1 rfl) ?_
        refine jn_iadd hx hb dX8_at_96 ?_
        refine j_ild 41 (51 + mm) hC hB dX8_at_97 (by decide) rfl (by simp only [lenI_41]; omega) ?_
        refine j_eqi (y := (I 41) (51 + mm)) rfl ?_
        exact j_iret hC hB dX8_at_98 (⟨by simp [atF, nIc (show mm < 2147483648 by omega), nIn, c_5, c_17, c_23_0, c_23_1, c_23_2, eq_true c_23_3], rfl⟩)
      refine (Decidable.em (what = nI 4)).elim (fun c_23_4 => ?_) (fun c_23_4 => ?_)
      · refine j_eqi c_23_4 ?_
        refine lv_tableIn (tgt := 99) hx hb dX8_at_23 (by decide) (by decide) rfl (by decide) ?_
        refine lv_aload_n hx hb dX8_at_99 rfl (lv_at hl 0 rfl) ?_
        refine j_get (20, 0, 0) 0 (v := .ref (G.2.2.1 (21, 41, 0))) hC hB in_X8 lk_7 dX8_at_100 jk20 rfl rfl (by decide) rfl ?_
        refine lv_bipush (v := nI 55) hx hb dX8_at_103 (by decide) ?_
        refine lv_iload_n hx hb dX8_at_105 rfl (lv_at hl 1 rfl) ?_
        refine jn_iadd hx hb dX8_at_106 ?_
        refine j_ild 41 (55 + mm) hC hB dX8_at_107 (by decide) rfl (by simp only [lenI_41]; omega) ?_
        refine j_eqi (y := (I 41) (55 + mm)) rfl ?_
        exact j_iret hC hB dX8_at_108 (⟨by simp [atF, nIc (show mm < 2147483648 by omega), nIn, c_5, c_17, c_23_0, c_23_1, c_23_2, c_23_3, eq_true c_23_4], rfl⟩)
      refine (Decidable.em (what = nI 5)).elim (fun c_23_5 => ?_) (fun c_23_5 => ?_)
      · refine j_eqi c_23_5 ?_
        refine lv_tableIn (tgt := 109) hx hb dX8_at_23 (by decide) (by decide) rfl (by decide) ?_
        refine lv_aload_n hx hb dX8_at_109 rfl (lv_at hl 0 rfl) ?_
        refine j_get (20, 0, 0) 0 (v := .ref (G.2.2.1 (21, 41, 0))) hC hB in_X8 lk_7 dX8_at_110 jk20 rfl rfl (by decide) rfl ?_
        refine lv_bipush (v := nI 59) hx hb dX8_at_113 (by decide) ?_
        refine lv_iload_n hx hb dX8_at_115 rfl (lv_at hl 1 rfl) ?_
        refine jn_iadd hx hb dX8_at_116 ?_
        refine j_ild 41 (59 + mm) hC hB dX8_at_117 (by decide) rfl (by simp only [lenI_41]; omega) ?_
        refine j_eqi (y := (I 41) (59 + mm)) rfl ?_
        exact j_iret hC hB dX8_at_118 (⟨by simp [atF, nIc (show mm < 2147483648 by omega), nIn, c_5, c_17, c_23_0, c_23_1, c_23_2, c_23_3, c_23_4, eq_true c_23_5], rfl⟩)
      have h_23 := jtsw_0_5 c_23_0 c_23_1 c_23_2 c_23_3 c_23_4 c_23_5
      refine lv_tableOut (tgt := 119) hx hb dX8_at_23 h_23 (by decide) ?_
      refine lv_aload_n hx hb dX8_at_119 rfl (lv_at hl 0 rfl) ?_
      refine lv_iload_n hx hb dX8_at_120 rfl (lv_at hl 1 rfl) ?_
      refine j_cvi (20, 0, 0) [.int (nI mm)] hC hB hl.1 (c_X8_passableOf l_ G I J O mm (by omega) (by omega) (hD)) (cwV 1 hts gX8_at_X8_passableOf rfl rfl rfl (by decide +kernel) ⟨by decide, by decide⟩) dX8_at_121 jk20 rfl rfl rfl rfl (Nat.le_of_ble_eq_true rfl) (fun r_121 u_121 H locs hp_121 hB => ?_)
      obtain ⟨rfl, rfl⟩ := hp_121
      exact j_iret hC hB dX8_at_124 (⟨by obtain ⟨w, hw, rfl⟩ := isB_nat c_17 (by omega); rcases (show w = 0 ∨ w = 1 ∨ w = 2 ∨ w = 3 ∨ w = 4 ∨ w = 5 ∨ w = 6 by omega) with rfl | rfl | rfl | rfl | rfl | rfl | rfl <;> first | contradiction | simp [atF, c_5, nIn, nIc (show mm < 2147483648 by omega)], rfl⟩)
    · refine lv_iconst (v := (-1 : Int32)) hx hb dX8_at_20 (by decide) ?_
      exact j_iret hC hB dX8_at_21 (⟨by simp [atF, c_5, c_17, isB_no c_17 (show 0 < 7 by decide) (by decide), isB_no c_17 (show 1 < 7 by decide) (by decide), isB_no c_17 (show 2 < 7 by decide) (by decide), isB_no c_17 (show 3 < 7 by decide) (by decide), isB_no c_17 (show 4 < 7 by decide) (by decide), isB_no c_17 (show 5 < 7 by decide) (by decide), isB_no c_17 (show 6 < 7 by decide) (by decide)], rfl⟩)

set_option maxHeartbeats 4000000 in
set_option maxRecDepth 100000 in
theorem c_X8_power (l_ : Launch) (G : jG) (I : Nat → Nat → Int32) (J : Nat → Nat → Int64) (O : Nat → Nat → Nat) (man door : Int32) {nd : Nat} (hnd : nd ≤ 10) (hD : I 41 0 = nI nd) {nm : Nat} (hnm : nm ≤ 4) (hM : I 41 1 = nI nm) : jMi l_ G yX8_power wsX8_power ({ frames := 2, cells := 0, slots := 0, locals := 50 }) [.ref (G.2.2.1 (20, 0, 0)), .int man, .int door] (I, J, O) (fun r u => r = powF (I 41) nd nm man door ∧ u = (I, J, O)) := by
  refine jMi_of (cc := cX8_power) (maxL := 3) (ret := (some .int)) (lv0 := [(0, .ref (G.2.2.1 (20, 0, 0))), (1, .int man), (2, .int door)]) (by decide) rfl (Nat.le_of_ble_eq_true rfl) rfl ?_
  intro pg_ ev_ s_ mi_ below meth cd_ A ls hC hB hl
  obtain ⟨hx, hb, hr, hml, hown, hts, hlocks, hK, hA⟩ := id hC
  have lk_7 := hts (.fieldLink RX8 7 "RiddlePrisonModel" "now" "[I") (by decide +kernel)
  have in_X8 := (fun w h => List.mem_cons_of_mem _ (List.mem_append_right _ h) : ∀ w ∈ wsX80, w ∈ wsX8_power)
  refine lv_aload_n hx hb dX8_power_0 rfl (lv_at hl 0 rfl) ?_
  refine lv_iload_n hx hb dX8_power_1 rfl (lv_at hl 1 rfl) ?_
  refine j_cvi (20, 0, 0) [.int man] hC hB hl.1 (c_X8_isMan l_ G I J O man (by omega) (hM)) (cwV 1 hts gX8_power_X8_isMan rfl rfl rfl (by decide +kernel) ⟨by decide, by decide⟩) dX8_power_2 jk20 rfl rfl rfl rfl (Nat.le_of_ble_eq_true rfl) (fun r_2 u_2 H locs hp_2 hB => ?_)
  obtain ⟨rfl, rfl⟩ := hp_2
  refine jb_if_eq (tgt := 16) hx hb dX8_power_5 (by decide) (fun c_5 => ?_) (fun c_5 => ?_)
  · refine lv_iconst (v := (-1 : Int32)) hx hb dX8_power_16 (by decide) ?_
    exact j_iret hC hB dX8_power_17 (⟨by simp [powF, c_5], rfl⟩)
  · obtain ⟨mm, hmm, rfl⟩ := isB_nat c_5 (by omega)
    refine lv_aload_n hx hb dX8_power_8 rfl (lv_at hl 0 rfl) ?_
    refine lv_iload_n hx hb dX8_power_9 rfl (lv_at hl 2 rfl) ?_
    refine j_cvi (20, 0, 0) [.int door] hC hB hl.1 (c_X8_isDoor l_ G I J O door (by omega) (hD)) (cwV 1 hts gX8_power_X8_isDoor rfl rfl rfl (by decide +kernel) ⟨by decide, by decide⟩) dX8_power_10 jk20 rfl rfl rfl rfl (Nat.le_of_ble_eq_true rfl) (fun r_10 u_10 H locs hp_10 hB => ?_)
    obtain ⟨rfl, rfl⟩ := hp_10
    refine jb_if_ne (tgt := 18) hx hb dX8_power_13 (by decide) (fun c_13 => ?_) (fun c_13 => ?_)
    · obtain ⟨dd, hdd, rfl⟩ := isB_nat c_13 (by omega)
      refine lv_aload_n hx hb dX8_power_18 rfl (lv_at hl 0 rfl) ?_
      refine lv_iload_n hx hb dX8_power_19 rfl (lv_at hl 2 rfl) ?_
      refine lv_aload_n hx hb dX8_power_20 rfl (lv_at hl 0 rfl) ?_
      refine j_get (20, 0, 0) 0 (v := .ref (G.2.2.1 (21, 41, 0))) hC hB in_X8 lk_7 dX8_power_21 jk20 rfl rfl (by decide) rfl ?_
      refine lv_bipush (v := nI 51) hx hb dX8_power_24 (by decide) ?_
      refine lv_iload_n hx hb dX8_power_26 rfl (lv_at hl 1 rfl) ?_
      refine jn_iadd hx hb dX8_power_27 ?_
      refine j_ild 41 (51 + mm) hC hB dX8_power_28 (by decide) rfl (by simp only [lenI_41]; omega) ?_
      refine j_eqi (y := (I 41) (51 + mm)) rfl ?_
      refine j_cvi (20, 0, 0) [.int (nI dd), .int ((I 41) (51 + mm))] hC hB hl.1 (c_X8_behind l_ G I J O dd ((I 41) (51 + mm)) (by omega)) (cwV 2 hts gX8_power_X8_behind rfl rfl rfl (by decide +kernel) ⟨by decide, by decide⟩) dX8_power_29 jk20 rfl rfl rfl rfl (Nat.le_of_ble_eq_true rfl) (fun r_29 u_29 H locs hp_29 hB => ?_)
      obtain ⟨rfl, rfl⟩ := hp_29
      refine lv_bipush (v := (-4 : Int32)) hx hb dX8_power_32 (by decide) ?_
      refine lv_icmp_ne (tgt := 42) hx hb dX8_power_34 (by decide) (fun c_34 => ?_) (fun c_34 => ?_)
      · refine lv_aload_n hx hb dX8_power_42 rfl (lv_at hl 0 rfl) ?_
        refine lv_iload_n hx hb dX8_power_43 rfl (lv_at hl 1 rfl) ?_
        refine lv_iload_n hx hb dX8_power_44 rfl (lv_at hl 2 rfl) ?_
        refine lv_aload_n hx hb dX8_power_45 rfl (lv_at hl 0 rfl) ?_
        refine j_get (20, 0, 0) 0 (v := .ref (G.2.2.1 (21, 41, 0))) hC hB in_X8 lk_7 dX8_power_46 jk20 rfl rfl (by decide) rfl ?_
        refine lv_bipush (v := nI 51) hx hb dX8_power_49 (by decide) ?_
        refine lv_iload_n hx hb dX8_power_51 rfl (lv_at hl 1 rfl) ?_
        refine jn_iadd hx hb dX8_power_52 ?_
        refine j_ild 41 (51 + mm) hC hB dX8_power_53 (by decide) rfl (by simp only [lenI_41]; omega) ?_
        refine j_eqi (y := (I 41) (51 + mm)) rfl ?_
        refine j_cvi (20, 0, 0) [.int (nI mm), .int (nI dd), .int ((I 41) (51 + mm))] hC hB hl.1 (c_X8_powerAt l_ G I J O mm dd ((I 41) (51 + mm)) (by omega) (by omega)) (cwV 3 hts gX8_power_X8_powerAt rfl rfl rfl (by decide +kernel) ⟨by decide, by decide⟩) dX8_power_54 jk20 rfl rfl rfl rfl (Nat.le_of_ble_eq_true rfl) (fun r_54 u_54 H locs hp_54 hB => ?_)
        obtain ⟨rfl, rfl⟩ := hp_54
        exact j_iret hC hB dX8_power_57 (⟨by simp [powF, nIc (show mm < 2147483648 by omega), nIc (show dd < 2147483648 by omega), c_5, c_13, c_34], rfl⟩)
      · refine lv_bipush (v := (-2 : Int32)) hx hb dX8_power_37 (by decide) ?_
        refine lv_goto (tgt := 57) hx hb dX8_power_39 (by decide) ?_
        exact j_iret hC hB dX8_power_57 (⟨by simp [powF, nIc (show mm < 2147483648 by omega), nIc (show dd < 2147483648 by omega), c_5, c_13, eq_true c_34], rfl⟩)
    · refine lv_iconst (v := (-1 : Int32)) hx hb dX8_power_16 (by decide) ?_
      exact j_iret hC hB dX8_power_17 (⟨by simp [powF, c_5, c_13], rfl⟩)

set_option maxHeartbeats 4000000 in
set_option maxRecDepth 100000 in
theorem c_X8_count (l_ : Launch) (G : jG) (I : Nat → Nat → Int32) (J : Nat → Nat → Int64) (O : Nat → Nat → Nat) (what : Int32) {nd : Nat} (hnd : nd ≤ 10) (hD : I 41 0 = nI nd) {nm : Nat} (hnm : nm ≤ 4) (hM : I 41 1 = nI nm) : jMi l_ G yX8_count wsX8_count ({ frames := 1, cells := 0, slots := 0, locals := 22 }) [.ref (G.2.2.1 (20, 0, 0)), .int what] (I, J, O) (fun r u => r = cntF (I 41) nd nm (I 41 2) what ∧ u = (I, J, O)) := by
  refine jMi_of (cc := cX8_count) (maxL := 5) (ret := (some .int)) (lv0 := [(0, .ref (G.2.2.1 (20, 0, 0))), (1, .int what)]) (by decide) rfl (Nat.le_of_ble_eq_true rfl) rfl ?_
  intro pg_ ev_ s_ mi_ below meth cd_ A ls hC hB hl
  obtain ⟨hx, hb, hr, hml, hown, hts, hlocks, hK, hA⟩ := id hC
  have lk_7 := hts (.fieldLink RX8 7 "RiddlePrisonModel" "now" "[I") (by decide +kernel)
  have in_X8 := (fun w h => List.mem_cons_of_mem _ (List.mem_append_right _ h) : ∀ w ∈ wsX80, w ∈ wsX8_count)
  refine lv_iconst (v := nI 0) hx hb dX8_count_0 (by decide) ?_
  refine lv_istore_n (lv' := [(2, .int (nI 0)), (0, .ref (G.2.2.1 (20, 0, 0))), (1, .int what)]) hx hb dX8_count_1 rfl hl (by decide) rfl (fun ls hl => ?_)
  refine lv_iconst (v := nI 0) hx hb dX8_count_2 (by decide) ?_
  refine lv_istore_n (lv' := [(3, .int (nI 0)), (2, .int (nI 0)), (0, .ref (G.2.2.1 (20, 0, 0))), (1, .int what)]) hx hb dX8_count_3 rfl hl (by decide) rfl (fun ls hl => ?_)
  refine lv_iconst (v := nI 0) hx hb dX8_count_4 (by decide) ?_
  refine lv_istore (lv' := [(4, .int (nI 0)), (3, .int (nI 0)), (2, .int (nI 0)), (0, .ref (G.2.2.1 (20, 0, 0))), (1, .int what)]) hx hb dX8_count_5 hl (by decide) rfl (fun ls hl => ?_)
  have lp_7 : ∀ (fu : Nat) (hard : Int32) (d : Nat), nd - d < fu → (d ≤ nd) → (hard = hsF (I 41) d) → ∀ H locs ls, jB G A s_.heap (I, J, O) H locs → lv_has ls 5 [(4, .int (nI d)), (3, .int (nI 0)), (2, .int hard), (0, .ref (G.2.2.1 (20, 0, 0))), (1, .int what)] → W pg_ l_ ev_ ({ frames := 1, cells := 0, slots := 0, locals := 22 }) s_ mi_ ([.ref (G.2.2.1 (20, 0, 0)), .int what]).toArray below meth cd_ H locs 0 0 (jQi G A below [.ref (G.2.2.1 (20, 0, 0)), .int what] s_ (fun r u => r = cntF (I 41) nd nm (I 41 2) what ∧ u = (I, J, O))) (F0 mi_ 7 ls []) := by
    intro fu
    induction fu with
    | zero => intro hard d hf; exact absurd hf (Nat.not_lt_zero _)
    | succ fu ih_7 =>
      intro hard d hf_7 hd hs H locs ls hB hl
      refine lv_iload hx hb dX8_count_7 (lv_at hl 0 rfl) ?_
      refine lv_aload_n hx hb dX8_count_9 rfl (lv_at hl 3 rfl) ?_
      refine j_get (20, 0, 0) 0 (v := .ref (G.2.2.1 (21, 41, 0))) hC hB in_X8 lk_7 dX8_count_10 jk20 rfl rfl (by decide) rfl ?_
      refine lv_iconst (v := nI 0) hx hb dX8_count_13 (by decide) ?_
      refine j_ild 41 0 hC hB dX8_count_14 (by decide) rfl (by simp only [lenI_41]; omega) ?_
      refine j_eqi (y := nI nd) (hD) ?_
      refine jn_icmp_ge (tgt := 37) hx hb dX8_count_15 (by decide) (by omega) (by omega) (fun c_15 => ?_) (fun c_15 => ?_)
      · refine lv_iconst (v := nI 0) hx hb dX8_count_37 (by decide) ?_
        refine lv_istore (lv' := [(4, .int (nI 0)), (3, .int (nI 0)), (2, .int hard), (0, .ref (G.2.2.1 (20, 0, 0))), (1, .int what)]) hx hb dX8_count_38 hl (by decide) rfl (fun ls hl => ?_)
        have lp_40 : ∀ (fu : Nat) (cells : Int32) (k : Nat), nm - k < fu → (k ≤ nm) → (cells = clF (I 41) k) → ∀ H locs ls, jB G A s_.heap (I, J, O) H locs → lv_has ls 5 [(4, .int (nI k)), (3, .int cells), (2, .int hard), (0, .ref (G.2.2.1 (20, 0, 0))), (1, .int what)] → W pg_ l_ ev_ ({ frames := 1, cells := 0, slots := 0, locals := 22 }) s_ mi_ ([.ref (G.2.2.1 (20, 0, 0)), .int what]).toArray below meth cd_ H locs 0 0 (jQi G A below [.ref (G.2.2.1 (20, 0, 0)), .int what] s_ (fun r u => r = cntF (I 41) nd nm (I 41 2) what ∧ u = (I, J, O))) (F0 mi_ 40 ls []) := by
          intro fu
          induction fu with
          | zero => intro cells k hf; exact absurd hf (Nat.not_lt_zero _)
          | succ fu ih_40 =>
            intro cells k hf_40 hk hc H locs ls hB hl
            refine lv_iload hx hb dX8_count_40 (lv_at hl 0 rfl) ?_
            refine lv_aload_n hx hb dX8_count_42 rfl (lv_at hl 3 rfl) ?_
            refine j_get (20, 0, 0) 0 (v := .ref (G.2.2.1 (21, 41, 0))) hC hB in_X8 lk_7 dX8_count_43 jk20 rfl rfl (by decide) rfl ?_
            refine lv_iconst (v := nI 1) hx hb dX8_count_46 (by decide) ?_
            refine j_ild 41 1 hC hB dX8_count_47 (by decide) rfl (by simp only [lenI_41]; omega) ?_
            refine j_eqi (y := nI nm) (hM) ?_
            refine jn_icmp_ge (tgt := 72) hx hb dX8_count_48 (by decide) (by omega) (by omega) (fun c_48 => ?_) (fun c_48 => ?_)
            · refine lv_iload_n hx hb dX8_count_72 rfl (lv_at hl 4 rfl) ?_
              refine (Decidable.em (what = nI 0)).elim (fun c_73_0 => ?_) (fun c_73_0 => ?_)
              · refine j_eqi c_73_0 ?_
                refine lv_tableIn (tgt := 112) hx hb dX8_count_73 (by decide) (by decide) rfl (by decide) ?_
                refine lv_aload_n hx hb dX8_count_112 rfl (lv_at hl 3 rfl) ?_
                refine j_get (20, 0, 0) 0 (v := .ref (G.2.2.1 (21, 41, 0))) hC hB in_X8 lk_7 dX8_count_113 jk20 rfl rfl (by decide) rfl ?_
                refine lv_iconst (v := nI 0) hx hb dX8_count_116 (by decide) ?_
                refine j_ild 41 0 hC hB dX8_count_117 (by decide) rfl (by simp only [lenI_41]; omega) ?_
                refine j_eqi (y := nI nd) (hD) ?_
                exact j_iret hC hB dX8_count_118 (⟨by simp [cntF, nIn, hs, hc, show d = nd by omega, show k = nm by omega, eq_true c_73_0], rfl⟩)
              refine (Decidable.em (what = nI 1)).elim (fun c_73_1 => ?_) (fun c_73_1 => ?_)
              · refine j_eqi c_73_1 ?_
                refine lv_tableIn (tgt := 119) hx hb dX8_count_73 (by decide) (by decide) rfl (by decide) ?_
                refine lv_aload_n hx hb dX8_count_119 rfl (lv_at hl 3 rfl) ?_
                refine j_get (20, 0, 0) 0 (v := .ref (G.2.2.1 (21, 41, 0))) hC hB in_X8 lk_7 dX8_count_120 jk20 rfl rfl (by decide) rfl ?_
                refine lv_iconst (v := nI 1) hx hb dX8_count_123 (by decide) ?_
                refine j_ild 41 1 hC hB dX8_count_124 (by decide) rfl (by simp only [lenI_41]; omega) ?_
                refine j_eqi (y := nI nm) (hM) ?_
                exact j_iret hC hB dX8_count_125 (⟨by simp [cntF, nIn, hs, hc, show d = nd by omega, show k = nm by omega, c_73_0, eq_true c_73_1], rfl⟩)
              refine (Decidable.em (what = nI 2)).elim (fun c_73_2 => ?_) (fun c_73_2 => ?_)
              · refine j_eqi c_73_2 ?_
                refine lv_tableIn (tgt := 126) hx hb dX8_count_73 (by decide) (by decide) rfl (by decide) ?_
                refine lv_iload_n hx hb dX8_count_126 rfl (lv_at hl 2 rfl) ?_
                exact j_iret hC hB dX8_count_127 (⟨by simp [cntF, nIn, hs, hc, show d = nd by omega, show k = nm by omega, c_73_0, c_73_1, eq_true c_73_2], rfl⟩)
              refine (Decidable.em (what = nI 3)).elim (fun c_73_3 => ?_) (fun c_73_3 => ?_)
              · refine j_eqi c_73_3 ?_
                refine lv_tableIn (tgt := 128) hx hb dX8_count_73 (by decide) (by decide) rfl (by decide) ?_
                refine lv_aload_n hx hb dX8_count_128 rfl (lv_at hl 3 rfl) ?_
                refine j_cvi (20, 0, 0) [] hC hB hl.1 (c_X8_failedAll l_ G I J O  (by omega) (hM)) (cwV 0 hts gX8_count_X8_failedAll rfl rfl rfl (by decide +kernel) ⟨by decide, by decide⟩) dX8_count_129 jk20 rfl rfl rfl rfl (Nat.le_of_ble_eq_true rfl) (fun r_129 u_129 H locs hp_129 hB => ?_)
                obtain ⟨rfl, rfl⟩ := hp_129
                exact j_iret hC hB dX8_count_132 (⟨by simp [cntF, nIn, hs, hc, show d = nd by omega, show k = nm by omega, c_73_0, c_73_1, c_73_2, eq_true c_73_3], rfl⟩)
              refine (Decidable.em (what = nI 4)).elim (fun c_73_4 => ?_) (fun c_73_4 => ?_)
              · refine j_eqi c_73_4 ?_
                refine lv_tableIn (tgt := 133) hx hb dX8_count_73 (by decide) (by decide) rfl (by decide) ?_
                refine lv_iload_n hx hb dX8_count_133 rfl (lv_at hl 1 rfl) ?_
                exact j_iret hC hB dX8_count_134 (⟨by simp [cntF, nIn, hs, hc, show d = nd by omega, show k = nm by omega, c_73_0, c_73_1, c_73_2, c_73_3, eq_true c_73_4], rfl⟩)
              refine (Decidable.em (what = nI 5)).elim (fun c_73_5 => ?_) (fun c_73_5 => ?_)
              · refine j_eqi c_73_5 ?_
                refine lv_tableIn (tgt := 135) hx hb dX8_count_73 (by decide) (by decide) rfl (by decide) ?_
                refine lv_aload_n hx hb dX8_count_135 rfl (lv_at hl 3 rfl) ?_
                refine j_get (20, 0, 0) 0 (v := .ref (G.2.2.1 (21, 41, 0))) hC hB in_X8 lk_7 dX8_count_136 jk20 rfl rfl (by decide) rfl ?_
                refine lv_iconst (v := nI 2) hx hb dX8_count_139 (by decide) ?_
                refine j_ild 41 2 hC hB dX8_count_140 (by decide) rfl (by simp only [lenI_41]; omega) ?_
                refine j_eqi (y := (I 41) 2) rfl ?_
                exact j_iret hC hB dX8_count_141 (⟨by simp [cntF, nIn, hs, hc, show d = nd by omega, show k = nm by omega, c_73_0, c_73_1, c_73_2, c_73_3, c_73_4, eq_true c_73_5], rfl⟩)
              have h_73 := jtsw_0_5 c_73_0 c_73_1 c_73_2 c_73_3 c_73_4 c_73_5
              refine lv_tableOut (tgt := 142) hx hb dX8_count_73 h_73 (by decide) ?_
              refine lv_iconst (v := (-1 : Int32)) hx hb dX8_count_142 (by decide) ?_
              exact j_iret hC hB dX8_count_143 (⟨by simp [cntF, nIn, hs, hc, show d = nd by omega, show k = nm by omega, c_73_0, c_73_1, c_73_2, c_73_3, c_73_4, c_73_5], rfl⟩)
            · refine lv_iload_n hx hb dX8_count_51 rfl (lv_at hl 1 rfl) ?_
              refine lv_iconst (v := nI 1) hx hb dX8_count_52 (by decide) ?_
              refine lv_aload_n hx hb dX8_count_53 rfl (lv_at hl 3 rfl) ?_
              refine j_get (20, 0, 0) 0 (v := .ref (G.2.2.1 (21, 41, 0))) hC hB in_X8 lk_7 dX8_count_54 jk20 rfl rfl (by decide) rfl ?_
              refine lv_bipush (v := nI 51) hx hb dX8_count_57 (by decide) ?_
              refine lv_iload hx hb dX8_count_59 (lv_at hl 0 rfl) ?_
              refine jn_iadd hx hb dX8_count_61 ?_
              refine j_ild 41 (51 + k) hC hB dX8_count_62 (by decide) rfl (by simp only [lenI_41]; omega) ?_
              refine j_eqi (y := (I 41) (51 + k)) rfl ?_
              refine lv_ishl hx hb dX8_count_63 ?_
              refine lv_ior hx hb dX8_count_64 ?_
              refine lv_istore_n (lv' := [(3, .int (cells ||| ((nI 1) <<< (((I 41) (51 + k)) &&& 31)))), (4, .int (nI k)), (2, .int hard), (0, .ref (G.2.2.1 (20, 0, 0))), (1, .int what)]) hx hb dX8_count_65 rfl hl (by decide) rfl (fun ls hl => ?_)
              refine lv_iinc (v := nI (k + 1)) (lv' := [(4, .int (nI (k + 1))), (3, .int (cells ||| ((nI 1) <<< (((I 41) (51 + k)) &&& 31)))), (2, .int hard), (0, .ref (G.2.2.1 (20, 0, 0))), (1, .int what)]) hx hb dX8_count_66 hl (k := 1) rfl (jn_inc _ 1) (by decide) rfl (fun ls hl => ?_)
              refine lv_goto (tgt := 40) hx hb dX8_count_69 (by decide) ?_
              exact ih_40 (cells ||| ((nI 1) <<< (((I 41) (51 + k)) &&& 31))) (k + 1) (by omega) (by omega) (by rw [hc]; rfl) _ _ _ hB (lv_sub hl [0, 1, 2, 3, 4] rfl)
        exact lp_40 _ (nI 0) 0 (Nat.lt_succ_self _) (by omega) (rfl) _ _ _ hB (lv_sub hl [0, 1, 2, 3, 4] rfl)
      · refine lv_iload_n hx hb dX8_count_18 rfl (lv_at hl 2 rfl) ?_
        refine lv_aload_n hx hb dX8_count_19 rfl (lv_at hl 3 rfl) ?_
        refine j_get (20, 0, 0) 0 (v := .ref (G.2.2.1 (21, 41, 0))) hC hB in_X8 lk_7 dX8_count_20 jk20 rfl rfl (by decide) rfl ?_
        refine lv_bipush (v := nI 41) hx hb dX8_count_23 (by decide) ?_
        refine lv_iload hx hb dX8_count_25 (lv_at hl 0 rfl) ?_
        refine jn_iadd hx hb dX8_count_27 ?_
        refine j_ild 41 (41 + d) hC hB dX8_count_28 (by decide) rfl (by simp only [lenI_41]; omega) ?_
        refine j_eqi (y := (I 41) (41 + d)) rfl ?_
        refine lv_iadd hx hb dX8_count_29 ?_
        refine lv_istore_n (lv' := [(2, .int (hard + ((I 41) (41 + d)))), (4, .int (nI d)), (3, .int (nI 0)), (0, .ref (G.2.2.1 (20, 0, 0))), (1, .int what)]) hx hb dX8_count_30 rfl hl (by decide) rfl (fun ls hl => ?_)
        refine lv_iinc (v := nI (d + 1)) (lv' := [(4, .int (nI (d + 1))), (2, .int (hard + ((I 41) (41 + d)))), (3, .int (nI 0)), (0, .ref (G.2.2.1 (20, 0, 0))), (1, .int what)]) hx hb dX8_count_31 hl (k := 1) rfl (jn_inc _ 1) (by decide) rfl (fun ls hl => ?_)
        refine lv_goto (tgt := 7) hx hb dX8_count_34 (by decide) ?_
        exact ih_7 (hard + ((I 41) (41 + d))) (d + 1) (by omega) (by omega) (by rw [hs]; rfl) _ _ _ hB (lv_sub hl [0, 2, 1, 3, 4] rfl)
  exact lp_7 _ (nI 0) 0 (Nat.lt_succ_self _) (by omega) (rfl) _ _ _ hB (lv_sub hl [0, 1, 2, 3, 4] rfl)
