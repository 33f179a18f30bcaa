set_option maxHeartbeats 4000000 in
set_option maxRecDepth 100000 in
theorem c_X7_item (l_ : Launch) (G : jG) (I : Nat → Nat → Int32) (J : Nat → Nat → Int64) (O : Nat → Nat → Nat) (sheet lane i : Int32) (v : Int64) (hHo : ∀ s, s < 4 → ∃ b, I 33 (3 * s) = b2 b) (hSz : ∀ s, s < 4 → ∃ sz, sz ≤ 24 ∧ I 33 (3 * s + 2) = nI sz) : jMi l_ G yX7_item wsX7_item ({ frames := 2, cells := 0, slots := 0, locals := 42 }) [.ref (G.2.2.1 (0, 0, 0)), .int sheet, .int lane, .int i, .long v] (I, J, O) (fun r u => r = itmA (I 33) sheet lane i ∧ u = (I, itmJ I J sheet lane i v, O)) := by
  refine jMi_of (cc := cX7_item) (maxL := 8) (ret := (some .int)) (lv0 := [(0, .ref (G.2.2.1 (0, 0, 0))), (1, .int sheet), (2, .int lane), (3, .int i), (4, .long v)]) (by decide) rfl (Nat.le_of_ble_eq_true rfl) rfl ?_
  intro pg_ ev_ s_ mi_ below meth cd_ A ls hC hB hl
  obtain ⟨hx, hb, hr, hml, hown, hts, hlocks, hK, hA⟩ := id hC
  have lk_57 := hts (.fieldLink RX7 57 "RiddlePrison" "sheets" "[LRiddlePrison$Sheet;") (by decide +kernel)
  have in_X7 := (fun w h => List.mem_cons_of_mem _ (List.mem_append_left _ (List.mem_append_right _ h)) : ∀ w ∈ wsX70, w ∈ wsX7_item)
  refine lv_iload_n hx hb dX7_item_0 rfl (lv_at hl 1 rfl) ?_
  refine lv_iload_n hx hb dX7_item_1 rfl (lv_at hl 2 rfl) ?_
  refine j_csi [.int sheet, .int lane] hC hB hl.1 (c_X7_isSheetLane l_ G I J O sheet lane) (va_cwS 2 hts gX7_item_X7_isSheetLane rfl rfl rfl (by decide +kernel) ⟨by decide, by decide⟩) dX7_item_2 rfl rfl (Nat.le_of_ble_eq_true rfl) (fun r_2 u_2 H locs hp_2 hB => ?_)
  obtain ⟨rfl, rfl⟩ := hp_2
  refine jb_if_ne (tgt := 10) hx hb dX7_item_5 (by decide) (fun c_5 => ?_) (fun c_5 => ?_)
  · have h45 := (Bool.and_eq_true _ _).mp c_5
    obtain ⟨ss, hss, rfl⟩ := isB_nat h45.1 (by omega)
    obtain ⟨hold, ehold⟩ := hHo ss hss
    obtain ⟨sz, hsz, esz⟩ := hSz ss hss
    refine lv_aload_n hx hb dX7_item_10 rfl (lv_at hl 0 rfl) ?_
    refine j_get (0, 0, 0) 9 (v := .ref (G.2.2.1 (14, 0, 0))) hC hB in_X7 lk_57 dX7_item_11 jk0 rfl rfl (by decide) rfl ?_
    refine lv_iload_n hx hb dX7_item_14 rfl (lv_at hl 1 rfl) ?_
    refine j_ald (14, 0, 0) (15, ss, 0) 6 ss hC hB dX7_item_15 jk14 rfl rfl rfl (by omega) (by decide) rfl ?_
    refine lv_astore (lv' := [(6, .ref (G.2.2.1 (15, ss, 0))), (0, .ref (G.2.2.1 (0, 0, 0))), (1, .int (nI ss)), (2, .int lane), (3, .int i), (4, .long v)]) hx hb dX7_item_16 hl (by decide) rfl (fun ls hl => ?_)
    refine lv_aload hx hb dX7_item_18 (lv_at hl 0 rfl) ?_
    refine lv_iload_n hx hb dX7_item_20 rfl (lv_at hl 3 rfl) ?_
    refine lv_iload_n hx hb dX7_item_21 rfl (lv_at hl 4 rfl) ?_
    refine lv_iconst (v := nI 1) hx hb dX7_item_22 (by decide) ?_
    refine j_cvi (15, ss, 0) [.int lane, .int i, .int (nI 1)] hC hB hl.1 (c_X5_faultOf l_ G I J O ss lane i (nI 1) (by omega) (ehold)) (cwV 3 hts gX7_item_X5_faultOf rfl rfl rfl (by decide +kernel) ⟨by decide, by decide⟩) dX7_item_23 (jk15 (by omega)) rfl rfl rfl rfl (Nat.le_of_ble_eq_true rfl) (fun r_23 u_23 H locs hp_23 hB => ?_)
    obtain ⟨rfl, rfl⟩ := hp_23
    refine lv_istore (lv' := [(7, .int (flC (I 33) ss hold lane i (nI 1))), (6, .ref (G.2.2.1 (15, ss, 0))), (0, .ref (G.2.2.1 (0, 0, 0))), (1, .int (nI ss)), (2, .int lane), (3, .int i), (4, .long v)]) hx hb dX7_item_26 hl (by decide) rfl (fun ls hl => ?_)
    refine lv_iload hx hb dX7_item_28 (lv_at hl 0 rfl) ?_
    refine lv_if_ge (tgt := 36) hx hb dX7_item_30 (by decide) (fun c_30 => ?_) (fun c_30 => ?_)
    · obtain ⟨hh1, hh2, j, k1, hj, rfl, ek⟩ := flC_nat esz hsz c_30
      have hk1 : k1 = 1 := jnat1 hsz hj ek
      refine lv_aload hx hb dX7_item_36 (lv_at hl 1 rfl) ?_
      refine lv_iload_n hx hb dX7_item_38 rfl (lv_at hl 5 rfl) ?_
      refine lv_lload hx hb dX7_item_39 (lv_at hl 6 rfl) ?_
      refine j_cvv (15, ss, 0) [.int (nI j), .long v] hC hB hl.1 (c_X5_put l_ G I J O ss j v (by omega) (by omega)) (cwV 2 hts gX7_item_X5_put rfl rfl rfl (by decide +kernel) ⟨by decide, by decide⟩) dX7_item_41 (jk15 (by omega)) rfl rfl rfl rfl (Nat.le_of_ble_eq_true rfl) (fun u_41 H locs hp_41 hB => ?_)
      obtain rfl := hp_41
      refine lv_iconst (v := nI 1) hx hb dX7_item_44 (by decide) ?_
      exact j_iret hC hB dX7_item_45 (⟨by simp [itmA, tN, nIc (show ss < 2147483648 by omega), h45.1, h45.2, holdB_eq ehold, c_30], by simp [itmJ, tN, nIc (show ss < 2147483648 by omega), h45.1, h45.2, holdB_eq ehold, c_30, nIc (show j < 2147483648 by omega)]⟩)
    · refine lv_iload hx hb dX7_item_33 (lv_at hl 0 rfl) ?_
      exact j_iret hC hB dX7_item_35 (⟨by simp [itmA, tN, nIc (show ss < 2147483648 by omega), h45.1, h45.2, holdB_eq ehold, c_30], by simp [itmJ, tN, nIc (show ss < 2147483648 by omega), h45.1, h45.2, holdB_eq ehold, c_30]⟩)
  · refine lv_iconst (v := (-1 : Int32)) hx hb dX7_item_8 (by decide) ?_
    exact j_iret hC hB dX7_item_9 (⟨by simp [itmA, c_5], by simp [itmJ, c_5]⟩)
