set_option maxHeartbeats 4000000 in
set_option maxRecDepth 100000 in
theorem c_X7_item (l_ : Launch) (G : jG) (I : Nat → Nat → Int32) (J : Nat → Nat → Int64) (O : Nat → Nat → Nat) (sheet lane i : Int32) (v : Int64) (hHo : ∀ s, s < 4 → ∃ b, I 33 (3 * s) = b2 b) (hSz : ∀ s, s < 4 → ∃ sz, sz ≤ 24 ∧ I 33 (3 * s + 2) = nI sz) : jMi l_ G yX7_item wsX7_item ({ frames := 2, cells := 0, slots := 0, locals := 42 }) [.ref (G.2.2.1 (0, 0, 0)), .int sheet, .int lane, .int i, .long v] (I, J, O) (fun r u => r = itmA (I 33) sheet lane i ∧ u = (I, itmJ I J sheet lane i v, O)) := by
  refine jMi_of (cc := cX7_item) (maxL := 8) (ret := (some .int)) (lv0 := [(0, .ref (G.2.2.1 (0, 0, 0))), (1, .int sheet), (2, .int lane), (3, .int i), (4, .long v)]) (by decide) rfl (Nat.le_of_ble_eq_true rfl) rfl ?_
  intro pg_ ev_ s_ mi_ below meth cd_ A ls hC hB hl
  obtain ⟨hx, hb, hr, hml, hown, hts, hlocks, hK, hA⟩ := id hC
  have lk_57 := hts (.fieldLink RX7 57 "RiddlePrison" "sheets" "[LRiddlePrison$Sheet;") (by decide +kernel)
  have in_X7 := (fun w h => List.mem_cons_of_mem _ (List.mem_append_left _ (List.mem_append_right _ h)) : ∀ w ∈ wsX70, w ∈ wsX7_item)
  refine lv_iload_n hx hb dX7_item_0 rfl (lv_at hl 1 rfl) ?_
  refine lv_iload_n hx hb dX7_item_1 rfl (lv_at hl 2 rfl) ?_
  refine j_csi [.int sheet, .int lane] hC hB hl.1 (c_X7_isSheetLane l_ G I J O sheet lane) (va_cwS 2 hts gX7_item_X7_isSheetLane rfl rfl rfl (by decide +kernel) ⟨by decide, by decide⟩) dX7_item_2 rfl rfl (Nat.le_of_ble_eq_true rfl) (fun r_2 u_2 H locs hp_2 hB => ?_)
  obtain ⟨rfl, rfl⟩ := hp_2
  refine jb_if_ne (tgt := 10) hx hb dX7_item_5 (by decide) (fun c_5 => ?_) (fun c_5 => ?_)
  · have h45 := (Bool.and_eq_true _ _).mp c_5
    obtain ⟨ss, hss, rfl⟩ := isB_nat h45.1 (by omega)
    obtain ⟨hold, ehold⟩ := hHo ss hss
    obtain ⟨sz, hsz, esz⟩ := hSz ss hss
    refine lv_aload_n hx hb dX7_item_10 rfl (lv_at hl 0 rfl) ?_
    refine j_get (0, 0, 0) 9 (v := .ref (G.2.2.1 (14, 0, 0))) hC hB in_X7 lk_57 dX7_item_11 jk0 rfl rfl (by decide) rfl ?_
    refine lv_iload_n hx hb dX7_item_14 rfl (lv_at hl 1 rfl) ?_
    refine j_ald (14, 0, 0) (15, ss, 0) 6 ss hC hB dX7_item_15 jk14 rfl rfl rfl (by omega) (by decide) rfl ?_
    refine lv_astore (lv' := [(6, .ref (G.2.2.1 (15, ss, 0))), (0, .ref (G.2.2.1 (0, 0, 0))), (1, .int (nI ss)), (2, .int lane), (3, .int i), (4, .long v)]) hx hb dX7_item_16 hl (by decide) rfl (fun ls hl => ?_)
    refine lv_aload hx hb dX7_item_18 (lv_at hl 0 rfl) ?_
    refine lv_iload_n hx hb dX7_item_20 rfl (lv_at hl 3 rfl) ?_
    refine lv_iload_n hx hb dX7_item_21 rfl (lv_at hl 4 rfl) ?_
    refine lv_iconst (v := nI 1) hx hb dX7_item_22 (by decide) ?_
    refine j_cvi (15, ss, 0) [.int lane, .int i, .int (nI 1)] hC hB hl.1 (c_X5_faultOf l_ G I J O ss lane i (nI 1) (by omega) (ehold)) (cwV 3 hts gX7_item_X5_faultOf rfl rfl rfl (by decide +kernel) ⟨by decide, by decide⟩) dX7_item_23 (jk15 (by omega)) rfl rfl rfl rfl (Nat.le_of_ble_eq_true rfl) (fun r_23 u_23 H locs hp_23 hB => ?_)
    obtain ⟨rfl, rfl⟩ := hp_23
    refine lv_istore (lv' := [(7, .int (flC (I 33) ss hold lane i (nI 1))), (6, .ref (G.2.2.1 (15, ss, 0))), (0, .ref (G.2.2.1 (0, 0, 0))), (1, .int (nI ss)), (2, .int lane), (3, .int i), (4, .long v)]) hx hb dX7_item_26 hl (by decide) rfl (fun ls hl => ?_)
    refine lv_iload hx hb dX7_item_28 (lv_at hl 0 rfl) ?_
    refine lv_if_ge (tgt := 36) hx hb dX7_item_30 (by decide) (fun c_30 => ?_) (fun c_30 => ?_)
    · obtain ⟨hh1, hh2, j, k1, hj, rfl, ek⟩ := flC_nat esz hsz c_30
      have hk1 : k1 = 1 := jnat1 hsz hj ek
      refine lv_aload hx hb dX7_item_36 (lv_at hl 1 rfl) ?_
      refine lv_iload_n hx hb dX7_item_38 rfl (lv_at hl 5 rfl) ?_
      refine lv_lload hx hb dX7_item_39 (lv_at hl 6 rfl) ?_
      refine j_cvv (15, ss, 0) [.int (nI j), .long v] hC hB hl.1 (c_X5_put l_ G I J O ss j v (by omega) (by omega)) (cwV 2 hts gX7_item_X5_put rfl rfl rfl (by decide +kernel) ⟨by decide, by decide⟩) dX7_item_41 (jk15 (by omega)) rfl rfl rfl rfl (Nat.le_of_ble_eq_true rfl) (fun u_41 H locs hp_41 hB => ?_)
      obtain rfl := hp_41
      refine lv_iconst (v := nI 1) hx hb dX7_item_44 (by decide) ?_
      exact j_iret hC hB dX7_item_45 (⟨by simp [itmA, tN, nIc (show ss < 2147483648 by omega), h45.1, h45.2, holdB_eq ehold, c_30], by simp [itmJ, tN, nIc (show ss < 2147483648 by omega), h45.1, h45.2, holdB_eq ehold, c_30, nIc (show j < 2147483648 by omega)]⟩)
    · refine lv_iload hx hb dX7_item_33 (lv_at hl 0 rfl) ?_
      exact j_iret hC hB dX7_item_35 (⟨by simp [itmA, tN, nIc (show ss < 2147483648 by omega), h45.1, h45.2, holdB_eq ehold, c_30], by simp [itmJ, tN, nIc (show ss < 2147483648 by omega), h45.1, h45.2, holdB_eq ehold, c_30]⟩)
  · refine lv_iconst (v := (-1 : Int32)) hx hb dX7_item_8 (by decide) ?_
    exact j_iret hC hB dX7_item_9 (⟨by simp [itmA, c_5], by simp [itmJ, c_5]⟩)

set_option maxHeartbeats 4000000 in
set_option maxRecDepth 100000 in
theorem c_X7_copy (l_ : Launch) (G : jG) (I : Nat → Nat → Int32) (J : Nat → Nat → Int64) (O : Nat → Nat → Nat) (fr i to_ j n : Int32) (hHo : ∀ s, s < 4 → ∃ b, I 33 (3 * s) = b2 b) (hSz : ∀ s, s < 4 → ∃ sz, sz ≤ 24 ∧ I 33 (3 * s + 2) = nI sz) : jMi l_ G yX7_copy wsX7_copy ({ frames := 1, cells := 0, slots := 0, locals := 60 }) [.ref (G.2.2.1 (0, 0, 0)), .int fr, .int i, .int to_, .int j, .int n] (I, J, O) (fun r u => r = cpyA (I 33) fr i to_ j n ∧ u = (I, cpyJ I J fr i to_ j n, O)) := by
  refine jMi_of (cc := cX7_copy) (maxL := 9) (ret := (some .int)) (lv0 := [(0, .ref (G.2.2.1 (0, 0, 0))), (1, .int fr), (2, .int i), (3, .int to_), (4, .int j), (5, .int n)]) (by decide) rfl (Nat.le_of_ble_eq_true rfl) rfl ?_
  intro pg_ ev_ s_ mi_ below meth cd_ A ls hC hB hl
  obtain ⟨hx, hb, hr, hml, hown, hts, hlocks, hK, hA⟩ := id hC
  have lk_57 := hts (.fieldLink RX7 57 "RiddlePrison" "sheets" "[LRiddlePrison$Sheet;") (by decide +kernel)
  have ln_296 := (by decide +kernel : Cond.fieldLinkNest RX7 296 "RiddlePrison$Sheet" "holds" "Z" "RiddlePrison" ∈ nsW)
  have ln_300 := (by decide +kernel : Cond.fieldLinkNest RX7 300 "RiddlePrison$Sheet" "lane" "I" "RiddlePrison" ∈ nsW)
  have ln_303 := (by decide +kernel : Cond.fieldLinkNest RX7 303 "RiddlePrison$Sheet" "items" "[J" "RiddlePrison" ∈ nsW)
  have in_X7 := (fun w h => List.mem_cons_of_mem _ (List.mem_append_left _ (List.mem_append_right _ h)) : ∀ w ∈ wsX70, w ∈ wsX7_copy)
  have in_X5 := (fun w h => List.mem_cons_of_mem _ (List.mem_append_right _ h) : ∀ w ∈ wsX50, w ∈ wsX7_copy)
  refine lv_iload_n hx hb dX7_copy_0 rfl (lv_at hl 1 rfl) ?_
  refine lv_iconst (v := nI 4) hx hb dX7_copy_1 (by decide) ?_
  refine j_csi [.int fr, .int (nI 4)] hC hB hl.1 (c_X7_isBelow l_ G I J O fr 4 (by omega)) (va_cwS 2 hts gX7_copy_X7_isBelow rfl rfl rfl (by decide +kernel) ⟨by decide, by decide⟩) dX7_copy_2 rfl rfl (Nat.le_of_ble_eq_true rfl) (fun r_2 u_2 H locs hp_2 hB => ?_)
  obtain ⟨rfl, rfl⟩ := hp_2
  refine jb_if_eq (tgt := 16) hx hb dX7_copy_5 (by decide) (fun c_5 => ?_) (fun c_5 => ?_)
  · refine lv_iconst (v := (-1 : Int32)) hx hb dX7_copy_16 (by decide) ?_
    exact j_iret hC hB dX7_copy_17 (⟨by simp [cpyA, c_5], by simp [cpyJ, c_5]⟩)
  · obtain ⟨aa, haa, rfl⟩ := isB_nat c_5 (by omega)
    obtain ⟨holda, eholda⟩ := hHo aa haa
    obtain ⟨sza, hsza, esza⟩ := hSz aa haa
    refine lv_iload_n hx hb dX7_copy_8 rfl (lv_at hl 3 rfl) ?_
    refine lv_iconst (v := nI 4) hx hb dX7_copy_9 (by decide) ?_
    refine j_csi [.int to_, .int (nI 4)] hC hB hl.1 (c_X7_isBelow l_ G I J O to_ 4 (by omega)) (va_cwS 2 hts gX7_copy_X7_isBelow rfl rfl rfl (by decide +kernel) ⟨by decide, by decide⟩) dX7_copy_10 rfl rfl (Nat.le_of_ble_eq_true rfl) (fun r_10 u_10 H locs hp_10 hB => ?_)
    obtain ⟨rfl, rfl⟩ := hp_10
    refine jb_if_ne (tgt := 18) hx hb dX7_copy_13 (by decide) (fun c_13 => ?_) (fun c_13 => ?_)
    · obtain ⟨bb, hbb, rfl⟩ := isB_nat c_13 (by omega)
      obtain ⟨holdb, eholdb⟩ := hHo bb hbb
      obtain ⟨szb, hszb, eszb⟩ := hSz bb hbb
      refine lv_aload_n hx hb dX7_copy_18 rfl (lv_at hl 0 rfl) ?_
      refine j_get (0, 0, 0) 9 (v := .ref (G.2.2.1 (14, 0, 0))) hC hB in_X7 lk_57 dX7_copy_19 jk0 rfl rfl (by decide) rfl ?_
      refine lv_iload_n hx hb dX7_copy_22 rfl (lv_at hl 1 rfl) ?_
      refine j_ald (14, 0, 0) (15, aa, 0) 6 aa hC hB dX7_copy_23 jk14 rfl rfl rfl (by omega) (by decide) rfl ?_
      refine lv_astore (lv' := [(6, .ref (G.2.2.1 (15, aa, 0))), (0, .ref (G.2.2.1 (0, 0, 0))), (1, .int (nI aa)), (2, .int i), (3, .int (nI bb)), (4, .int j), (5, .int n)]) hx hb dX7_copy_24 hl (by decide) rfl (fun ls hl => ?_)
      refine lv_aload_n hx hb dX7_copy_26 rfl (lv_at hl 1 rfl) ?_
      refine j_get (0, 0, 0) 9 (v := .ref (G.2.2.1 (14, 0, 0))) hC hB in_X7 lk_57 dX7_copy_27 jk0 rfl rfl (by decide) rfl ?_
      refine lv_iload_n hx hb dX7_copy_30 rfl (lv_at hl 4 rfl) ?_
      refine j_ald (14, 0, 0) (15, bb, 0) 6 bb hC hB dX7_copy_31 jk14 rfl rfl rfl (by omega) (by decide) rfl ?_
      refine lv_astore (lv' := [(7, .ref (G.2.2.1 (15, bb, 0))), (6, .ref (G.2.2.1 (15, aa, 0))), (0, .ref (G.2.2.1 (0, 0, 0))), (1, .int (nI aa)), (2, .int i), (3, .int (nI bb)), (4, .int j), (5, .int n)]) hx hb dX7_copy_32 hl (by decide) rfl (fun ls hl => ?_)
      refine lv_aload hx hb dX7_copy_34 (lv_at hl 1 rfl) ?_
      refine j_getN (15, aa, 0) 1 (v := .int (I 33 (3 * aa))) hC hB in_X5 ln_296 dX7_copy_36 (jk15 (by omega)) rfl rfl (by decide) rfl ?_
      refine j_eqi (x := I 33 (3 * aa)) (y := b2 holda) (eholda) ?_
      refine jb_if_eq (tgt := 50) hx hb dX7_copy_39 (by decide) (fun c_39 => ?_) (fun c_39 => ?_)
      · refine lv_bipush (v := (-11 : Int32)) hx hb dX7_copy_50 (by decide) ?_
        exact j_iret hC hB dX7_copy_52 (⟨by simp [cpyA, cpyF, tN, nIc (show aa < 2147483648 by omega), nIc (show bb < 2147483648 by omega), holdB_eq eholda, holdB_eq eholdb, c_5, c_13, c_39], by simp [cpyJ, cpyF, tN, nIc (show aa < 2147483648 by omega), nIc (show bb < 2147483648 by omega), holdB_eq eholda, holdB_eq eholdb, c_5, c_13, c_39]⟩)
      · refine lv_aload hx hb dX7_copy_42 (lv_at hl 0 rfl) ?_
        refine j_getN (15, bb, 0) 1 (v := .int (I 33 (3 * bb))) hC hB in_X5 ln_296 dX7_copy_44 (jk15 (by omega)) rfl rfl (by decide) rfl ?_
        refine j_eqi (x := I 33 (3 * bb)) (y := b2 holdb) (eholdb) ?_
        refine jb_if_ne (tgt := 53) hx hb dX7_copy_47 (by decide) (fun c_47 => ?_) (fun c_47 => ?_)
        · refine lv_aload hx hb dX7_copy_53 (lv_at hl 0 rfl) ?_
          refine lv_aload hx hb dX7_copy_55 (lv_at hl 1 rfl) ?_
          refine j_getN (15, aa, 0) 2 (v := .int (I 33 (3 * aa + 1))) hC hB in_X5 ln_300 dX7_copy_57 (jk15 (by omega)) rfl rfl (by decide) rfl ?_
          refine lv_iload hx hb dX7_copy_60 (lv_at hl 6 rfl) ?_
          refine lv_iload hx hb dX7_copy_62 (lv_at hl 7 rfl) ?_
          refine j_cvi (15, bb, 0) [.int ((I 33) (3 * aa + 1)), .int j, .int n] hC hB hl.1 (c_X5_faultOf l_ G I J O bb ((I 33) (3 * aa + 1)) j n (by omega) (eholdb)) (cwV 3 hts gX7_copy_X5_faultOf rfl rfl rfl (by decide +kernel) ⟨by decide, by decide⟩) dX7_copy_64 (jk15 (by omega)) rfl rfl rfl rfl (Nat.le_of_ble_eq_true rfl) (fun r_64 u_64 H locs hp_64 hB => ?_)
          obtain ⟨rfl, rfl⟩ := hp_64
          refine lv_istore (lv' := [(8, .int (flC (I 33) bb holdb ((I 33) (3 * aa + 1)) j n)), (7, .ref (G.2.2.1 (15, bb, 0))), (6, .ref (G.2.2.1 (15, aa, 0))), (0, .ref (G.2.2.1 (0, 0, 0))), (1, .int (nI aa)), (2, .int i), (3, .int (nI bb)), (4, .int j), (5, .int n)]) hx hb dX7_copy_67 hl (by decide) rfl (fun ls hl => ?_)
          refine lv_iload hx hb dX7_copy_69 (lv_at hl 0 rfl) ?_
          refine lv_if_ne (tgt := 89) hx hb dX7_copy_71 (by decide) (fun c_71 => ?_) (fun c_71 => ?_)
          · refine lv_iload hx hb dX7_copy_89 (lv_at hl 0 rfl) ?_
            refine lv_if_ge (tgt := 97) hx hb dX7_copy_91 (by decide) (fun c_91 => ?_) (fun c_91 => ?_)
            · exact absurd c_91 (flC_neg c_71)
            · refine lv_iload hx hb dX7_copy_94 (lv_at hl 0 rfl) ?_
              exact j_iret hC hB dX7_copy_96 (⟨by simp only [cpyA, cpyF, tN, nIc (show aa < 2147483648 by omega), nIc (show bb < 2147483648 by omega), holdB_eq eholda, holdB_eq eholdb, c_5, c_13, Bool.and_self, show (holda && holdb) = true from by rw [c_39, c_47]; rfl, if_true]; simp only [eq_false c_71, eq_false c_91, if_true, if_false], by simp only [cpyJ, cpyF, tN, nIc (show aa < 2147483648 by omega), nIc (show bb < 2147483648 by omega), holdB_eq eholda, holdB_eq eholdb, c_5, c_13, Bool.and_self, show (holda && holdb) = true from by rw [c_39, c_47]; rfl]; simp only [eq_false c_71, eq_false c_91, if_true, if_false, and_self, true_and, and_false, and_true]⟩)
          · refine lv_aload hx hb dX7_copy_74 (lv_at hl 2 rfl) ?_
            refine lv_aload hx hb dX7_copy_76 (lv_at hl 2 rfl) ?_
            refine j_getN (15, aa, 0) 2 (v := .int (I 33 (3 * aa + 1))) hC hB in_X5 ln_300 dX7_copy_78 (jk15 (by omega)) rfl rfl (by decide) rfl ?_
            refine lv_iload_n hx hb dX7_copy_81 rfl (lv_at hl 5 rfl) ?_
            refine lv_iload hx hb dX7_copy_82 (lv_at hl 8 rfl) ?_
            refine j_cvi (15, aa, 0) [.int ((I 33) (3 * aa + 1)), .int i, .int n] hC hB hl.1 (c_X5_faultOf l_ G I J O aa ((I 33) (3 * aa + 1)) i n (by omega) (eholda)) (cwV 3 hts gX7_copy_X5_faultOf rfl rfl rfl (by decide +kernel) ⟨by decide, by decide⟩) dX7_copy_84 (jk15 (by omega)) rfl rfl rfl rfl (Nat.le_of_ble_eq_true rfl) (fun r_84 u_84 H locs hp_84 hB => ?_)
            obtain ⟨rfl, rfl⟩ := hp_84
            refine lv_istore (lv' := [(8, .int (flC (I 33) aa holda ((I 33) (3 * aa + 1)) i n)), (7, .ref (G.2.2.1 (15, bb, 0))), (6, .ref (G.2.2.1 (15, aa, 0))), (0, .ref (G.2.2.1 (0, 0, 0))), (1, .int (nI aa)), (2, .int i), (3, .int (nI bb)), (4, .int j), (5, .int n)]) hx hb dX7_copy_87 hl (by decide) rfl (fun ls hl => ?_)
            refine lv_iload hx hb dX7_copy_89 (lv_at hl 0 rfl) ?_
            refine lv_if_ge (tgt := 97) hx hb dX7_copy_91 (by decide) (fun c_91 => ?_) (fun c_91 => ?_)
            · obtain ⟨-, -, x1, k1, hx1, rfl, rfl⟩ := flC_nat eszb hszb (show 0 ≤ flC (I 33) bb holdb (I 33 (3 * aa + 1)) j n from by rw [c_71]; decide)
              obtain ⟨-, -, x2, k2, hx2, rfl, ek⟩ := flC_nat esza hsza c_91
              have hkk : k1 = k2 := (nI_eq (by omega) (by omega)).mp ek
              refine lv_aload hx hb dX7_copy_97 (lv_at hl 2 rfl) ?_
              refine j_getN (15, aa, 0) 0 (v := .ref (G.2.2.1 (22, 2 + aa, 0))) hC hB in_X5 ln_303 dX7_copy_99 (jk15 (by omega)) rfl rfl (by decide) rfl ?_
              refine lv_iload_n hx hb dX7_copy_102 rfl (lv_at hl 5 rfl) ?_
              refine lv_aload hx hb dX7_copy_103 (lv_at hl 1 rfl) ?_
              refine j_getN (15, bb, 0) 0 (v := .ref (G.2.2.1 (22, 2 + bb, 0))) hC hB in_X5 ln_303 dX7_copy_105 (jk15 (by omega)) rfl rfl (by decide) rfl ?_
              refine lv_iload hx hb dX7_copy_108 (lv_at hl 7 rfl) ?_
              refine lv_iload hx hb dX7_copy_110 (lv_at hl 8 rfl) ?_
              refine j_cpL (2 + aa) (2 + bb) x2 x1 k1 hC hB hl.1 (hts (.methodLink RX7 306 arraycopyName) (by decide +kernel)) (hts (.native arraycopyName) (by decide +kernel)) (hts (.static arraycopyName) (by decide +kernel)) (hts (.initialized "java/lang/System") (by decide +kernel)) dX7_copy_112 (by omega) (by omega) (by rw [lenJ_s haa]; omega) (by rw [lenJ_s hbb]; omega) (by decide) (Nat.le_of_ble_eq_true rfl) (fun H locs hB => ?_)
              have hB : jB G A s_.heap (I, srJ J (2 + bb) (va_cpy (J (2 + aa)) (J (2 + bb)) x2 x1 k1), O) H locs := hB
              refine lv_iload hx hb dX7_copy_115 (lv_at hl 8 rfl) ?_
              exact j_iret hC hB dX7_copy_117 (⟨by simp only [cpyA, cpyF, tN, nIc (show aa < 2147483648 by omega), nIc (show bb < 2147483648 by omega), holdB_eq eholda, holdB_eq eholdb, c_5, c_13, Bool.and_self, show (holda && holdb) = true from by rw [c_39, c_47]; rfl, if_true]; simp only [eq_true c_71, eq_true c_91, if_true, if_false], by simp only [cpyJ, cpyF, tN, nIc (show aa < 2147483648 by omega), nIc (show bb < 2147483648 by omega), holdB_eq eholda, holdB_eq eholdb, c_5, c_13, Bool.and_self, show (holda && holdb) = true from by rw [c_39, c_47]; rfl, nIc (show x1 < 2147483648 by omega), nIc (show x2 < 2147483648 by omega), nIc (show k1 < 2147483648 by omega)]; simp only [eq_true c_71, eq_true c_91, if_true, if_false, and_self, true_and, and_false, and_true]⟩)
            · refine lv_iload hx hb dX7_copy_94 (lv_at hl 0 rfl) ?_
              exact j_iret hC hB dX7_copy_96 (⟨by simp only [cpyA, cpyF, tN, nIc (show aa < 2147483648 by omega), nIc (show bb < 2147483648 by omega), holdB_eq eholda, holdB_eq eholdb, c_5, c_13, Bool.and_self, show (holda && holdb) = true from by rw [c_39, c_47]; rfl, if_true]; simp only [eq_true c_71, eq_false c_91, if_true, if_false], by simp only [cpyJ, cpyF, tN, nIc (show aa < 2147483648 by omega), nIc (show bb < 2147483648 by omega), holdB_eq eholda, holdB_eq eholdb, c_5, c_13, Bool.and_self, show (holda && holdb) = true from by rw [c_39, c_47]; rfl]; simp only [eq_true c_71, eq_false c_91, if_true, if_false, and_self, true_and, and_false, and_true]⟩)
        · refine lv_bipush (v := (-11 : Int32)) hx hb dX7_copy_50 (by decide) ?_
          exact j_iret hC hB dX7_copy_52 (⟨by simp [cpyA, cpyF, tN, nIc (show aa < 2147483648 by omega), nIc (show bb < 2147483648 by omega), holdB_eq eholda, holdB_eq eholdb, c_5, c_13, c_39, c_47], by simp [cpyJ, cpyF, tN, nIc (show aa < 2147483648 by omega), nIc (show bb < 2147483648 by omega), holdB_eq eholda, holdB_eq eholdb, c_5, c_13, c_39, c_47]⟩)
    · refine lv_iconst (v := (-1 : Int32)) hx hb dX7_copy_16 (by decide) ?_
      exact j_iret hC hB dX7_copy_17 (⟨by simp [cpyA, c_5, c_13], by simp [cpyJ, c_5, c_13]⟩)
