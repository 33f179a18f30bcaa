set_option maxHeartbeats 4000000 in
set_option maxRecDepth 100000 in
theorem c_J0_isLatin1_aae02 (l_ : Launch) (G : jG) (I : Nat → Nat → Int32) (J : Nat → Nat → Int64) (O : Nat → Nat → Nat) (i : Nat) (hi : i < 4) : jMi l_ G yJ0_isLatin1_aae02 wsJ0_isLatin1_aae02 ({ frames := 0, cells := 0, slots := 0, locals := 0 }) [.ref (G.2.2.1 (30, i, 0))] (I, J, O) (fun r u => r = b2 (true) ∧ u = (I, J, O)) := by
  refine jMi_of (cc := cJ0_isLatin1_aae02) (maxL := 1) (ret := (some .boolean)) (lv0 := [(0, .ref (G.2.2.1 (30, i, 0)))]) (by decide) rfl (Nat.le_of_ble_eq_true rfl) rfl ?_
  intro pg_ ev_ s_ mi_ below meth cd_ A ls hC hB hl
  obtain ⟨hx, hb, hr, hml, hown, hts, hlocks, hK, hA⟩ := id hC
  have lk_38 := hts (.fieldLink RJ0 38 "java/lang/String" "COMPACT_STRINGS" "Z") (by decide +kernel)
  have lk_15 := hts (.fieldLink RJ0 15 "java/lang/String" "coder" "B") (by decide +kernel)
  refine j_tcs hC hB lk_38 dJ0_isLatin1_aae02_0 ?_
  refine jn_if_eq (tgt := 17) hx hb dJ0_isLatin1_aae02_3 (by decide) (by omega) (fun c_3 => ?_) (fun c_3 => ?_)
  · exact absurd c_3 (by decide)
  · refine lv_aload_n hx hb dJ0_isLatin1_aae02_6 rfl (lv_at hl 0 rfl) ?_
    refine j_tcod i (by omega) hC hB lk_15 dJ0_isLatin1_aae02_7 ?_
    refine jn_if_ne (tgt := 17) hx hb dJ0_isLatin1_aae02_10 (by decide) (by omega) (fun c_10 => ?_) (fun c_10 => ?_)
    · exact absurd rfl c_10
    · refine lv_iconst (v := nI 1) hx hb dJ0_isLatin1_aae02_13 (by decide) ?_
      refine lv_goto (tgt := 18) hx hb dJ0_isLatin1_aae02_14 (by decide) ?_
      exact j_zret hC hB dJ0_isLatin1_aae02_18 (by decide) (⟨rfl, rfl⟩)

set_option maxHeartbeats 4000000 in
set_option maxRecDepth 100000 in
theorem c_J0_coder_7d493 (l_ : Launch) (G : jG) (I : Nat → Nat → Int32) (J : Nat → Nat → Int64) (O : Nat → Nat → Nat) (i : Nat) (hi : i < 4) : jMi l_ G yJ0_coder_7d493 wsJ0_coder_7d493 ({ frames := 0, cells := 0, slots := 0, locals := 0 }) [.ref (G.2.2.1 (30, i, 0))] (I, J, O) (fun r u => r = nI 0 ∧ u = (I, J, O)) := by
  refine jMi_of (cc := cJ0_coder_7d493) (maxL := 1) (ret := (some .byte)) (lv0 := [(0, .ref (G.2.2.1 (30, i, 0)))]) (by decide) rfl (Nat.le_of_ble_eq_true rfl) rfl ?_
  intro pg_ ev_ s_ mi_ below meth cd_ A ls hC hB hl
  obtain ⟨hx, hb, hr, hml, hown, hts, hlocks, hK, hA⟩ := id hC
  have lk_38 := hts (.fieldLink RJ0 38 "java/lang/String" "COMPACT_STRINGS" "Z") (by decide +kernel)
  have lk_15 := hts (.fieldLink RJ0 15 "java/lang/String" "coder" "B") (by decide +kernel)
  refine j_tcs hC hB lk_38 dJ0_coder_7d493_0 ?_
  refine jn_if_eq (tgt := 13) hx hb dJ0_coder_7d493_3 (by decide) (by omega) (fun c_3 => ?_) (fun c_3 => ?_)
  · exact absurd c_3 (by decide)
  · refine lv_aload_n hx hb dJ0_coder_7d493_6 rfl (lv_at hl 0 rfl) ?_
    refine j_tcod i (by omega) hC hB lk_15 dJ0_coder_7d493_7 ?_
    refine lv_goto (tgt := 14) hx hb dJ0_coder_7d493_10 (by decide) ?_
    exact j_bret hC hB dJ0_coder_7d493_14 rfl (⟨rfl, rfl⟩)

set_option maxHeartbeats 4000000 in
set_option maxRecDepth 100000 in
theorem c_J0_length_8abf5 (l_ : Launch) (G : jG) (I : Nat → Nat → Int32) (J : Nat → Nat → Int64) (O : Nat → Nat → Nat) (i : Nat) (hi : i < 4) : jMi l_ G yJ0_length_8abf5 wsJ0_length_8abf5 ({ frames := 1, cells := 0, slots := 0, locals := 20 }) [.ref (G.2.2.1 (30, i, 0))] (I, J, O) (fun r u => r = nI (jtL.getD i 0) ∧ u = (I, J, O)) := by
  refine jMi_of (cc := cJ0_length_8abf5) (maxL := 1) (ret := (some .int)) (lv0 := [(0, .ref (G.2.2.1 (30, i, 0)))]) (by decide) rfl (Nat.le_of_ble_eq_true rfl) rfl ?_
  intro pg_ ev_ s_ mi_ below meth cd_ A ls hC hB hl
  obtain ⟨hx, hb, hr, hml, hown, hts, hlocks, hK, hA⟩ := id hC
  have lk_9 := hts (.fieldLink RJ0 9 "java/lang/String" "value" "[B") (by decide +kernel)
  refine lv_aload_n hx hb dJ0_length_8abf5_0 rfl (lv_at hl 0 rfl) ?_
  refine j_tval i (by omega) hC hB lk_9 dJ0_length_8abf5_1 ?_
  refine j_tlen i (by omega) hC hB dJ0_length_8abf5_4 ?_
  refine lv_aload_n hx hb dJ0_length_8abf5_5 rfl (lv_at hl 0 rfl) ?_
  refine j_tcvi i [] (by omega) hC hB hl.1 (c_J0_coder_7d493 l_ G I J O i (by omega)) (cwV 0 hts gJ0_length_8abf5_J0_coder_7d493 rfl rfl rfl (by decide +kernel) ⟨by decide, by decide⟩) dJ0_length_8abf5_6 rfl rfl (Nat.le_of_ble_eq_true rfl) (fun r_6 u_6 H locs hp_6 hB => ?_)
  obtain ⟨rfl, rfl⟩ := hp_6
  refine lv_ishr hx hb dJ0_length_8abf5_9 ?_
  refine j_eqi (y := nI (jtL.getD i 0)) (sh0 i hi) ?_
  exact j_iret hC hB dJ0_length_8abf5_10 (⟨rfl, rfl⟩)

set_option maxHeartbeats 4000000 in
set_option maxRecDepth 100000 in
theorem c_J1_canEncode_9a6ad (l_ : Launch) (G : jG) (I : Nat → Nat → Int32) (J : Nat → Nat → Int64) (O : Nat → Nat → Nat) (x : Int32) : jMi l_ G yJ1_canEncode_9a6ad wsJ1_canEncode_9a6ad ({ frames := 0, cells := 0, slots := 0, locals := 0 }) [.int x] (I, J, O) (fun r u => r = b2 ((!decide (x < 0) && !decide (nI 255 < x))) ∧ u = (I, J, O)) := by
  refine jMi_of (cc := cJ1_canEncode_9a6ad) (maxL := 1) (ret := (some .boolean)) (lv0 := [(0, .int x)]) (by decide) rfl (Nat.le_of_ble_eq_true rfl) rfl ?_
  intro pg_ ev_ s_ mi_ below meth cd_ A ls hC hB hl
  obtain ⟨hx, hb, hr, hml, hown, hts, hlocks, hK, hA⟩ := id hC
  refine lv_iload_n hx hb dJ1_canEncode_9a6ad_0 rfl (lv_at hl 0 rfl) ?_
  refine lv_if_lt (tgt := 15) hx hb dJ1_canEncode_9a6ad_1 (by decide) (fun c_1 => ?_) (fun c_1 => ?_)
  · refine lv_iconst (v := nI 0) hx hb dJ1_canEncode_9a6ad_15 (by decide) ?_
    exact j_zret hC hB dJ1_canEncode_9a6ad_16 (by decide) (⟨by simp [b2, c_1], rfl⟩)
  · refine lv_iload_n hx hb dJ1_canEncode_9a6ad_4 rfl (lv_at hl 0 rfl) ?_
    refine lv_sipush (v := nI 255) hx hb dJ1_canEncode_9a6ad_5 (by decide) ?_
    refine lv_icmp_gt (tgt := 15) hx hb dJ1_canEncode_9a6ad_8 (by decide) (fun c_8 => ?_) (fun c_8 => ?_)
    · refine lv_iconst (v := nI 0) hx hb dJ1_canEncode_9a6ad_15 (by decide) ?_
      exact j_zret hC hB dJ1_canEncode_9a6ad_16 (by decide) (⟨by simp [b2, c_1, c_8], rfl⟩)
    · refine lv_iconst (v := nI 1) hx hb dJ1_canEncode_9a6ad_11 (by decide) ?_
      refine lv_goto (tgt := 16) hx hb dJ1_canEncode_9a6ad_12 (by decide) ?_
      exact j_zret hC hB dJ1_canEncode_9a6ad_16 (by decide) (⟨by simp [b2, c_1, c_8], rfl⟩)

set_option maxHeartbeats 4000000 in
set_option maxRecDepth 100000 in
theorem c_J1_indexOfChar_4cfef (l_ : Launch) (G : jG) (I : Nat → Nat → Int32) (J : Nat → Nat → Int64) (O : Nat → Nat → Nat) (i : Nat) (x : Int32) (fr to_ : Nat) (hi : i < 4) (hto : to_ ≤ jtL.getD i 0) (hft : fr ≤ to_) : jMi l_ G yJ1_indexOfChar_4cfef wsJ1_indexOfChar_4cfef ({ frames := 0, cells := 0, slots := 0, locals := 0 }) [.ref (G.2.2.1 (31, i, 0)), .int x, .int (nI fr), .int (nI to_)] (I, J, O) (fun r u => r = sxI (txP i x) (to_ - fr) fr ∧ u = (I, J, O)) := by
  refine jMi_of (cc := cJ1_indexOfChar_4cfef) (maxL := 6) (ret := (some .int)) (lv0 := [(0, .ref (G.2.2.1 (31, i, 0))), (1, .int x), (2, .int (nI fr)), (3, .int (nI to_))]) (by decide) rfl (Nat.le_of_ble_eq_true rfl) rfl ?_
  intro pg_ ev_ s_ mi_ below meth cd_ A ls hC hB hl
  obtain ⟨hx, hb, hr, hml, hown, hts, hlocks, hK, hA⟩ := id hC
  have hl10 := jtL_lt i hi
  refine lv_iload_n hx hb dJ1_indexOfChar_4cfef_0 rfl (lv_at hl 1 rfl) ?_
  refine lv_i2b (v := x.toInt8.toInt32) hx hb dJ1_indexOfChar_4cfef_1 rfl ?_
  refine lv_istore (lv' := [(4, .int x.toInt8.toInt32), (0, .ref (G.2.2.1 (31, i, 0))), (1, .int x), (2, .int (nI fr)), (3, .int (nI to_))]) hx hb dJ1_indexOfChar_4cfef_2 hl (by decide) rfl (fun ls hl => ?_)
  refine lv_iload_n hx hb dJ1_indexOfChar_4cfef_4 rfl (lv_at hl 3 rfl) ?_
  refine lv_istore (lv' := [(5, .int (nI fr)), (4, .int x.toInt8.toInt32), (0, .ref (G.2.2.1 (31, i, 0))), (1, .int x), (2, .int (nI fr)), (3, .int (nI to_))]) hx hb dJ1_indexOfChar_4cfef_5 hl (by decide) rfl (fun ls hl => ?_)
  have lp_7 : ∀ (fu : Nat) (k : Nat), to_ - k < fu → (fr ≤ k) → (k ≤ to_) → (sxI (txP i x) (to_ - k) k = sxI (txP i x) (to_ - fr) fr) → ∀ H locs ls, jB G A s_.heap (I, J, O) H locs → lv_has ls 6 [(5, .int (nI k)), (4, .int x.toInt8.toInt32), (0, .ref (G.2.2.1 (31, i, 0))), (1, .int x), (2, .int (nI fr)), (3, .int (nI to_))] → W pg_ l_ ev_ ({ frames := 0, cells := 0, slots := 0, locals := 0 }) s_ mi_ ([.ref (G.2.2.1 (31, i, 0)), .int x, .int (nI fr), .int (nI to_)]).toArray below meth cd_ H locs 0 0 (jQi G A below [.ref (G.2.2.1 (31, i, 0)), .int x, .int (nI fr), .int (nI to_)] s_ (fun r u => r = sxI (txP i x) (to_ - fr) fr ∧ u = (I, J, O))) (F0 mi_ 7 ls []) := by
    intro fu
    induction fu with
    | zero => intro k hf; exact absurd hf (Nat.not_lt_zero _)
    | succ fu ih_7 =>
      intro k hf_7 hk1 hk hs H locs ls hB hl
      refine lv_iload hx hb dJ1_indexOfChar_4cfef_7 (lv_at hl 0 rfl) ?_
      refine lv_iload_n hx hb dJ1_indexOfChar_4cfef_9 rfl (lv_at hl 5 rfl) ?_
      refine jn_icmp_ge (tgt := 31) hx hb dJ1_indexOfChar_4cfef_10 (by decide) (by omega) (by omega) (fun c_10 => ?_) (fun c_10 => ?_)
      · refine lv_iconst (v := (-1 : Int32)) hx hb dJ1_indexOfChar_4cfef_31 (by decide) ?_
        exact j_iret hC hB dJ1_indexOfChar_4cfef_32 (⟨by rw [← hs, show to_ - k = 0 by omega]; rfl, rfl⟩)
      · refine lv_aload_n hx hb dJ1_indexOfChar_4cfef_13 rfl (lv_at hl 2 rfl) ?_
        refine lv_iload hx hb dJ1_indexOfChar_4cfef_14 (lv_at hl 0 rfl) ?_
        refine j_tb i k (by omega) hC hB dJ1_indexOfChar_4cfef_16 rfl (by omega) ?_
        refine lv_iload hx hb dJ1_indexOfChar_4cfef_17 (lv_at hl 1 rfl) ?_
        refine lv_icmp_ne (tgt := 25) hx hb dJ1_indexOfChar_4cfef_19 (by decide) (fun c_19 => ?_) (fun c_19 => ?_)
        · refine lv_iinc (v := nI (k + 1)) (lv' := [(5, .int (nI (k + 1))), (4, .int x.toInt8.toInt32), (0, .ref (G.2.2.1 (31, i, 0))), (1, .int x), (2, .int (nI fr)), (3, .int (nI to_))]) hx hb dJ1_indexOfChar_4cfef_25 hl (k := 0) rfl (jn_inc _ 1) (by decide) rfl (fun ls hl => ?_)
          refine lv_goto (tgt := 7) hx hb dJ1_indexOfChar_4cfef_28 (by decide) ?_
          exact ih_7 (k + 1) (by omega) (by omega) (by omega) (by rw [← hs]; exact (sxI_no (by omega) (by simp only [txP]; exact decide_eq_false c_19)).symm) _ _ _ hB (lv_sub hl [0, 1, 2, 3, 4, 5] rfl)
        · refine lv_iload hx hb dJ1_indexOfChar_4cfef_22 (lv_at hl 0 rfl) ?_
          exact j_iret hC hB dJ1_indexOfChar_4cfef_24 (⟨by rw [← hs]; exact (sxI_yes (by omega) (by simp only [txP]; exact decide_eq_true c_19)).symm, rfl⟩)
  exact lp_7 _ fr (Nat.lt_succ_self _) (by omega) (by omega) (rfl) _ _ _ hB (lv_sub hl [0, 1, 2, 3, 4, 5] rfl)

set_option maxHeartbeats 4000000 in
set_option maxRecDepth 100000 in
theorem c_J1_indexOf_4cfef (l_ : Launch) (G : jG) (I : Nat → Nat → Int32) (J : Nat → Nat → Int64) (O : Nat → Nat → Nat) (i : Nat) (x : Int32) (to_ : Nat) (hi : i < 4) (hto : to_ = jtL.getD i 0) : jMi l_ G yJ1_indexOf_4cfef wsJ1_indexOf_4cfef ({ frames := 1, cells := 0, slots := 0, locals := 30 }) [.ref (G.2.2.1 (31, i, 0)), .int x, .int (nI 0), .int (nI to_)] (I, J, O) (fun r u => r = txO i x ∧ u = (I, J, O)) := by
  refine jMi_of (cc := cJ1_indexOf_4cfef) (maxL := 4) (ret := (some .int)) (lv0 := [(0, .ref (G.2.2.1 (31, i, 0))), (1, .int x), (2, .int (nI 0)), (3, .int (nI to_))]) (by decide) rfl (Nat.le_of_ble_eq_true rfl) rfl ?_
  intro pg_ ev_ s_ mi_ below meth cd_ A ls hC hB hl
  obtain ⟨hx, hb, hr, hml, hown, hts, hlocks, hK, hA⟩ := id hC
  have hl10 := jtL_lt i hi
  have hl0 := jtL_pos i hi
  refine lv_iload_n hx hb dJ1_indexOf_4cfef_0 rfl (lv_at hl 1 rfl) ?_
  refine j_csi [.int x] hC hB hl.1 (c_J1_canEncode_9a6ad l_ G I J O x) (va_cwS 1 hts gJ1_indexOf_4cfef_J1_canEncode_9a6ad rfl rfl rfl (by decide +kernel) ⟨by decide, by decide⟩) dJ1_indexOf_4cfef_1 rfl rfl (Nat.le_of_ble_eq_true rfl) (fun r_1 u_1 H locs hp_1 hB => ?_)
  obtain ⟨rfl, rfl⟩ := hp_1
  refine jb_if_ne (tgt := 9) hx hb dJ1_indexOf_4cfef_4 (by decide) (fun c_4 => ?_) (fun c_4 => ?_)
  · refine lv_iload_n hx hb dJ1_indexOf_4cfef_9 rfl (lv_at hl 2 rfl) ?_
    refine lv_iconst (v := nI 0) hx hb dJ1_indexOf_4cfef_10 (by decide) ?_
    refine va_mmax hx hb (by rw [hml]; exact hl.1.symm) hown (hts (.methodLink RJ1 92 Lib.Math.max.name) (by decide +kernel)) (hts (.static Lib.Math.max.name) (by decide +kernel)) (hts (.initialized "java/lang/Math") (by decide +kernel)) (hts (.code Lib.Math.max.name Lib.Math.max.code 2 (some .int)) (by decide +kernel)) (by decide) (Nat.le_of_ble_eq_true rfl) (Nat.zero_le _) (Nat.zero_le _) dJ1_indexOf_4cfef_11 ?_
    refine j_eqi (y := nI 0) (ite_self _) ?_
    refine lv_istore_n (lv' := [(2, .int (nI 0)), (0, .ref (G.2.2.1 (31, i, 0))), (1, .int x), (3, .int (nI to_))]) hx hb dJ1_indexOf_4cfef_14 rfl hl (by decide) rfl (fun ls hl => ?_)
    refine lv_iload_n hx hb dJ1_indexOf_4cfef_15 rfl (lv_at hl 3 rfl) ?_
    refine lv_aload_n hx hb dJ1_indexOf_4cfef_16 rfl (lv_at hl 1 rfl) ?_
    refine j_tlen i (by omega) hC hB dJ1_indexOf_4cfef_17 ?_
    refine va_mmin hx hb (by rw [hml]; exact hl.1.symm) hown (hts (.methodLink RJ1 38 Lib.Math.min.name) (by decide +kernel)) (hts (.static Lib.Math.min.name) (by decide +kernel)) (hts (.initialized "java/lang/Math") (by decide +kernel)) (hts (.code Lib.Math.min.name Lib.Math.min.code 2 (some .int)) (by decide +kernel)) (by decide) (Nat.le_of_ble_eq_true rfl) (Nat.zero_le _) (Nat.zero_le _) dJ1_indexOf_4cfef_18 ?_
    refine j_eqi (y := nI to_) (by rw [← hto]; exact ite_self _) ?_
    refine lv_istore_n (lv' := [(3, .int (nI to_)), (2, .int (nI 0)), (0, .ref (G.2.2.1 (31, i, 0))), (1, .int x)]) hx hb dJ1_indexOf_4cfef_21 rfl hl (by decide) rfl (fun ls hl => ?_)
    refine lv_iload_n hx hb dJ1_indexOf_4cfef_22 rfl (lv_at hl 1 rfl) ?_
    refine lv_iload_n hx hb dJ1_indexOf_4cfef_23 rfl (lv_at hl 0 rfl) ?_
    refine jn_icmp_lt (tgt := 29) hx hb dJ1_indexOf_4cfef_24 (by decide) (by omega) (by omega) (fun c_24 => ?_) (fun c_24 => ?_)
    · refine lv_aload_n hx hb dJ1_indexOf_4cfef_29 rfl (lv_at hl 2 rfl) ?_
      refine lv_iload_n hx hb dJ1_indexOf_4cfef_30 rfl (lv_at hl 3 rfl) ?_
      refine lv_iload_n hx hb dJ1_indexOf_4cfef_31 rfl (lv_at hl 1 rfl) ?_
      refine lv_iload_n hx hb dJ1_indexOf_4cfef_32 rfl (lv_at hl 0 rfl) ?_
      refine j_csi [.ref (G.2.2.1 (31, i, 0)), .int x, .int (nI 0), .int (nI to_)] hC hB hl.1 (c_J1_indexOfChar_4cfef l_ G I J O i x 0 to_ (by omega) (by omega) (by omega)) (va_cwS 4 hts gJ1_indexOf_4cfef_J1_indexOfChar_4cfef rfl rfl rfl (by decide +kernel) ⟨by decide, by decide⟩) dJ1_indexOf_4cfef_33 rfl rfl (Nat.le_of_ble_eq_true rfl) (fun r_33 u_33 H locs hp_33 hB => ?_)
      obtain ⟨rfl, rfl⟩ := hp_33
      exact j_iret hC hB dJ1_indexOf_4cfef_36 (⟨by simp only [txO]; rw [if_pos c_4, ← hto]; rfl, rfl⟩)
    · exfalso; omega
  · refine lv_iconst (v := (-1 : Int32)) hx hb dJ1_indexOf_4cfef_7 (by decide) ?_
    exact j_iret hC hB dJ1_indexOf_4cfef_8 (⟨by simp only [txO]; rw [if_neg (by rw [c_4]; decide)], rfl⟩)

set_option maxHeartbeats 4000000 in
set_option maxRecDepth 100000 in
theorem c_J0_indexOf_7cf53 (l_ : Launch) (G : jG) (I : Nat → Nat → Int32) (J : Nat → Nat → Int64) (O : Nat → Nat → Nat) (i : Nat) (x : Int32) (hi : i < 4) : jMi l_ G yJ0_indexOf_7cf53 wsJ0_indexOf_7cf53 ({ frames := 2, cells := 0, slots := 0, locals := 53 }) [.ref (G.2.2.1 (30, i, 0)), .int x, .int (nI 0)] (I, J, O) (fun r u => r = txO i x ∧ u = (I, J, O)) := by
  refine jMi_of (cc := cJ0_indexOf_7cf53) (maxL := 3) (ret := (some .int)) (lv0 := [(0, .ref (G.2.2.1 (30, i, 0))), (1, .int x), (2, .int (nI 0))]) (by decide) rfl (Nat.le_of_ble_eq_true rfl) rfl ?_
  intro pg_ ev_ s_ mi_ below meth cd_ A ls hC hB hl
  obtain ⟨hx, hb, hr, hml, hown, hts, hlocks, hK, hA⟩ := id hC
  have lk_9 := hts (.fieldLink RJ0 9 "java/lang/String" "value" "[B") (by decide +kernel)
  refine lv_aload_n hx hb dJ0_indexOf_7cf53_0 rfl (lv_at hl 0 rfl) ?_
  refine j_tcvi i [] (by omega) hC hB hl.1 (c_J0_isLatin1_aae02 l_ G I J O i (by omega)) (cwV 0 hts gJ0_indexOf_7cf53_J0_isLatin1_aae02 rfl rfl rfl (by decide +kernel) ⟨by decide, by decide⟩) dJ0_indexOf_7cf53_1 rfl rfl (Nat.le_of_ble_eq_true rfl) (fun r_1 u_1 H locs hp_1 hB => ?_)
  obtain ⟨rfl, rfl⟩ := hp_1
  refine jb_if_eq (tgt := 23) hx hb dJ0_indexOf_7cf53_4 (by decide) (fun c_4 => ?_) (fun c_4 => ?_)
  · exact absurd c_4 (by decide)
  · refine lv_aload_n hx hb dJ0_indexOf_7cf53_7 rfl (lv_at hl 0 rfl) ?_
    refine j_tval i (by omega) hC hB lk_9 dJ0_indexOf_7cf53_8 ?_
    refine lv_iload_n hx hb dJ0_indexOf_7cf53_11 rfl (lv_at hl 1 rfl) ?_
    refine lv_iload_n hx hb dJ0_indexOf_7cf53_12 rfl (lv_at hl 2 rfl) ?_
    refine lv_aload_n hx hb dJ0_indexOf_7cf53_13 rfl (lv_at hl 0 rfl) ?_
    refine j_tcvi i [] (by omega) hC hB hl.1 (c_J0_length_8abf5 l_ G I J O i (by omega)) (cwV 0 hts gJ0_indexOf_7cf53_J0_length_8abf5 rfl rfl rfl (by decide +kernel) ⟨by decide, by decide⟩) dJ0_indexOf_7cf53_14 rfl rfl (Nat.le_of_ble_eq_true rfl) (fun r_14 u_14 H locs hp_14 hB => ?_)
    obtain ⟨rfl, rfl⟩ := hp_14
    refine j_csi [.ref (G.2.2.1 (31, i, 0)), .int x, .int (nI 0), .int (nI (jtL.getD i 0))] hC hB hl.1 (c_J1_indexOf_4cfef l_ G I J O i x (jtL.getD i 0) (by omega) (by omega)) (va_cwS 4 hts gJ0_indexOf_7cf53_J1_indexOf_4cfef rfl rfl rfl (by decide +kernel) ⟨by decide, by decide⟩) dJ0_indexOf_7cf53_17 rfl rfl (Nat.le_of_ble_eq_true rfl) (fun r_17 u_17 H locs hp_17 hB => ?_)
    obtain ⟨rfl, rfl⟩ := hp_17
    refine lv_goto (tgt := 36) hx hb dJ0_indexOf_7cf53_20 (by decide) ?_
    exact j_iret hC hB dJ0_indexOf_7cf53_36 (⟨rfl, rfl⟩)

set_option maxHeartbeats 4000000 in
set_option maxRecDepth 100000 in
theorem c_J0_indexOf_0f7a4 (l_ : Launch) (G : jG) (I : Nat → Nat → Int32) (J : Nat → Nat → Int64) (O : Nat → Nat → Nat) (i : Nat) (x : Int32) (hi : i < 4) : jMi l_ G yJ0_indexOf_0f7a4 wsJ0_indexOf_0f7a4 ({ frames := 3, cells := 0, slots := 0, locals := 75 }) [.ref (G.2.2.1 (30, i, 0)), .int x] (I, J, O) (fun r u => r = txO i x ∧ u = (I, J, O)) := by
  refine jMi_of (cc := cJ0_indexOf_0f7a4) (maxL := 2) (ret := (some .int)) (lv0 := [(0, .ref (G.2.2.1 (30, i, 0))), (1, .int x)]) (by decide) rfl (Nat.le_of_ble_eq_true rfl) rfl ?_
  intro pg_ ev_ s_ mi_ below meth cd_ A ls hC hB hl
  obtain ⟨hx, hb, hr, hml, hown, hts, hlocks, hK, hA⟩ := id hC
  refine lv_aload_n hx hb dJ0_indexOf_0f7a4_0 rfl (lv_at hl 0 rfl) ?_
  refine lv_iload_n hx hb dJ0_indexOf_0f7a4_1 rfl (lv_at hl 1 rfl) ?_
  refine lv_iconst (v := nI 0) hx hb dJ0_indexOf_0f7a4_2 (by decide) ?_
  refine j_tcvi i [.int x, .int (nI 0)] (by omega) hC hB hl.1 (c_J0_indexOf_7cf53 l_ G I J O i x (by omega)) (cwV 2 hts gJ0_indexOf_0f7a4_J0_indexOf_7cf53 rfl rfl rfl (by decide +kernel) ⟨by decide, by decide⟩) dJ0_indexOf_0f7a4_3 rfl rfl (Nat.le_of_ble_eq_true rfl) (fun r_3 u_3 H locs hp_3 hB => ?_)
  obtain ⟨rfl, rfl⟩ := hp_3
  exact j_iret hC hB dJ0_indexOf_0f7a4_6 (⟨rfl, rfl⟩)
