set_option maxHeartbeats 4000000 in
set_option maxRecDepth 100000 in
theorem c_X0_isAt (l_ : Launch) (G : jG) (I : Nat → Nat → Int32) (J : Nat → Nat → Int64) (O : Nat → Nat → Nat) (q d : Nat) (cell : Int32) (hq : jok (4, q, d)) : jMi l_ G yX0_isAt wsX0_isAt ({ frames := 0, cells := 0, slots := 0, locals := 0 }) [.ref (G.2.2.1 (4, q, d)), .int cell] (I, J, O) (fun r u => r = b2 (atB (I q) d cell) ∧ u = (I, J, O)) := by
  refine jMi_of (cc := cX0_isAt) (maxL := 2) (ret := (some .boolean)) (lv0 := [(0, .ref (G.2.2.1 (4, q, d))), (1, .int cell)]) (by decide) rfl (Nat.le_of_ble_eq_true rfl) rfl ?_
  intro pg_ ev_ s_ mi_ below meth cd_ A ls hC hB hl
  obtain ⟨hx, hb, hr, hml, hown, hts, hlocks, hK, hA⟩ := id hC
  have lk_7 := hts (.fieldLink RX0 7 "RiddlePrison$Door" "first" "I") (by decide +kernel)
  have lk_13 := hts (.fieldLink RX0 13 "RiddlePrison$Door" "other" "I") (by decide +kernel)
  have in_X0 := (fun w h => List.mem_cons_of_mem _ (List.mem_append_right _ h) : ∀ w ∈ wsX00, w ∈ wsX0_isAt)
  refine lv_aload_n hx hb dX0_isAt_0 rfl (lv_at hl 0 rfl) ?_
  refine j_get (4, q, d) 0 (v := .int (I q (11 + d))) hC hB in_X0 lk_7 dX0_isAt_1 hq rfl rfl (by decide) rfl ?_
  refine lv_iload_n hx hb dX0_isAt_4 rfl (lv_at hl 1 rfl) ?_
  refine lv_icmp_eq (tgt := 16) hx hb dX0_isAt_5 (by decide) (fun c_5 => ?_) (fun c_5 => ?_)
  · refine lv_iconst (v := nI 1) hx hb dX0_isAt_16 (by decide) ?_
    refine lv_goto (tgt := 21) hx hb dX0_isAt_17 (by decide) ?_
    exact j_zret hC hB dX0_isAt_21 (by decide) (⟨by simp [atB, b2, eq_true c_5], rfl⟩)
  · refine lv_aload_n hx hb dX0_isAt_8 rfl (lv_at hl 0 rfl) ?_
    refine j_get (4, q, d) 1 (v := .int (I q (21 + d))) hC hB in_X0 lk_13 dX0_isAt_9 hq rfl rfl (by decide) rfl ?_
    refine lv_iload_n hx hb dX0_isAt_12 rfl (lv_at hl 1 rfl) ?_
    refine lv_icmp_ne (tgt := 20) hx hb dX0_isAt_13 (by decide) (fun c_13 => ?_) (fun c_13 => ?_)
    · refine lv_iconst (v := nI 0) hx hb dX0_isAt_20 (by decide) ?_
      exact j_zret hC hB dX0_isAt_21 (by decide) (⟨by simp [atB, b2, c_5, c_13], rfl⟩)
    · refine lv_iconst (v := nI 1) hx hb dX0_isAt_16 (by decide) ?_
      refine lv_goto (tgt := 21) hx hb dX0_isAt_17 (by decide) ?_
      exact j_zret hC hB dX0_isAt_21 (by decide) (⟨by simp [atB, b2, c_5, eq_true c_13], rfl⟩)

set_option maxHeartbeats 4000000 in
set_option maxRecDepth 100000 in
theorem c_X0_beyond (l_ : Launch) (G : jG) (I : Nat → Nat → Int32) (J : Nat → Nat → Int64) (O : Nat → Nat → Nat) (q d : Nat) (cell : Int32) (hq : jok (4, q, d)) : jMi l_ G yX0_beyond wsX0_beyond ({ frames := 0, cells := 0, slots := 0, locals := 0 }) [.ref (G.2.2.1 (4, q, d)), .int cell] (I, J, O) (fun r u => r = beF (I q) d cell ∧ u = (I, J, O)) := by
  refine jMi_of (cc := cX0_beyond) (maxL := 2) (ret := (some .int)) (lv0 := [(0, .ref (G.2.2.1 (4, q, d))), (1, .int cell)]) (by decide) rfl (Nat.le_of_ble_eq_true rfl) rfl ?_
  intro pg_ ev_ s_ mi_ below meth cd_ A ls hC hB hl
  obtain ⟨hx, hb, hr, hml, hown, hts, hlocks, hK, hA⟩ := id hC
  have lk_7 := hts (.fieldLink RX0 7 "RiddlePrison$Door" "first" "I") (by decide +kernel)
  have lk_13 := hts (.fieldLink RX0 13 "RiddlePrison$Door" "other" "I") (by decide +kernel)
  have in_X0 := (fun w h => List.mem_cons_of_mem _ (List.mem_append_right _ h) : ∀ w ∈ wsX00, w ∈ wsX0_beyond)
  refine lv_iload_n hx hb dX0_beyond_0 rfl (lv_at hl 1 rfl) ?_
  refine lv_aload_n hx hb dX0_beyond_1 rfl (lv_at hl 0 rfl) ?_
  refine j_get (4, q, d) 0 (v := .int (I q (11 + d))) hC hB in_X0 lk_7 dX0_beyond_2 hq rfl rfl (by decide) rfl ?_
  refine lv_icmp_ne (tgt := 15) hx hb dX0_beyond_5 (by decide) (fun c_5 => ?_) (fun c_5 => ?_)
  · refine lv_aload_n hx hb dX0_beyond_15 rfl (lv_at hl 0 rfl) ?_
    refine j_get (4, q, d) 0 (v := .int (I q (11 + d))) hC hB in_X0 lk_7 dX0_beyond_16 hq rfl rfl (by decide) rfl ?_
    exact j_iret hC hB dX0_beyond_19 (⟨by simp [beF, c_5], rfl⟩)
  · refine lv_aload_n hx hb dX0_beyond_8 rfl (lv_at hl 0 rfl) ?_
    refine j_get (4, q, d) 1 (v := .int (I q (21 + d))) hC hB in_X0 lk_13 dX0_beyond_9 hq rfl rfl (by decide) rfl ?_
    refine lv_goto (tgt := 19) hx hb dX0_beyond_12 (by decide) ?_
    exact j_iret hC hB dX0_beyond_19 (⟨by simp [beF, eq_true c_5], rfl⟩)

set_option maxHeartbeats 4000000 in
set_option maxRecDepth 100000 in
theorem c_X3_powerAt (l_ : Launch) (G : jG) (I : Nat → Nat → Int32) (J : Nat → Nat → Int64) (O : Nat → Nat → Nat) (p m q d : Nat) (hp : jok (5, p, m)) (hq : jok (4, q, d)) : jMi l_ G yX3_powerAt wsX3_powerAt ({ frames := 1, cells := 0, slots := 0, locals := 30 }) [.ref (G.2.2.1 (5, p, m)), .ref (G.2.2.1 (4, q, d))] (I, J, O) (fun r u => r = pwM (I q) (I p) m d ∧ u = (I, J, O)) := by
  refine jMi_of (cc := cX3_powerAt) (maxL := 4) (ret := (some .int)) (lv0 := [(0, .ref (G.2.2.1 (5, p, m))), (1, .ref (G.2.2.1 (4, q, d)))]) (by decide) rfl (Nat.le_of_ble_eq_true rfl) rfl ?_
  intro pg_ ev_ s_ mi_ below meth cd_ A ls hC hB hl
  obtain ⟨hx, hb, hr, hml, hown, hts, hlocks, hK, hA⟩ := id hC
  have ln_28 := (by decide +kernel : Cond.fieldLinkNest RX3 28 "RiddlePrison$Door" "sort" "I" "RiddlePrison" ∈ nsW)
  have lk_16 := hts (.fieldLink RX3 16 "RiddlePrison$Man" "own" "I") (by decide +kernel)
  have lk_13 := hts (.fieldLink RX3 13 "RiddlePrison$Man" "wit" "I") (by decide +kernel)
  have lk_19 := hts (.fieldLink RX3 19 "RiddlePrison$Man" "cell" "I") (by decide +kernel)
  have lk_7 := hts (.fieldLink RX3 7 "RiddlePrison$Man" "kind" "I") (by decide +kernel)
  have lk_25 := hts (.fieldLink RX3 25 "RiddlePrison$Man" "failed" "I") (by decide +kernel)
  have in_X0 := (fun w h => List.mem_cons_of_mem _ (List.mem_append_left _ (List.mem_append_right _ h)) : ∀ w ∈ wsX00, w ∈ wsX3_powerAt)
  have in_X3 := (fun w h => List.mem_cons_of_mem _ (List.mem_append_right _ h) : ∀ w ∈ wsX30, w ∈ wsX3_powerAt)
  refine lv_aload_n hx hb dX3_powerAt_0 rfl (lv_at hl 1 rfl) ?_
  refine j_getN (4, q, d) 2 (v := .int (I q (31 + d))) hC hB in_X0 ln_28 dX3_powerAt_1 hq rfl rfl (by decide) rfl ?_
  refine lv_aload_n hx hb dX3_powerAt_4 rfl (lv_at hl 0 rfl) ?_
  refine j_get (5, p, m) 2 (v := .int (I p (7 + m))) hC hB in_X3 lk_16 dX3_powerAt_5 hp rfl rfl (by decide) rfl ?_
  refine lv_icmp_ne (tgt := 20) hx hb dX3_powerAt_8 (by decide) (fun c_8 => ?_) (fun c_8 => ?_)
  · refine lv_aload_n hx hb dX3_powerAt_20 rfl (lv_at hl 0 rfl) ?_
    refine j_get (5, p, m) 1 (v := .int (I p (63 + m))) hC hB in_X3 lk_13 dX3_powerAt_21 hp rfl rfl (by decide) rfl ?_
    refine lv_istore_n (lv' := [(2, .int ((I p) (63 + m))), (0, .ref (G.2.2.1 (5, p, m))), (1, .ref (G.2.2.1 (4, q, d)))]) hx hb dX3_powerAt_24 rfl hl (by decide) rfl (fun ls hl => ?_)
    refine lv_aload_n hx hb dX3_powerAt_25 rfl (lv_at hl 1 rfl) ?_
    refine j_get (5, p, m) 3 (v := .int (I p (51 + m))) hC hB in_X3 lk_19 dX3_powerAt_26 hp rfl rfl (by decide) rfl ?_
    refine lv_iconst (v := nI 2) hx hb dX3_powerAt_29 (by decide) ?_
    refine lv_irem hx hb dX3_powerAt_30 (by decide) ?_
    refine lv_iconst (v := nI 1) hx hb dX3_powerAt_31 (by decide) ?_
    refine lv_icmp_ne (tgt := 44) hx hb dX3_powerAt_32 (by decide) (fun c_32 => ?_) (fun c_32 => ?_)
    · refine lv_aload_n hx hb dX3_powerAt_44 rfl (lv_at hl 1 rfl) ?_
      refine j_get (5, p, m) 1 (v := .int (I p (63 + m))) hC hB in_X3 lk_13 dX3_powerAt_45 hp rfl rfl (by decide) rfl ?_
      refine lv_istore_n (lv' := [(3, .int ((I p) (63 + m))), (2, .int ((I p) (63 + m))), (0, .ref (G.2.2.1 (5, p, m))), (1, .ref (G.2.2.1 (4, q, d)))]) hx hb dX3_powerAt_48 rfl hl (by decide) rfl (fun ls hl => ?_)
      refine lv_aload_n hx hb dX3_powerAt_49 rfl (lv_at hl 2 rfl) ?_
      refine j_get (5, p, m) 0 (v := .int (I p (3 + m))) hC hB in_X3 lk_7 dX3_powerAt_50 hp rfl rfl (by decide) rfl ?_
      refine (Decidable.em ((I p) (3 + m) = nI 1)).elim (fun c_53_1 => ?_) (fun c_53_1 => ?_)
      · refine j_eqi c_53_1 ?_
        refine lv_tableIn (tgt := 84) hx hb dX3_powerAt_53 (by decide) (by decide) rfl (by decide) ?_
        refine lv_iload_n hx hb dX3_powerAt_84 rfl (lv_at hl 1 rfl) ?_
        exact j_iret hC hB dX3_powerAt_85 (⟨by simp [pwM, pwF, min9, ad0, oddB, c_8, c_32, eq_true c_53_1], rfl⟩)
      refine (Decidable.em ((I p) (3 + m) = nI 2)).elim (fun c_53_2 => ?_) (fun c_53_2 => ?_)
      · refine j_eqi c_53_2 ?_
        refine lv_tableIn (tgt := 86) hx hb dX3_powerAt_53 (by decide) (by decide) rfl (by decide) ?_
        refine lv_iload_n hx hb dX3_powerAt_86 rfl (lv_at hl 0 rfl) ?_
        exact j_iret hC hB dX3_powerAt_87 (⟨by simp [pwM, pwF, min9, ad0, oddB, c_8, c_32, c_53_1, eq_true c_53_2], rfl⟩)
      refine (Decidable.em ((I p) (3 + m) = nI 3)).elim (fun c_53_3 => ?_) (fun c_53_3 => ?_)
      · refine j_eqi c_53_3 ?_
        refine lv_tableIn (tgt := 88) hx hb dX3_powerAt_53 (by decide) (by decide) rfl (by decide) ?_
        refine lv_aload_n hx hb dX3_powerAt_88 rfl (lv_at hl 3 rfl) ?_
        refine j_getN (4, q, d) 2 (v := .int (I q (31 + d))) hC hB in_X0 ln_28 dX3_powerAt_89 hq rfl rfl (by decide) rfl ?_
        refine lv_if_ne (tgt := 99) hx hb dX3_powerAt_92 (by decide) (fun c_92 => ?_) (fun c_92 => ?_)
        · refine lv_iload_n hx hb dX3_powerAt_99 rfl (lv_at hl 1 rfl) ?_
          exact j_iret hC hB dX3_powerAt_100 (⟨by simp [pwM, pwF, min9, ad0, oddB, c_8, c_32, c_53_1, c_53_2, eq_true c_53_3, c_92], rfl⟩)
        · refine lv_iconst (v := nI 0) hx hb dX3_powerAt_95 (by decide) ?_
          refine lv_goto (tgt := 100) hx hb dX3_powerAt_96 (by decide) ?_
          exact j_iret hC hB dX3_powerAt_100 (⟨by simp [pwM, pwF, min9, ad0, oddB, c_8, c_32, c_53_1, c_53_2, eq_true c_53_3, eq_true c_92], rfl⟩)
      refine (Decidable.em ((I p) (3 + m) = nI 4)).elim (fun c_53_4 => ?_) (fun c_53_4 => ?_)
      · refine j_eqi c_53_4 ?_
        refine lv_tableIn (tgt := 101) hx hb dX3_powerAt_53 (by decide) (by decide) rfl (by decide) ?_
        refine lv_iload_n hx hb dX3_powerAt_101 rfl (lv_at hl 0 rfl) ?_
        refine lv_aload_n hx hb dX3_powerAt_102 rfl (lv_at hl 2 rfl) ?_
        refine j_get (5, p, m) 5 (v := .int (I p (59 + m))) hC hB in_X3 lk_25 dX3_powerAt_103 hp rfl rfl (by decide) rfl ?_
        refine lv_bipush (v := nI 9) hx hb dX3_powerAt_106 (by decide) ?_
        refine va_mmin hx hb (by rw [hml]; exact hl.1.symm) hown (hts (.methodLink RX3 33 Lib.Math.min.name) (by decide +kernel)) (hts (.static Lib.Math.min.name) (by decide +kernel)) (hts (.initialized "java/lang/Math") (by decide +kernel)) (hts (.code Lib.Math.min.name Lib.Math.min.code 2 (some .int)) (by decide +kernel)) (by decide) (Nat.le_of_ble_eq_true rfl) (Nat.zero_le _) (Nat.zero_le _) dX3_powerAt_108 ?_
        refine lv_iadd hx hb dX3_powerAt_111 ?_
        exact j_iret hC hB dX3_powerAt_112 (⟨by simp [pwM, pwF, min9, ad0, oddB, c_8, c_32, c_53_1, c_53_2, c_53_3, eq_true c_53_4], rfl⟩)
      have h_53 := jtsw_1_4 c_53_1 c_53_2 c_53_3 c_53_4
      refine lv_tableOut (tgt := 113) hx hb dX3_powerAt_53 h_53 (by decide) ?_
      refine lv_aload_n hx hb dX3_powerAt_113 rfl (lv_at hl 2 rfl) ?_
      refine j_get (5, p, m) 1 (v := .int (I p (63 + m))) hC hB in_X3 lk_13 dX3_powerAt_114 hp rfl rfl (by decide) rfl ?_
      exact j_iret hC hB dX3_powerAt_117 (⟨by simp [pwM, pwF, min9, ad0, oddB, c_8, c_32, c_53_1, c_53_2, c_53_3, c_53_4], rfl⟩)
    · refine lv_aload_n hx hb dX3_powerAt_35 rfl (lv_at hl 1 rfl) ?_
      refine j_get (5, p, m) 1 (v := .int (I p (63 + m))) hC hB in_X3 lk_13 dX3_powerAt_36 hp rfl rfl (by decide) rfl ?_
      refine lv_iconst (v := nI 2) hx hb dX3_powerAt_39 (by decide) ?_
      refine lv_iadd hx hb dX3_powerAt_40 ?_
      refine lv_goto (tgt := 48) hx hb dX3_powerAt_41 (by decide) ?_
      refine lv_istore_n (lv' := [(3, .int (((I p) (63 + m)) + (nI 2))), (2, .int ((I p) (63 + m))), (0, .ref (G.2.2.1 (5, p, m))), (1, .ref (G.2.2.1 (4, q, d)))]) hx hb dX3_powerAt_48 rfl hl (by decide) rfl (fun ls hl => ?_)
      refine lv_aload_n hx hb dX3_powerAt_49 rfl (lv_at hl 2 rfl) ?_
      refine j_get (5, p, m) 0 (v := .int (I p (3 + m))) hC hB in_X3 lk_7 dX3_powerAt_50 hp rfl rfl (by decide) rfl ?_
      refine (Decidable.em ((I p) (3 + m) = nI 1)).elim (fun c_53_1 => ?_) (fun c_53_1 => ?_)
      · refine j_eqi c_53_1 ?_
        refine lv_tableIn (tgt := 84) hx hb dX3_powerAt_53 (by decide) (by decide) rfl (by decide) ?_
        refine lv_iload_n hx hb dX3_powerAt_84 rfl (lv_at hl 1 rfl) ?_
        exact j_iret hC hB dX3_powerAt_85 (⟨by simp [pwM, pwF, min9, ad0, oddB, c_8, eq_true c_32, eq_true c_53_1], rfl⟩)
      refine (Decidable.em ((I p) (3 + m) = nI 2)).elim (fun c_53_2 => ?_) (fun c_53_2 => ?_)
      · refine j_eqi c_53_2 ?_
        refine lv_tableIn (tgt := 86) hx hb dX3_powerAt_53 (by decide) (by decide) rfl (by decide) ?_
        refine lv_iload_n hx hb dX3_powerAt_86 rfl (lv_at hl 0 rfl) ?_
        exact j_iret hC hB dX3_powerAt_87 (⟨by simp [pwM, pwF, min9, ad0, oddB, c_8, eq_true c_32, c_53_1, eq_true c_53_2], rfl⟩)
      refine (Decidable.em ((I p) (3 + m) = nI 3)).elim (fun c_53_3 => ?_) (fun c_53_3 => ?_)
      · refine j_eqi c_53_3 ?_
        refine lv_tableIn (tgt := 88) hx hb dX3_powerAt_53 (by decide) (by decide) rfl (by decide) ?_
        refine lv_aload_n hx hb dX3_powerAt_88 rfl (lv_at hl 3 rfl) ?_
        refine j_getN (4, q, d) 2 (v := .int (I q (31 + d))) hC hB in_X0 ln_28 dX3_powerAt_89 hq rfl rfl (by decide) rfl ?_
        refine lv_if_ne (tgt := 99) hx hb dX3_powerAt_92 (by decide) (fun c_92 => ?_) (fun c_92 => ?_)
        · refine lv_iload_n hx hb dX3_powerAt_99 rfl (lv_at hl 1 rfl) ?_
          exact j_iret hC hB dX3_powerAt_100 (⟨by simp [pwM, pwF, min9, ad0, oddB, c_8, eq_true c_32, c_53_1, c_53_2, eq_true c_53_3, c_92], rfl⟩)
        · refine lv_iconst (v := nI 0) hx hb dX3_powerAt_95 (by decide) ?_
          refine lv_goto (tgt := 100) hx hb dX3_powerAt_96 (by decide) ?_
          exact j_iret hC hB dX3_powerAt_100 (⟨by simp [pwM, pwF, min9, ad0, oddB, c_8, eq_true c_32, c_53_1, c_53_2, eq_true c_53_3, eq_true c_92], rfl⟩)
      refine (Decidable.em ((I p) (3 + m) = nI 4)).elim (fun c_53_4 => ?_) (fun c_53_4 => ?_)
      · refine j_eqi c_53_4 ?_
        refine lv_tableIn (tgt := 101) hx hb dX3_powerAt_53 (by decide) (by decide) rfl (by decide) ?_
        refine lv_iload_n hx hb dX3_powerAt_101 rfl (lv_at hl 0 rfl) ?_
        refine lv_aload_n hx hb dX3_powerAt_102 rfl (lv_at hl 2 rfl) ?_
        refine j_get (5, p, m) 5 (v := .int (I p (59 + m))) hC hB in_X3 lk_25 dX3_powerAt_103 hp rfl rfl (by decide) rfl ?_
        refine lv_bipush (v := nI 9) hx hb dX3_powerAt_106 (by decide) ?_
        refine va_mmin hx hb (by rw [hml]; exact hl.1.symm) hown (hts (.methodLink RX3 33 Lib.Math.min.name) (by decide +kernel)) (hts (.static Lib.Math.min.name) (by decide +kernel)) (hts (.initialized "java/lang/Math") (by decide +kernel)) (hts (.code Lib.Math.min.name Lib.Math.min.code 2 (some .int)) (by decide +kernel)) (by decide) (Nat.le_of_ble_eq_true rfl) (Nat.zero_le _) (Nat.zero_le _) dX3_powerAt_108 ?_
        refine lv_iadd hx hb dX3_powerAt_111 ?_
        exact j_iret hC hB dX3_powerAt_112 (⟨by simp [pwM, pwF, min9, ad0, oddB, c_8, eq_true c_32, c_53_1, c_53_2, c_53_3, eq_true c_53_4], rfl⟩)
      have h_53 := jtsw_1_4 c_53_1 c_53_2 c_53_3 c_53_4
      refine lv_tableOut (tgt := 113) hx hb dX3_powerAt_53 h_53 (by decide) ?_
      refine lv_aload_n hx hb dX3_powerAt_113 rfl (lv_at hl 2 rfl) ?_
      refine j_get (5, p, m) 1 (v := .int (I p (63 + m))) hC hB in_X3 lk_13 dX3_powerAt_114 hp rfl rfl (by decide) rfl ?_
      exact j_iret hC hB dX3_powerAt_117 (⟨by simp [pwM, pwF, min9, ad0, oddB, c_8, eq_true c_32, c_53_1, c_53_2, c_53_3, c_53_4], rfl⟩)
  · refine lv_aload_n hx hb dX3_powerAt_11 rfl (lv_at hl 0 rfl) ?_
    refine j_get (5, p, m) 1 (v := .int (I p (63 + m))) hC hB in_X3 lk_13 dX3_powerAt_12 hp rfl rfl (by decide) rfl ?_
    refine lv_iconst (v := nI 3) hx hb dX3_powerAt_15 (by decide) ?_
    refine lv_iadd hx hb dX3_powerAt_16 ?_
    refine lv_goto (tgt := 24) hx hb dX3_powerAt_17 (by decide) ?_
    refine lv_istore_n (lv' := [(2, .int (((I p) (63 + m)) + (nI 3))), (0, .ref (G.2.2.1 (5, p, m))), (1, .ref (G.2.2.1 (4, q, d)))]) hx hb dX3_powerAt_24 rfl hl (by decide) rfl (fun ls hl => ?_)
    refine lv_aload_n hx hb dX3_powerAt_25 rfl (lv_at hl 1 rfl) ?_
    refine j_get (5, p, m) 3 (v := .int (I p (51 + m))) hC hB in_X3 lk_19 dX3_powerAt_26 hp rfl rfl (by decide) rfl ?_
    refine lv_iconst (v := nI 2) hx hb dX3_powerAt_29 (by decide) ?_
    refine lv_irem hx hb dX3_powerAt_30 (by decide) ?_
    refine lv_iconst (v := nI 1) hx hb dX3_powerAt_31 (by decide) ?_
    refine lv_icmp_ne (tgt := 44) hx hb dX3_powerAt_32 (by decide) (fun c_32 => ?_) (fun c_32 => ?_)
    · refine lv_aload_n hx hb dX3_powerAt_44 rfl (lv_at hl 1 rfl) ?_
      refine j_get (5, p, m) 1 (v := .int (I p (63 + m))) hC hB in_X3 lk_13 dX3_powerAt_45 hp rfl rfl (by decide) rfl ?_
      refine lv_istore_n (lv' := [(3, .int ((I p) (63 + m))), (2, .int (((I p) (63 + m)) + (nI 3))), (0, .ref (G.2.2.1 (5, p, m))), (1, .ref (G.2.2.1 (4, q, d)))]) hx hb dX3_powerAt_48 rfl hl (by decide) rfl (fun ls hl => ?_)
      refine lv_aload_n hx hb dX3_powerAt_49 rfl (lv_at hl 2 rfl) ?_
      refine j_get (5, p, m) 0 (v := .int (I p (3 + m))) hC hB in_X3 lk_7 dX3_powerAt_50 hp rfl rfl (by decide) rfl ?_
      refine (Decidable.em ((I p) (3 + m) = nI 1)).elim (fun c_53_1 => ?_) (fun c_53_1 => ?_)
      · refine j_eqi c_53_1 ?_
        refine lv_tableIn (tgt := 84) hx hb dX3_powerAt_53 (by decide) (by decide) rfl (by decide) ?_
        refine lv_iload_n hx hb dX3_powerAt_84 rfl (lv_at hl 1 rfl) ?_
        exact j_iret hC hB dX3_powerAt_85 (⟨by simp [pwM, pwF, min9, ad0, oddB, eq_true c_8, c_32, eq_true c_53_1], rfl⟩)
      refine (Decidable.em ((I p) (3 + m) = nI 2)).elim (fun c_53_2 => ?_) (fun c_53_2 => ?_)
      · refine j_eqi c_53_2 ?_
        refine lv_tableIn (tgt := 86) hx hb dX3_powerAt_53 (by decide) (by decide) rfl (by decide) ?_
        refine lv_iload_n hx hb dX3_powerAt_86 rfl (lv_at hl 0 rfl) ?_
        exact j_iret hC hB dX3_powerAt_87 (⟨by simp [pwM, pwF, min9, ad0, oddB, eq_true c_8, c_32, c_53_1, eq_true c_53_2], rfl⟩)
      refine (Decidable.em ((I p) (3 + m) = nI 3)).elim (fun c_53_3 => ?_) (fun c_53_3 => ?_)
      · refine j_eqi c_53_3 ?_
        refine lv_tableIn (tgt := 88) hx hb dX3_powerAt_53 (by decide) (by decide) rfl (by decide) ?_
        refine lv_aload_n hx hb dX3_powerAt_88 rfl (lv_at hl 3 rfl) ?_
        refine j_getN (4, q, d) 2 (v := .int (I q (31 + d))) hC hB in_X0 ln_28 dX3_powerAt_89 hq rfl rfl (by decide) rfl ?_
        refine lv_if_ne (tgt := 99) hx hb dX3_powerAt_92 (by decide) (fun c_92 => ?_) (fun c_92 => ?_)
        · refine lv_iload_n hx hb dX3_powerAt_99 rfl (lv_at hl 1 rfl) ?_
          exact j_iret hC hB dX3_powerAt_100 (⟨by simp [pwM, pwF, min9, ad0, oddB, eq_true c_8, c_32, c_53_1, c_53_2, eq_true c_53_3, c_92], rfl⟩)
        · refine lv_iconst (v := nI 0) hx hb dX3_powerAt_95 (by decide) ?_
          refine lv_goto (tgt := 100) hx hb dX3_powerAt_96 (by decide) ?_
          exact j_iret hC hB dX3_powerAt_100 (⟨by simp [pwM, pwF, min9, ad0, oddB, eq_true c_8, c_32, c_53_1, c_53_2, eq_true c_53_3, eq_true c_92], rfl⟩)
      refine (Decidable.em ((I p) (3 + m) = nI 4)).elim (fun c_53_4 => ?_) (fun c_53_4 => ?_)
      · refine j_eqi c_53_4 ?_
        refine lv_tableIn (tgt := 101) hx hb dX3_powerAt_53 (by decide) (by decide) rfl (by decide) ?_
        refine lv_iload_n hx hb dX3_powerAt_101 rfl (lv_at hl 0 rfl) ?_
        refine lv_aload_n hx hb dX3_powerAt_102 rfl (lv_at hl 2 rfl) ?_
        refine j_get (5, p, m) 5 (v := .int (I p (59 + m))) hC hB in_X3 lk_25 dX3_powerAt_103 hp rfl rfl (by decide) rfl ?_
        refine lv_bipush (v := nI 9) hx hb dX3_powerAt_106 (by decide) ?_
        refine va_mmin hx hb (by rw [hml]; exact hl.1.symm) hown (hts (.methodLink RX3 33 Lib.Math.min.name) (by decide +kernel)) (hts (.static Lib.Math.min.name) (by decide +kernel)) (hts (.initialized "java/lang/Math") (by decide +kernel)) (hts (.code Lib.Math.min.name Lib.Math.min.code 2 (some .int)) (by decide +kernel)) (by decide) (Nat.le_of_ble_eq_true rfl) (Nat.zero_le _) (Nat.zero_le _) dX3_powerAt_108 ?_
        refine lv_iadd hx hb dX3_powerAt_111 ?_
        exact j_iret hC hB dX3_powerAt_112 (⟨by simp [pwM, pwF, min9, ad0, oddB, eq_true c_8, c_32, c_53_1, c_53_2, c_53_3, eq_true c_53_4], rfl⟩)
      have h_53 := jtsw_1_4 c_53_1 c_53_2 c_53_3 c_53_4
      refine lv_tableOut (tgt := 113) hx hb dX3_powerAt_53 h_53 (by decide) ?_
      refine lv_aload_n hx hb dX3_powerAt_113 rfl (lv_at hl 2 rfl) ?_
      refine j_get (5, p, m) 1 (v := .int (I p (63 + m))) hC hB in_X3 lk_13 dX3_powerAt_114 hp rfl rfl (by decide) rfl ?_
      exact j_iret hC hB dX3_powerAt_117 (⟨by simp [pwM, pwF, min9, ad0, oddB, eq_true c_8, c_32, c_53_1, c_53_2, c_53_3, c_53_4], rfl⟩)
    · refine lv_aload_n hx hb dX3_powerAt_35 rfl (lv_at hl 1 rfl) ?_
      refine j_get (5, p, m) 1 (v := .int (I p (63 + m))) hC hB in_X3 lk_13 dX3_powerAt_36 hp rfl rfl (by decide) rfl ?_
      refine lv_iconst (v := nI 2) hx hb dX3_powerAt_39 (by decide) ?_
      refine lv_iadd hx hb dX3_powerAt_40 ?_
      refine lv_goto (tgt := 48) hx hb dX3_powerAt_41 (by decide) ?_
      refine lv_istore_n (lv' := [(3, .int (((I p) (63 + m)) + (nI 2))), (2, .int (((I p) (63 + m)) + (nI 3))), (0, .ref (G.2.2.1 (5, p, m))), (1, .ref (G.2.2.1 (4, q, d)))]) hx hb dX3_powerAt_48 rfl hl (by decide) rfl (fun ls hl => ?_)
      refine lv_aload_n hx hb dX3_powerAt_49 rfl (lv_at hl 2 rfl) ?_
      refine j_get (5, p, m) 0 (v := .int (I p (3 + m))) hC hB in_X3 lk_7 dX3_powerAt_50 hp rfl rfl (by decide) rfl ?_
      refine (Decidable.em ((I p) (3 + m) = nI 1)).elim (fun c_53_1 => ?_) (fun c_53_1 => ?_)
      · refine j_eqi c_53_1 ?_
        refine lv_tableIn (tgt := 84) hx hb dX3_powerAt_53 (by decide) (by decide) rfl (by decide) ?_
        refine lv_iload_n hx hb dX3_powerAt_84 rfl (lv_at hl 1 rfl) ?_
        exact j_iret hC hB dX3_powerAt_85 (⟨by simp [pwM, pwF, min9, ad0, oddB, eq_true c_8, eq_true c_32, eq_true c_53_1], rfl⟩)
      refine (Decidable.em ((I p) (3 + m) = nI 2)).elim (fun c_53_2 => ?_) (fun c_53_2 => ?_)
      · refine j_eqi c_53_2 ?_
        refine lv_tableIn (tgt := 86) hx hb dX3_powerAt_53 (by decide) (by decide) rfl (by decide) ?_
        refine lv_iload_n hx hb dX3_powerAt_86 rfl (lv_at hl 0 rfl) ?_
        exact j_iret hC hB dX3_powerAt_87 (⟨by simp [pwM, pwF, min9, ad0, oddB, eq_true c_8, eq_true c_32, c_53_1, eq_true c_53_2], rfl⟩)
      refine (Decidable.em ((I p) (3 + m) = nI 3)).elim (fun c_53_3 => ?_) (fun c_53_3 => ?_)
      · refine j_eqi c_53_3 ?_
        refine lv_tableIn (tgt := 88) hx hb dX3_powerAt_53 (by decide) (by decide) rfl (by decide) ?_
        refine lv_aload_n hx hb dX3_powerAt_88 rfl (lv_at hl 3 rfl) ?_
        refine j_getN (4, q, d) 2 (v := .int (I q (31 + d))) hC hB in_X0 ln_28 dX3_powerAt_89 hq rfl rfl (by decide) rfl ?_
        refine lv_if_ne (tgt := 99) hx hb dX3_powerAt_92 (by decide) (fun c_92 => ?_) (fun c_92 => ?_)
        · refine lv_iload_n hx hb dX3_powerAt_99 rfl (lv_at hl 1 rfl) ?_
          exact j_iret hC hB dX3_powerAt_100 (⟨by simp [pwM, pwF, min9, ad0, oddB, eq_true c_8, eq_true c_32, c_53_1, c_53_2, eq_true c_53_3, c_92], rfl⟩)
        · refine lv_iconst (v := nI 0) hx hb dX3_powerAt_95 (by decide) ?_
          refine lv_goto (tgt := 100) hx hb dX3_powerAt_96 (by decide) ?_
          exact j_iret hC hB dX3_powerAt_100 (⟨by simp [pwM, pwF, min9, ad0, oddB, eq_true c_8, eq_true c_32, c_53_1, c_53_2, eq_true c_53_3, eq_true c_92], rfl⟩)
      refine (Decidable.em ((I p) (3 + m) = nI 4)).elim (fun c_53_4 => ?_) (fun c_53_4 => ?_)
      · refine j_eqi c_53_4 ?_
        refine lv_tableIn (tgt := 101) hx hb dX3_powerAt_53 (by decide) (by decide) rfl (by decide) ?_
        refine lv_iload_n hx hb dX3_powerAt_101 rfl (lv_at hl 0 rfl) ?_
        refine lv_aload_n hx hb dX3_powerAt_102 rfl (lv_at hl 2 rfl) ?_
        refine j_get (5, p, m) 5 (v := .int (I p (59 + m))) hC hB in_X3 lk_25 dX3_powerAt_103 hp rfl rfl (by decide) rfl ?_
        refine lv_bipush (v := nI 9) hx hb dX3_powerAt_106 (by decide) ?_
        refine va_mmin hx hb (by rw [hml]; exact hl.1.symm) hown (hts (.methodLink RX3 33 Lib.Math.min.name) (by decide +kernel)) (hts (.static Lib.Math.min.name) (by decide +kernel)) (hts (.initialized "java/lang/Math") (by decide +kernel)) (hts (.code Lib.Math.min.name Lib.Math.min.code 2 (some .int)) (by decide +kernel)) (by decide) (Nat.le_of_ble_eq_true rfl) (Nat.zero_le _) (Nat.zero_le _) dX3_powerAt_108 ?_
        refine lv_iadd hx hb dX3_powerAt_111 ?_
        exact j_iret hC hB dX3_powerAt_112 (⟨by simp [pwM, pwF, min9, ad0, oddB, eq_true c_8, eq_true c_32, c_53_1, c_53_2, c_53_3, eq_true c_53_4], rfl⟩)
      have h_53 := jtsw_1_4 c_53_1 c_53_2 c_53_3 c_53_4
      refine lv_tableOut (tgt := 113) hx hb dX3_powerAt_53 h_53 (by decide) ?_
      refine lv_aload_n hx hb dX3_powerAt_113 rfl (lv_at hl 2 rfl) ?_
      refine j_get (5, p, m) 1 (v := .int (I p (63 + m))) hC hB in_X3 lk_13 dX3_powerAt_114 hp rfl rfl (by decide) rfl ?_
      exact j_iret hC hB dX3_powerAt_117 (⟨by simp [pwM, pwF, min9, ad0, oddB, eq_true c_8, eq_true c_32, c_53_1, c_53_2, c_53_3, c_53_4], rfl⟩)

set_option maxHeartbeats 4000000 in
set_option maxRecDepth 100000 in
theorem c_X3_knows (l_ : Launch) (G : jG) (I : Nat → Nat → Int32) (J : Nat → Nat → Int64) (O : Nat → Nat → Nat) (p m k : Nat) (hp : jok (5, p, m)) : jMi l_ G yX3_knows wsX3_knows ({ frames := 0, cells := 0, slots := 0, locals := 0 }) [.ref (G.2.2.1 (5, p, m)), .int (nI k)] (I, J, O) (fun r u => r = b2 (hasB (I p (55 + m)) k) ∧ u = (I, J, O)) := by
  refine jMi_of (cc := cX3_knows) (maxL := 2) (ret := (some .boolean)) (lv0 := [(0, .ref (G.2.2.1 (5, p, m))), (1, .int (nI k))]) (by decide) rfl (Nat.le_of_ble_eq_true rfl) rfl ?_
  intro pg_ ev_ s_ mi_ below meth cd_ A ls hC hB hl
  obtain ⟨hx, hb, hr, hml, hown, hts, hlocks, hK, hA⟩ := id hC
  have lk_22 := hts (.fieldLink RX3 22 "RiddlePrison$Man" "known" "I") (by decide +kernel)
  have in_X3 := (fun w h => List.mem_cons_of_mem _ (List.mem_append_right _ h) : ∀ w ∈ wsX30, w ∈ wsX3_knows)
  refine lv_aload_n hx hb dX3_knows_0 rfl (lv_at hl 0 rfl) ?_
  refine j_get (5, p, m) 4 (v := .int (I p (55 + m))) hC hB in_X3 lk_22 dX3_knows_1 hp rfl rfl (by decide) rfl ?_
  refine lv_iload_n hx hb dX3_knows_4 rfl (lv_at hl 1 rfl) ?_
  refine lv_ishr hx hb dX3_knows_5 ?_
  refine lv_iconst (v := nI 1) hx hb dX3_knows_6 (by decide) ?_
  refine lv_iand hx hb dX3_knows_7 ?_
  refine lv_iconst (v := nI 1) hx hb dX3_knows_8 (by decide) ?_
  refine lv_icmp_ne (tgt := 16) hx hb dX3_knows_9 (by decide) (fun c_9 => ?_) (fun c_9 => ?_)
  · refine lv_iconst (v := nI 0) hx hb dX3_knows_16 (by decide) ?_
    exact j_zret hC hB dX3_knows_17 (by decide) (⟨by simp [hasB, b2, c_9], rfl⟩)
  · refine lv_iconst (v := nI 1) hx hb dX3_knows_12 (by decide) ?_
    refine lv_goto (tgt := 17) hx hb dX3_knows_13 (by decide) ?_
    exact j_zret hC hB dX3_knows_17 (by decide) (⟨by simp [hasB, b2, eq_true c_9], rfl⟩)

set_option maxHeartbeats 4000000 in
set_option maxRecDepth 100000 in
theorem c_X3_passes (l_ : Launch) (G : jG) (I : Nat → Nat → Int32) (J : Nat → Nat → Int64) (O : Nat → Nat → Nat) (p m q d n : Nat) (hp : jok (5, p, m)) (hq : jok (4, q, d)) : jMi l_ G yX3_passes wsX3_passes ({ frames := 2, cells := 0, slots := 0, locals := 53 }) [.ref (G.2.2.1 (5, p, m)), .ref (G.2.2.1 (4, q, d)), .int (nI n)] (I, J, O) (fun r u => r = b2 (paB (I q) (I p) m d n) ∧ u = (I, J, O)) := by
  refine jMi_of (cc := cX3_passes) (maxL := 3) (ret := (some .boolean)) (lv0 := [(0, .ref (G.2.2.1 (5, p, m))), (1, .ref (G.2.2.1 (4, q, d))), (2, .int (nI n))]) (by decide) rfl (Nat.le_of_ble_eq_true rfl) rfl ?_
  intro pg_ ev_ s_ mi_ below meth cd_ A ls hC hB hl
  obtain ⟨hx, hb, hr, hml, hown, hts, hlocks, hK, hA⟩ := id hC
  have ln_47 := (by decide +kernel : Cond.fieldLinkNest RX3 47 "RiddlePrison$Door" "hard" "I" "RiddlePrison" ∈ nsW)
  have in_X0 := (fun w h => List.mem_cons_of_mem _ (List.mem_append_left _ (List.mem_append_right _ h)) : ∀ w ∈ wsX00, w ∈ wsX3_passes)
  refine lv_aload_n hx hb dX3_passes_0 rfl (lv_at hl 0 rfl) ?_
  refine lv_iload_n hx hb dX3_passes_1 rfl (lv_at hl 2 rfl) ?_
  refine j_cvi (5, p, m) [.int (nI n)] hC hB hl.1 (c_X3_knows l_ G I J O p m n (hp)) (cwV 1 hts gX3_passes_X3_knows rfl rfl rfl (by decide +kernel) ⟨by decide, by decide⟩) dX3_passes_2 hp rfl rfl rfl rfl (Nat.le_of_ble_eq_true rfl) (fun r_2 u_2 H locs hp_2 hB => ?_)
  obtain ⟨rfl, rfl⟩ := hp_2
  refine jb_if_ne (tgt := 20) hx hb dX3_passes_5 (by decide) (fun c_5 => ?_) (fun c_5 => ?_)
  · refine lv_iconst (v := nI 1) hx hb dX3_passes_20 (by decide) ?_
    refine lv_goto (tgt := 25) hx hb dX3_passes_21 (by decide) ?_
    exact j_zret hC hB dX3_passes_25 (by decide) (⟨by simp [paB, b2, c_5], rfl⟩)
  · refine lv_aload_n hx hb dX3_passes_8 rfl (lv_at hl 0 rfl) ?_
    refine lv_aload_n hx hb dX3_passes_9 rfl (lv_at hl 1 rfl) ?_
    refine j_cvi (5, p, m) [.ref (G.2.2.1 (4, q, d))] hC hB hl.1 (c_X3_powerAt l_ G I J O p m q d (hp) (hq)) (cwV 1 hts gX3_passes_X3_powerAt rfl rfl rfl (by decide +kernel) ⟨by decide, by decide⟩) dX3_passes_10 hp rfl rfl rfl rfl (Nat.le_of_ble_eq_true rfl) (fun r_10 u_10 H locs hp_10 hB => ?_)
    obtain ⟨rfl, rfl⟩ := hp_10
    refine lv_aload_n hx hb dX3_passes_13 rfl (lv_at hl 1 rfl) ?_
    refine j_getN (4, q, d) 3 (v := .int (I q (41 + d))) hC hB in_X0 ln_47 dX3_passes_14 hq rfl rfl (by decide) rfl ?_
    refine lv_icmp_lt (tgt := 24) hx hb dX3_passes_17 (by decide) (fun c_17 => ?_) (fun c_17 => ?_)
    · refine lv_iconst (v := nI 0) hx hb dX3_passes_24 (by decide) ?_
      exact j_zret hC hB dX3_passes_25 (by decide) (⟨by simp [paB, b2, c_5, c_17], rfl⟩)
    · refine lv_iconst (v := nI 1) hx hb dX3_passes_20 (by decide) ?_
      refine lv_goto (tgt := 25) hx hb dX3_passes_21 (by decide) ?_
      exact j_zret hC hB dX3_passes_25 (by decide) (⟨by simp [paB, b2, c_5, c_17], rfl⟩)

set_option maxHeartbeats 4000000 in
set_option maxRecDepth 100000 in
theorem c_X4_isOpenTo (l_ : Launch) (G : jG) (I : Nat → Nat → Int32) (J : Nat → Nat → Int64) (O : Nat → Nat → Nat) (q p m d : Nat) (hq : q < 19) (hp : jok (5, p, m)) (hd : d < 10) : jMi l_ G yX4_isOpenTo wsX4_isOpenTo ({ frames := 3, cells := 0, slots := 0, locals := 75 }) [.ref (G.2.2.1 (1, q, 0)), .ref (G.2.2.1 (5, p, m)), .int (nI d)] (I, J, O) (fun r u => r = b2 (opB (I q) (I p) m d) ∧ u = (I, J, O)) := by
  refine jMi_of (cc := cX4_isOpenTo) (maxL := 3) (ret := (some .boolean)) (lv0 := [(0, .ref (G.2.2.1 (1, q, 0))), (1, .ref (G.2.2.1 (5, p, m))), (2, .int (nI d))]) (by decide) rfl (Nat.le_of_ble_eq_true rfl) rfl ?_
  intro pg_ ev_ s_ mi_ below meth cd_ A ls hC hB hl
  obtain ⟨hx, hb, hr, hml, hown, hts, hlocks, hK, hA⟩ := id hC
  have lk_11 := hts (.fieldLink RX4 11 "RiddlePrison$Prison" "doors" "[LRiddlePrison$Door;") (by decide +kernel)
  have ln_63 := (by decide +kernel : Cond.fieldLinkNest RX4 63 "RiddlePrison$Man" "cell" "I" "RiddlePrison" ∈ nsW)
  have in_X4 := (fun w h => List.mem_cons_of_mem _ (List.mem_append_left _ (List.mem_append_left _ (List.mem_append_right _ h))) : ∀ w ∈ wsX40, w ∈ wsX4_isOpenTo)
  have in_X3 := (fun w h => List.mem_cons_of_mem _ (List.mem_append_left _ (List.mem_append_right _ h)) : ∀ w ∈ wsX30, w ∈ wsX4_isOpenTo)
  refine lv_aload_n hx hb dX4_isOpenTo_0 rfl (lv_at hl 0 rfl) ?_
  refine j_get (1, q, 0) 0 (v := .ref (G.2.2.1 (2, q, 0))) hC hB in_X4 lk_11 dX4_isOpenTo_1 (jk1 (by omega)) rfl rfl (by decide) rfl ?_
  refine lv_iload_n hx hb dX4_isOpenTo_4 rfl (lv_at hl 2 rfl) ?_
  refine j_ald (2, q, 0) (4, q, d) 3 d hC hB dX4_isOpenTo_5 (jk2 (by omega)) rfl rfl rfl (by omega) (by decide) rfl ?_
  refine lv_aload_n hx hb dX4_isOpenTo_6 rfl (lv_at hl 1 rfl) ?_
  refine j_getN (5, p, m) 3 (v := .int (I p (51 + m))) hC hB in_X3 ln_63 dX4_isOpenTo_7 hp rfl rfl (by decide) rfl ?_
  refine j_cvi (4, q, d) [.int ((I p) (51 + m))] hC hB hl.1 (c_X0_isAt l_ G I J O q d ((I p) (51 + m)) ((jk4 (by omega) (by omega)))) (cwV 1 hts gX4_isOpenTo_X0_isAt rfl rfl rfl (by decide +kernel) ⟨by decide, by decide⟩) dX4_isOpenTo_10 (jk4 (by omega) (by omega)) rfl rfl rfl rfl (Nat.le_of_ble_eq_true rfl) (fun r_10 u_10 H locs hp_10 hB => ?_)
  obtain ⟨rfl, rfl⟩ := hp_10
  refine jb_if_eq (tgt := 34) hx hb dX4_isOpenTo_13 (by decide) (fun c_13 => ?_) (fun c_13 => ?_)
  · refine lv_iconst (v := nI 0) hx hb dX4_isOpenTo_34 (by decide) ?_
    exact j_zret hC hB dX4_isOpenTo_35 (by decide) (⟨by simp [opB, b2, c_13], rfl⟩)
  · refine lv_aload_n hx hb dX4_isOpenTo_16 rfl (lv_at hl 1 rfl) ?_
    refine lv_aload_n hx hb dX4_isOpenTo_17 rfl (lv_at hl 0 rfl) ?_
    refine j_get (1, q, 0) 0 (v := .ref (G.2.2.1 (2, q, 0))) hC hB in_X4 lk_11 dX4_isOpenTo_18 (jk1 (by omega)) rfl rfl (by decide) rfl ?_
    refine lv_iload_n hx hb dX4_isOpenTo_21 rfl (lv_at hl 2 rfl) ?_
    refine j_ald (2, q, 0) (4, q, d) 3 d hC hB dX4_isOpenTo_22 (jk2 (by omega)) rfl rfl rfl (by omega) (by decide) rfl ?_
    refine lv_iload_n hx hb dX4_isOpenTo_23 rfl (lv_at hl 2 rfl) ?_
    refine j_cvi (5, p, m) [.ref (G.2.2.1 (4, q, d)), .int (nI d)] hC hB hl.1 (c_X3_passes l_ G I J O p m q d d (hp) ((jk4 (by omega) (by omega)))) (cwV 2 hts gX4_isOpenTo_X3_passes rfl rfl rfl (by decide +kernel) ⟨by decide, by decide⟩) dX4_isOpenTo_24 hp rfl rfl rfl rfl (Nat.le_of_ble_eq_true rfl) (fun r_24 u_24 H locs hp_24 hB => ?_)
    obtain ⟨rfl, rfl⟩ := hp_24
    refine jb_if_eq (tgt := 34) hx hb dX4_isOpenTo_27 (by decide) (fun c_27 => ?_) (fun c_27 => ?_)
    · refine lv_iconst (v := nI 0) hx hb dX4_isOpenTo_34 (by decide) ?_
      exact j_zret hC hB dX4_isOpenTo_35 (by decide) (⟨by simp [opB, b2, c_13, c_27], rfl⟩)
    · refine lv_iconst (v := nI 1) hx hb dX4_isOpenTo_30 (by decide) ?_
      refine lv_goto (tgt := 35) hx hb dX4_isOpenTo_31 (by decide) ?_
      exact j_zret hC hB dX4_isOpenTo_35 (by decide) (⟨by simp [opB, b2, c_13, c_27], rfl⟩)

set_option maxHeartbeats 4000000 in
set_option maxRecDepth 100000 in
theorem c_X4_doorsOpenTo (l_ : Launch) (G : jG) (I : Nat → Nat → Int32) (J : Nat → Nat → Int64) (O : Nat → Nat → Nat) (q p m : Nat) (hq : q < 19) (hp : jok (5, p, m)) {nd : Nat} (hnd : nd ≤ 10) (hD : I q 0 = nI nd) : jMi l_ G yX4_doorsOpenTo wsX4_doorsOpenTo ({ frames := 4, cells := 0, slots := 0, locals := 97 }) [.ref (G.2.2.1 (1, q, 0)), .ref (G.2.2.1 (5, p, m))] (I, J, O) (fun r u => r = doF (I q) (I p) m nd ∧ u = (I, J, O)) := by
  refine jMi_of (cc := cX4_doorsOpenTo) (maxL := 4) (ret := (some .int)) (lv0 := [(0, .ref (G.2.2.1 (1, q, 0))), (1, .ref (G.2.2.1 (5, p, m)))]) (by decide) rfl (Nat.le_of_ble_eq_true rfl) rfl ?_
  intro pg_ ev_ s_ mi_ below meth cd_ A ls hC hB hl
  obtain ⟨hx, hb, hr, hml, hown, hts, hlocks, hK, hA⟩ := id hC
  have lk_29 := hts (.fieldLink RX4 29 "RiddlePrison$Prison" "doorCount" "I") (by decide +kernel)
  have in_X4 := (fun w h => List.mem_cons_of_mem _ (List.mem_append_left _ (List.mem_append_left _ (List.mem_append_right _ h))) : ∀ w ∈ wsX40, w ∈ wsX4_doorsOpenTo)
  refine lv_iconst (v := nI 0) hx hb dX4_doorsOpenTo_0 (by decide) ?_
  refine lv_istore_n (lv' := [(2, .int (nI 0)), (0, .ref (G.2.2.1 (1, q, 0))), (1, .ref (G.2.2.1 (5, p, m)))]) hx hb dX4_doorsOpenTo_1 rfl hl (by decide) rfl (fun ls hl => ?_)
  refine lv_iconst (v := nI 0) hx hb dX4_doorsOpenTo_2 (by decide) ?_
  refine lv_istore_n (lv' := [(3, .int (nI 0)), (2, .int (nI 0)), (0, .ref (G.2.2.1 (1, q, 0))), (1, .ref (G.2.2.1 (5, p, m)))]) hx hb dX4_doorsOpenTo_3 rfl hl (by decide) rfl (fun ls hl => ?_)
  have lp_4 : ∀ (fu : Nat) (set : Int32) (k : Nat), nd - k < fu → (k ≤ nd) → (set = doF (I q) (I p) m k) → ∀ H locs ls, jB G A s_.heap (I, J, O) H locs → lv_has ls 4 [(3, .int (nI k)), (2, .int set), (0, .ref (G.2.2.1 (1, q, 0))), (1, .ref (G.2.2.1 (5, p, m)))] → W pg_ l_ ev_ ({ frames := 4, cells := 0, slots := 0, locals := 97 }) s_ mi_ ([.ref (G.2.2.1 (1, q, 0)), .ref (G.2.2.1 (5, p, m))]).toArray below meth cd_ H locs 0 0 (jQi G A below [.ref (G.2.2.1 (1, q, 0)), .ref (G.2.2.1 (5, p, m))] s_ (fun r u => r = doF (I q) (I p) m nd ∧ u = (I, J, O))) (F0 mi_ 4 ls []) := by
    intro fu
    induction fu with
    | zero => intro set k hf; exact absurd hf (Nat.not_lt_zero _)
    | succ fu ih_4 =>
      intro set k hf_4 hk hs H locs ls hB hl
      refine lv_iload_n hx hb dX4_doorsOpenTo_4 rfl (lv_at hl 0 rfl) ?_
      refine lv_aload_n hx hb dX4_doorsOpenTo_5 rfl (lv_at hl 2 rfl) ?_
      refine j_get (1, q, 0) 2 (v := .int (I q 0)) hC hB in_X4 lk_29 dX4_doorsOpenTo_6 (jk1 (by omega)) rfl rfl (by decide) rfl ?_
      refine j_eqi (x := I q 0) (y := nI nd) (hD) ?_
      refine jn_icmp_ge (tgt := 33) hx hb dX4_doorsOpenTo_9 (by decide) (by omega) (by omega) (fun c_9 => ?_) (fun c_9 => ?_)
      · refine lv_iload_n hx hb dX4_doorsOpenTo_33 rfl (lv_at hl 1 rfl) ?_
        exact j_iret hC hB dX4_doorsOpenTo_34 (⟨by rw [hs, show k = nd by omega], rfl⟩)
      · refine lv_aload_n hx hb dX4_doorsOpenTo_12 rfl (lv_at hl 2 rfl) ?_
        refine lv_aload_n hx hb dX4_doorsOpenTo_13 rfl (lv_at hl 3 rfl) ?_
        refine lv_iload_n hx hb dX4_doorsOpenTo_14 rfl (lv_at hl 0 rfl) ?_
        refine j_cvi (1, q, 0) [.ref (G.2.2.1 (5, p, m)), .int (nI k)] hC hB hl.1 (c_X4_isOpenTo l_ G I J O q p m k (by omega) (hp) (by omega)) (cwV 2 hts gX4_doorsOpenTo_X4_isOpenTo rfl rfl rfl (by decide +kernel) ⟨by decide, by decide⟩) dX4_doorsOpenTo_15 (jk1 (by omega)) rfl rfl rfl rfl (Nat.le_of_ble_eq_true rfl) (fun r_15 u_15 H locs hp_15 hB => ?_)
        obtain ⟨rfl, rfl⟩ := hp_15
        refine jb_if_eq (tgt := 27) hx hb dX4_doorsOpenTo_18 (by decide) (fun c_18 => ?_) (fun c_18 => ?_)
        · refine lv_iinc (v := nI (k + 1)) (lv' := [(3, .int (nI (k + 1))), (2, .int set), (0, .ref (G.2.2.1 (1, q, 0))), (1, .ref (G.2.2.1 (5, p, m)))]) hx hb dX4_doorsOpenTo_27 hl (k := 0) rfl (jn_inc _ 1) (by decide) rfl (fun ls hl => ?_)
          refine lv_goto (tgt := 4) hx hb dX4_doorsOpenTo_30 (by decide) ?_
          exact ih_4 set (k + 1) (by omega) (by omega) (by simp [doF, bitI, hs, c_18]) _ _ _ hB (lv_sub hl [0, 1, 2, 3] rfl)
        · refine lv_iload_n hx hb dX4_doorsOpenTo_21 rfl (lv_at hl 1 rfl) ?_
          refine lv_iconst (v := nI 1) hx hb dX4_doorsOpenTo_22 (by decide) ?_
          refine lv_iload_n hx hb dX4_doorsOpenTo_23 rfl (lv_at hl 0 rfl) ?_
          refine lv_ishl hx hb dX4_doorsOpenTo_24 ?_
          refine lv_ior hx hb dX4_doorsOpenTo_25 ?_
          refine lv_istore_n (lv' := [(2, .int (set ||| ((nI 1) <<< ((nI k) &&& 31)))), (3, .int (nI k)), (0, .ref (G.2.2.1 (1, q, 0))), (1, .ref (G.2.2.1 (5, p, m)))]) hx hb dX4_doorsOpenTo_26 rfl hl (by decide) rfl (fun ls hl => ?_)
          refine lv_iinc (v := nI (k + 1)) (lv' := [(3, .int (nI (k + 1))), (2, .int (set ||| ((nI 1) <<< ((nI k) &&& 31)))), (0, .ref (G.2.2.1 (1, q, 0))), (1, .ref (G.2.2.1 (5, p, m)))]) hx hb dX4_doorsOpenTo_27 hl (k := 1) rfl (jn_inc _ 1) (by decide) rfl (fun ls hl => ?_)
          refine lv_goto (tgt := 4) hx hb dX4_doorsOpenTo_30 (by decide) ?_
          exact ih_4 (set ||| ((nI 1) <<< ((nI k) &&& 31))) (k + 1) (by omega) (by omega) (by simp [doF, bitI, hs, c_18]) _ _ _ hB (lv_sub hl [0, 1, 2, 3] rfl)
  exact lp_4 _ (nI 0) 0 (Nat.lt_succ_self _) (by omega) (rfl) _ _ _ hB (lv_sub hl [0, 1, 2, 3] rfl)

set_option maxHeartbeats 4000000 in
set_option maxRecDepth 100000 in
theorem c_X4_menWhoPass (l_ : Launch) (G : jG) (I : Nat → Nat → Int32) (J : Nat → Nat → Int64) (O : Nat → Nat → Nat) (q d : Nat) (hq : q < 19) (hd : d < 10) {nm : Nat} (hnm : nm ≤ 4) (hM : I q 1 = nI nm) : jMi l_ G yX4_menWhoPass wsX4_menWhoPass ({ frames := 4, cells := 0, slots := 0, locals := 97 }) [.ref (G.2.2.1 (1, q, 0)), .int (nI d)] (I, J, O) (fun r u => r = mpF (I q) d nm ∧ u = (I, J, O)) := by
  refine jMi_of (cc := cX4_menWhoPass) (maxL := 4) (ret := (some .int)) (lv0 := [(0, .ref (G.2.2.1 (1, q, 0))), (1, .int (nI d))]) (by decide) rfl (Nat.le_of_ble_eq_true rfl) rfl ?_
  intro pg_ ev_ s_ mi_ below meth cd_ A ls hC hB hl
  obtain ⟨hx, hb, hr, hml, hown, hts, hlocks, hK, hA⟩ := id hC
  have lk_32 := hts (.fieldLink RX4 32 "RiddlePrison$Prison" "manCount" "I") (by decide +kernel)
  have lk_19 := hts (.fieldLink RX4 19 "RiddlePrison$Prison" "men" "[LRiddlePrison$Man;") (by decide +kernel)
  have in_X4 := (fun w h => List.mem_cons_of_mem _ (List.mem_append_left _ (List.mem_append_left _ (List.mem_append_right _ h))) : ∀ w ∈ wsX40, w ∈ wsX4_menWhoPass)
  refine lv_iconst (v := nI 0) hx hb dX4_menWhoPass_0 (by decide) ?_
  refine lv_istore_n (lv' := [(2, .int (nI 0)), (0, .ref (G.2.2.1 (1, q, 0))), (1, .int (nI d))]) hx hb dX4_menWhoPass_1 rfl hl (by decide) rfl (fun ls hl => ?_)
  refine lv_iconst (v := nI 0) hx hb dX4_menWhoPass_2 (by decide) ?_
  refine lv_istore_n (lv' := [(3, .int (nI 0)), (2, .int (nI 0)), (0, .ref (G.2.2.1 (1, q, 0))), (1, .int (nI d))]) hx hb dX4_menWhoPass_3 rfl hl (by decide) rfl (fun ls hl => ?_)
  have lp_4 : ∀ (fu : Nat) (set : Int32) (k : Nat), nm - k < fu → (k ≤ nm) → (set = mpF (I q) d k) → ∀ H locs ls, jB G A s_.heap (I, J, O) H locs → lv_has ls 4 [(3, .int (nI k)), (2, .int set), (0, .ref (G.2.2.1 (1, q, 0))), (1, .int (nI d))] → W pg_ l_ ev_ ({ frames := 4, cells := 0, slots := 0, locals := 97 }) s_ mi_ ([.ref (G.2.2.1 (1, q, 0)), .int (nI d)]).toArray below meth cd_ H locs 0 0 (jQi G A below [.ref (G.2.2.1 (1, q, 0)), .int (nI d)] s_ (fun r u => r = mpF (I q) d nm ∧ u = (I, J, O))) (F0 mi_ 4 ls []) := by
    intro fu
    induction fu with
    | zero => intro set k hf; exact absurd hf (Nat.not_lt_zero _)
    | succ fu ih_4 =>
      intro set k hf_4 hk hs H locs ls hB hl
      refine lv_iload_n hx hb dX4_menWhoPass_4 rfl (lv_at hl 0 rfl) ?_
      refine lv_aload_n hx hb dX4_menWhoPass_5 rfl (lv_at hl 2 rfl) ?_
      refine j_get (1, q, 0) 3 (v := .int (I q 1)) hC hB in_X4 lk_32 dX4_menWhoPass_6 (jk1 (by omega)) rfl rfl (by decide) rfl ?_
      refine j_eqi (x := I q 1) (y := nI nm) (hM) ?_
      refine jn_icmp_ge (tgt := 38) hx hb dX4_menWhoPass_9 (by decide) (by omega) (by omega) (fun c_9 => ?_) (fun c_9 => ?_)
      · refine lv_iload_n hx hb dX4_menWhoPass_38 rfl (lv_at hl 1 rfl) ?_
        exact j_iret hC hB dX4_menWhoPass_39 (⟨by rw [hs, show k = nm by omega], rfl⟩)
      · refine lv_aload_n hx hb dX4_menWhoPass_12 rfl (lv_at hl 2 rfl) ?_
        refine lv_aload_n hx hb dX4_menWhoPass_13 rfl (lv_at hl 2 rfl) ?_
        refine j_get (1, q, 0) 1 (v := .ref (G.2.2.1 (3, q, 0))) hC hB in_X4 lk_19 dX4_menWhoPass_14 (jk1 (by omega)) rfl rfl (by decide) rfl ?_
        refine lv_iload_n hx hb dX4_menWhoPass_17 rfl (lv_at hl 0 rfl) ?_
        refine j_ald (3, q, 0) (5, q, k) 4 k hC hB dX4_menWhoPass_18 (jk3 (by omega)) rfl rfl rfl (by omega) (by decide) rfl ?_
        refine lv_iload_n hx hb dX4_menWhoPass_19 rfl (lv_at hl 3 rfl) ?_
        refine j_cvi (1, q, 0) [.ref (G.2.2.1 (5, q, k)), .int (nI d)] hC hB hl.1 (c_X4_isOpenTo l_ G I J O q q k d (by omega) ((jk5 (by omega) (by omega))) (by omega)) (cwV 2 hts gX4_menWhoPass_X4_isOpenTo rfl rfl rfl (by decide +kernel) ⟨by decide, by decide⟩) dX4_menWhoPass_20 (jk1 (by omega)) rfl rfl rfl rfl (Nat.le_of_ble_eq_true rfl) (fun r_20 u_20 H locs hp_20 hB => ?_)
        obtain ⟨rfl, rfl⟩ := hp_20
        refine jb_if_eq (tgt := 32) hx hb dX4_menWhoPass_23 (by decide) (fun c_23 => ?_) (fun c_23 => ?_)
        · refine lv_iinc (v := nI (k + 1)) (lv' := [(3, .int (nI (k + 1))), (2, .int set), (0, .ref (G.2.2.1 (1, q, 0))), (1, .int (nI d))]) hx hb dX4_menWhoPass_32 hl (k := 0) rfl (jn_inc _ 1) (by decide) rfl (fun ls hl => ?_)
          refine lv_goto (tgt := 4) hx hb dX4_menWhoPass_35 (by decide) ?_
          exact ih_4 set (k + 1) (by omega) (by omega) (by simp [mpF, bitI, hs, c_23]) _ _ _ hB (lv_sub hl [0, 1, 2, 3] rfl)
        · refine lv_iload_n hx hb dX4_menWhoPass_26 rfl (lv_at hl 1 rfl) ?_
          refine lv_iconst (v := nI 1) hx hb dX4_menWhoPass_27 (by decide) ?_
          refine lv_iload_n hx hb dX4_menWhoPass_28 rfl (lv_at hl 0 rfl) ?_
          refine lv_ishl hx hb dX4_menWhoPass_29 ?_
          refine lv_ior hx hb dX4_menWhoPass_30 ?_
          refine lv_istore_n (lv' := [(2, .int (set ||| ((nI 1) <<< ((nI k) &&& 31)))), (3, .int (nI k)), (0, .ref (G.2.2.1 (1, q, 0))), (1, .int (nI d))]) hx hb dX4_menWhoPass_31 rfl hl (by decide) rfl (fun ls hl => ?_)
          refine lv_iinc (v := nI (k + 1)) (lv' := [(3, .int (nI (k + 1))), (2, .int (set ||| ((nI 1) <<< ((nI k) &&& 31)))), (0, .ref (G.2.2.1 (1, q, 0))), (1, .int (nI d))]) hx hb dX4_menWhoPass_32 hl (k := 1) rfl (jn_inc _ 1) (by decide) rfl (fun ls hl => ?_)
          refine lv_goto (tgt := 4) hx hb dX4_menWhoPass_35 (by decide) ?_
          exact ih_4 (set ||| ((nI 1) <<< ((nI k) &&& 31))) (k + 1) (by omega) (by omega) (by simp [mpF, bitI, hs, c_23]) _ _ _ hB (lv_sub hl [0, 1, 2, 3] rfl)
  exact lp_4 _ (nI 0) 0 (Nat.lt_succ_self _) (by omega) (rfl) _ _ _ hB (lv_sub hl [0, 1, 2, 3] rfl)

set_option maxHeartbeats 4000000 in
set_option maxRecDepth 100000 in
theorem c_X4_menWhoKnow (l_ : Launch) (G : jG) (I : Nat → Nat → Int32) (J : Nat → Nat → Int64) (O : Nat → Nat → Nat) (q d : Nat) (hq : q < 19) {nm : Nat} (hnm : nm ≤ 4) (hM : I q 1 = nI nm) : jMi l_ G yX4_menWhoKnow wsX4_menWhoKnow ({ frames := 1, cells := 0, slots := 0, locals := 21 }) [.ref (G.2.2.1 (1, q, 0)), .int (nI d)] (I, J, O) (fun r u => r = mkF (I q) d nm ∧ u = (I, J, O)) := by
  refine jMi_of (cc := cX4_menWhoKnow) (maxL := 4) (ret := (some .int)) (lv0 := [(0, .ref (G.2.2.1 (1, q, 0))), (1, .int (nI d))]) (by decide) rfl (Nat.le_of_ble_eq_true rfl) rfl ?_
  intro pg_ ev_ s_ mi_ below meth cd_ A ls hC hB hl
  obtain ⟨hx, hb, hr, hml, hown, hts, hlocks, hK, hA⟩ := id hC
  have lk_32 := hts (.fieldLink RX4 32 "RiddlePrison$Prison" "manCount" "I") (by decide +kernel)
  have lk_19 := hts (.fieldLink RX4 19 "RiddlePrison$Prison" "men" "[LRiddlePrison$Man;") (by decide +kernel)
  have in_X4 := (fun w h => List.mem_cons_of_mem _ (List.mem_append_left _ (List.mem_append_right _ h)) : ∀ w ∈ wsX40, w ∈ wsX4_menWhoKnow)
  refine lv_iconst (v := nI 0) hx hb dX4_menWhoKnow_0 (by decide) ?_
  refine lv_istore_n (lv' := [(2, .int (nI 0)), (0, .ref (G.2.2.1 (1, q, 0))), (1, .int (nI d))]) hx hb dX4_menWhoKnow_1 rfl hl (by decide) rfl (fun ls hl => ?_)
  refine lv_iconst (v := nI 0) hx hb dX4_menWhoKnow_2 (by decide) ?_
  refine lv_istore_n (lv' := [(3, .int (nI 0)), (2, .int (nI 0)), (0, .ref (G.2.2.1 (1, q, 0))), (1, .int (nI d))]) hx hb dX4_menWhoKnow_3 rfl hl (by decide) rfl (fun ls hl => ?_)
  have lp_4 : ∀ (fu : Nat) (set : Int32) (k : Nat), nm - k < fu → (k ≤ nm) → (set = mkF (I q) d k) → ∀ H locs ls, jB G A s_.heap (I, J, O) H locs → lv_has ls 4 [(3, .int (nI k)), (2, .int set), (0, .ref (G.2.2.1 (1, q, 0))), (1, .int (nI d))] → W pg_ l_ ev_ ({ frames := 1, cells := 0, slots := 0, locals := 21 }) s_ mi_ ([.ref (G.2.2.1 (1, q, 0)), .int (nI d)]).toArray below meth cd_ H locs 0 0 (jQi G A below [.ref (G.2.2.1 (1, q, 0)), .int (nI d)] s_ (fun r u => r = mkF (I q) d nm ∧ u = (I, J, O))) (F0 mi_ 4 ls []) := by
    intro fu
    induction fu with
    | zero => intro set k hf; exact absurd hf (Nat.not_lt_zero _)
    | succ fu ih_4 =>
      intro set k hf_4 hk hs H locs ls hB hl
      refine lv_iload_n hx hb dX4_menWhoKnow_4 rfl (lv_at hl 0 rfl) ?_
      refine lv_aload_n hx hb dX4_menWhoKnow_5 rfl (lv_at hl 2 rfl) ?_
      refine j_get (1, q, 0) 3 (v := .int (I q 1)) hC hB in_X4 lk_32 dX4_menWhoKnow_6 (jk1 (by omega)) rfl rfl (by decide) rfl ?_
      refine j_eqi (x := I q 1) (y := nI nm) (hM) ?_
      refine jn_icmp_ge (tgt := 37) hx hb dX4_menWhoKnow_9 (by decide) (by omega) (by omega) (fun c_9 => ?_) (fun c_9 => ?_)
      · refine lv_iload_n hx hb dX4_menWhoKnow_37 rfl (lv_at hl 1 rfl) ?_
        exact j_iret hC hB dX4_menWhoKnow_38 (⟨by rw [hs, show k = nm by omega], rfl⟩)
      · refine lv_aload_n hx hb dX4_menWhoKnow_12 rfl (lv_at hl 2 rfl) ?_
        refine j_get (1, q, 0) 1 (v := .ref (G.2.2.1 (3, q, 0))) hC hB in_X4 lk_19 dX4_menWhoKnow_13 (jk1 (by omega)) rfl rfl (by decide) rfl ?_
        refine lv_iload_n hx hb dX4_menWhoKnow_16 rfl (lv_at hl 0 rfl) ?_
        refine j_ald (3, q, 0) (5, q, k) 4 k hC hB dX4_menWhoKnow_17 (jk3 (by omega)) rfl rfl rfl (by omega) (by decide) rfl ?_
        refine lv_iload_n hx hb dX4_menWhoKnow_18 rfl (lv_at hl 3 rfl) ?_
        refine j_cvi (5, q, k) [.int (nI d)] hC hB hl.1 (c_X3_knows l_ G I J O q k d ((jk5 (by omega) (by omega)))) (cwV 1 hts gX4_menWhoKnow_X3_knows rfl rfl rfl (by decide +kernel) ⟨by decide, by decide⟩) dX4_menWhoKnow_19 (jk5 (by omega) (by omega)) rfl rfl rfl rfl (Nat.le_of_ble_eq_true rfl) (fun r_19 u_19 H locs hp_19 hB => ?_)
        obtain ⟨rfl, rfl⟩ := hp_19
        refine jb_if_eq (tgt := 31) hx hb dX4_menWhoKnow_22 (by decide) (fun c_22 => ?_) (fun c_22 => ?_)
        · refine lv_iinc (v := nI (k + 1)) (lv' := [(3, .int (nI (k + 1))), (2, .int set), (0, .ref (G.2.2.1 (1, q, 0))), (1, .int (nI d))]) hx hb dX4_menWhoKnow_31 hl (k := 0) rfl (jn_inc _ 1) (by decide) rfl (fun ls hl => ?_)
          refine lv_goto (tgt := 4) hx hb dX4_menWhoKnow_34 (by decide) ?_
          exact ih_4 set (k + 1) (by omega) (by omega) (by simp [mkF, bitI, hs, c_22]) _ _ _ hB (lv_sub hl [0, 1, 2, 3] rfl)
        · refine lv_iload_n hx hb dX4_menWhoKnow_25 rfl (lv_at hl 1 rfl) ?_
          refine lv_iconst (v := nI 1) hx hb dX4_menWhoKnow_26 (by decide) ?_
          refine lv_iload_n hx hb dX4_menWhoKnow_27 rfl (lv_at hl 0 rfl) ?_
          refine lv_ishl hx hb dX4_menWhoKnow_28 ?_
          refine lv_ior hx hb dX4_menWhoKnow_29 ?_
          refine lv_istore_n (lv' := [(2, .int (set ||| ((nI 1) <<< ((nI k) &&& 31)))), (3, .int (nI k)), (0, .ref (G.2.2.1 (1, q, 0))), (1, .int (nI d))]) hx hb dX4_menWhoKnow_30 rfl hl (by decide) rfl (fun ls hl => ?_)
          refine lv_iinc (v := nI (k + 1)) (lv' := [(3, .int (nI (k + 1))), (2, .int (set ||| ((nI 1) <<< ((nI k) &&& 31)))), (0, .ref (G.2.2.1 (1, q, 0))), (1, .int (nI d))]) hx hb dX4_menWhoKnow_31 hl (k := 1) rfl (jn_inc _ 1) (by decide) rfl (fun ls hl => ?_)
          refine lv_goto (tgt := 4) hx hb dX4_menWhoKnow_34 (by decide) ?_
          exact ih_4 (set ||| ((nI 1) <<< ((nI k) &&& 31))) (k + 1) (by omega) (by omega) (by simp [mkF, bitI, hs, c_22]) _ _ _ hB (lv_sub hl [0, 1, 2, 3] rfl)
  exact lp_4 _ (nI 0) 0 (Nat.lt_succ_self _) (by omega) (rfl) _ _ _ hB (lv_sub hl [0, 1, 2, 3] rfl)

set_option maxHeartbeats 4000000 in
set_option maxRecDepth 100000 in
theorem c_X4_hardTogether (l_ : Launch) (G : jG) (I : Nat → Nat → Int32) (J : Nat → Nat → Int64) (O : Nat → Nat → Nat) (q : Nat) (hq : q < 19) {nd : Nat} (hnd : nd ≤ 10) (hD : I q 0 = nI nd) : jMi l_ G yX4_hardTogether wsX4_hardTogether ({ frames := 0, cells := 0, slots := 0, locals := 0 }) [.ref (G.2.2.1 (1, q, 0))] (I, J, O) (fun r u => r = hsF (I q) nd ∧ u = (I, J, O)) := by
  refine jMi_of (cc := cX4_hardTogether) (maxL := 3) (ret := (some .int)) (lv0 := [(0, .ref (G.2.2.1 (1, q, 0)))]) (by decide) rfl (Nat.le_of_ble_eq_true rfl) rfl ?_
  intro pg_ ev_ s_ mi_ below meth cd_ A ls hC hB hl
  obtain ⟨hx, hb, hr, hml, hown, hts, hlocks, hK, hA⟩ := id hC
  have lk_29 := hts (.fieldLink RX4 29 "RiddlePrison$Prison" "doorCount" "I") (by decide +kernel)
  have lk_11 := hts (.fieldLink RX4 11 "RiddlePrison$Prison" "doors" "[LRiddlePrison$Door;") (by decide +kernel)
  have ln_51 := (by decide +kernel : Cond.fieldLinkNest RX4 51 "RiddlePrison$Door" "hard" "I" "RiddlePrison" ∈ nsW)
  have in_X4 := (fun w h => List.mem_cons_of_mem _ (List.mem_append_left _ (List.mem_append_right _ h)) : ∀ w ∈ wsX40, w ∈ wsX4_hardTogether)
  have in_X0 := (fun w h => List.mem_cons_of_mem _ (List.mem_append_right _ h) : ∀ w ∈ wsX00, w ∈ wsX4_hardTogether)
  refine lv_iconst (v := nI 0) hx hb dX4_hardTogether_0 (by decide) ?_
  refine lv_istore_n (lv' := [(1, .int (nI 0)), (0, .ref (G.2.2.1 (1, q, 0)))]) hx hb dX4_hardTogether_1 rfl hl (by decide) rfl (fun ls hl => ?_)
  refine lv_iconst (v := nI 0) hx hb dX4_hardTogether_2 (by decide) ?_
  refine lv_istore_n (lv' := [(2, .int (nI 0)), (1, .int (nI 0)), (0, .ref (G.2.2.1 (1, q, 0)))]) hx hb dX4_hardTogether_3 rfl hl (by decide) rfl (fun ls hl => ?_)
  have lp_4 : ∀ (fu : Nat) (set : Int32) (k : Nat), nd - k < fu → (k ≤ nd) → (set = hsF (I q) k) → ∀ H locs ls, jB G A s_.heap (I, J, O) H locs → lv_has ls 3 [(2, .int (nI k)), (1, .int set), (0, .ref (G.2.2.1 (1, q, 0)))] → W pg_ l_ ev_ ({ frames := 0, cells := 0, slots := 0, locals := 0 }) s_ mi_ ([.ref (G.2.2.1 (1, q, 0))]).toArray below meth cd_ H locs 0 0 (jQi G A below [.ref (G.2.2.1 (1, q, 0))] s_ (fun r u => r = hsF (I q) nd ∧ u = (I, J, O))) (F0 mi_ 4 ls []) := by
    intro fu
    induction fu with
    | zero => intro set k hf; exact absurd hf (Nat.not_lt_zero _)
    | succ fu ih_4 =>
      intro set k hf_4 hk hs H locs ls hB hl
      refine lv_iload_n hx hb dX4_hardTogether_4 rfl (lv_at hl 0 rfl) ?_
      refine lv_aload_n hx hb dX4_hardTogether_5 rfl (lv_at hl 2 rfl) ?_
      refine j_get (1, q, 0) 2 (v := .int (I q 0)) hC hB in_X4 lk_29 dX4_hardTogether_6 (jk1 (by omega)) rfl rfl (by decide) rfl ?_
      refine j_eqi (x := I q 0) (y := nI nd) (hD) ?_
      refine jn_icmp_ge (tgt := 30) hx hb dX4_hardTogether_9 (by decide) (by omega) (by omega) (fun c_9 => ?_) (fun c_9 => ?_)
      · refine lv_iload_n hx hb dX4_hardTogether_30 rfl (lv_at hl 1 rfl) ?_
        exact j_iret hC hB dX4_hardTogether_31 (⟨by rw [hs, show k = nd by omega], rfl⟩)
      · refine lv_iload_n hx hb dX4_hardTogether_12 rfl (lv_at hl 1 rfl) ?_
        refine lv_aload_n hx hb dX4_hardTogether_13 rfl (lv_at hl 2 rfl) ?_
        refine j_get (1, q, 0) 0 (v := .ref (G.2.2.1 (2, q, 0))) hC hB in_X4 lk_11 dX4_hardTogether_14 (jk1 (by omega)) rfl rfl (by decide) rfl ?_
        refine lv_iload_n hx hb dX4_hardTogether_17 rfl (lv_at hl 0 rfl) ?_
        refine j_ald (2, q, 0) (4, q, k) 3 k hC hB dX4_hardTogether_18 (jk2 (by omega)) rfl rfl rfl (by omega) (by decide) rfl ?_
        refine j_getN (4, q, k) 3 (v := .int (I q (41 + k))) hC hB in_X0 ln_51 dX4_hardTogether_19 (jk4 (by omega) (by omega)) rfl rfl (by decide) rfl ?_
        refine lv_iadd hx hb dX4_hardTogether_22 ?_
        refine lv_istore_n (lv' := [(1, .int (set + ((I q) (41 + k)))), (2, .int (nI k)), (0, .ref (G.2.2.1 (1, q, 0)))]) hx hb dX4_hardTogether_23 rfl hl (by decide) rfl (fun ls hl => ?_)
        refine lv_iinc (v := nI (k + 1)) (lv' := [(2, .int (nI (k + 1))), (1, .int (set + ((I q) (41 + k)))), (0, .ref (G.2.2.1 (1, q, 0)))]) hx hb dX4_hardTogether_24 hl (k := 1) rfl (jn_inc _ 1) (by decide) rfl (fun ls hl => ?_)
        refine lv_goto (tgt := 4) hx hb dX4_hardTogether_27 (by decide) ?_
        exact ih_4 (set + ((I q) (41 + k))) (k + 1) (by omega) (by omega) (by rw [hs]; rfl) _ _ _ hB (lv_sub hl [0, 1, 2] rfl)
  exact lp_4 _ (nI 0) 0 (Nat.lt_succ_self _) (by omega) (rfl) _ _ _ hB (lv_sub hl [0, 1, 2] rfl)

set_option maxHeartbeats 4000000 in
set_option maxRecDepth 100000 in
theorem c_X4_failedTogether (l_ : Launch) (G : jG) (I : Nat → Nat → Int32) (J : Nat → Nat → Int64) (O : Nat → Nat → Nat) (q : Nat) (hq : q < 19) {nm : Nat} (hnm : nm ≤ 4) (hM : I q 1 = nI nm) : jMi l_ G yX4_failedTogether wsX4_failedTogether ({ frames := 0, cells := 0, slots := 0, locals := 0 }) [.ref (G.2.2.1 (1, q, 0))] (I, J, O) (fun r u => r = fsF (I q) nm ∧ u = (I, J, O)) := by
  refine jMi_of (cc := cX4_failedTogether) (maxL := 3) (ret := (some .int)) (lv0 := [(0, .ref (G.2.2.1 (1, q, 0)))]) (by decide) rfl (Nat.le_of_ble_eq_true rfl) rfl ?_
  intro pg_ ev_ s_ mi_ below meth cd_ A ls hC hB hl
  obtain ⟨hx, hb, hr, hml, hown, hts, hlocks, hK, hA⟩ := id hC
  have lk_32 := hts (.fieldLink RX4 32 "RiddlePrison$Prison" "manCount" "I") (by decide +kernel)
  have lk_19 := hts (.fieldLink RX4 19 "RiddlePrison$Prison" "men" "[LRiddlePrison$Man;") (by decide +kernel)
  have ln_69 := (by decide +kernel : Cond.fieldLinkNest RX4 69 "RiddlePrison$Man" "failed" "I" "RiddlePrison" ∈ nsW)
  have in_X4 := (fun w h => List.mem_cons_of_mem _ (List.mem_append_left _ (List.mem_append_right _ h)) : ∀ w ∈ wsX40, w ∈ wsX4_failedTogether)
  have in_X3 := (fun w h => List.mem_cons_of_mem _ (List.mem_append_right _ h) : ∀ w ∈ wsX30, w ∈ wsX4_failedTogether)
  refine lv_iconst (v := nI 0) hx hb dX4_failedTogether_0 (by decide) ?_
  refine lv_istore_n (lv' := [(1, .int (nI 0)), (0, .ref (G.2.2.1 (1, q, 0)))]) hx hb dX4_failedTogether_1 rfl hl (by decide) rfl (fun ls hl => ?_)
  refine lv_iconst (v := nI 0) hx hb dX4_failedTogether_2 (by decide) ?_
  refine lv_istore_n (lv' := [(2, .int (nI 0)), (1, .int (nI 0)), (0, .ref (G.2.2.1 (1, q, 0)))]) hx hb dX4_failedTogether_3 rfl hl (by decide) rfl (fun ls hl => ?_)
  have lp_4 : ∀ (fu : Nat) (set : Int32) (k : Nat), nm - k < fu → (k ≤ nm) → (set = fsF (I q) k) → ∀ H locs ls, jB G A s_.heap (I, J, O) H locs → lv_has ls 3 [(2, .int (nI k)), (1, .int set), (0, .ref (G.2.2.1 (1, q, 0)))] → W pg_ l_ ev_ ({ frames := 0, cells := 0, slots := 0, locals := 0 }) s_ mi_ ([.ref (G.2.2.1 (1, q, 0))]).toArray below meth cd_ H locs 0 0 (jQi G A below [.ref (G.2.2.1 (1, q, 0))] s_ (fun r u => r = fsF (I q) nm ∧ u = (I, J, O))) (F0 mi_ 4 ls []) := by
    intro fu
    induction fu with
    | zero => intro set k hf; exact absurd hf (Nat.not_lt_zero _)
    | succ fu ih_4 =>
      intro set k hf_4 hk hs H locs ls hB hl
      refine lv_iload_n hx hb dX4_failedTogether_4 rfl (lv_at hl 0 rfl) ?_
      refine lv_aload_n hx hb dX4_failedTogether_5 rfl (lv_at hl 2 rfl) ?_
      refine j_get (1, q, 0) 3 (v := .int (I q 1)) hC hB in_X4 lk_32 dX4_failedTogether_6 (jk1 (by omega)) rfl rfl (by decide) rfl ?_
      refine j_eqi (x := I q 1) (y := nI nm) (hM) ?_
      refine jn_icmp_ge (tgt := 30) hx hb dX4_failedTogether_9 (by decide) (by omega) (by omega) (fun c_9 => ?_) (fun c_9 => ?_)
      · refine lv_iload_n hx hb dX4_failedTogether_30 rfl (lv_at hl 1 rfl) ?_
        exact j_iret hC hB dX4_failedTogether_31 (⟨by rw [hs, show k = nm by omega], rfl⟩)
      · refine lv_iload_n hx hb dX4_failedTogether_12 rfl (lv_at hl 1 rfl) ?_
        refine lv_aload_n hx hb dX4_failedTogether_13 rfl (lv_at hl 2 rfl) ?_
        refine j_get (1, q, 0) 1 (v := .ref (G.2.2.1 (3, q, 0))) hC hB in_X4 lk_19 dX4_failedTogether_14 (jk1 (by omega)) rfl rfl (by decide) rfl ?_
        refine lv_iload_n hx hb dX4_failedTogether_17 rfl (lv_at hl 0 rfl) ?_
        refine j_ald (3, q, 0) (5, q, k) 4 k hC hB dX4_failedTogether_18 (jk3 (by omega)) rfl rfl rfl (by omega) (by decide) rfl ?_
        refine j_getN (5, q, k) 5 (v := .int (I q (59 + k))) hC hB in_X3 ln_69 dX4_failedTogether_19 (jk5 (by omega) (by omega)) rfl rfl (by decide) rfl ?_
        refine lv_iadd hx hb dX4_failedTogether_22 ?_
        refine lv_istore_n (lv' := [(1, .int (set + ((I q) (59 + k)))), (2, .int (nI k)), (0, .ref (G.2.2.1 (1, q, 0)))]) hx hb dX4_failedTogether_23 rfl hl (by decide) rfl (fun ls hl => ?_)
        refine lv_iinc (v := nI (k + 1)) (lv' := [(2, .int (nI (k + 1))), (1, .int (set + ((I q) (59 + k)))), (0, .ref (G.2.2.1 (1, q, 0)))]) hx hb dX4_failedTogether_24 hl (k := 1) rfl (jn_inc _ 1) (by decide) rfl (fun ls hl => ?_)
        refine lv_goto (tgt := 4) hx hb dX4_failedTogether_27 (by decide) ?_
        exact ih_4 (set + ((I q) (59 + k))) (k + 1) (by omega) (by omega) (by rw [hs]; rfl) _ _ _ hB (lv_sub hl [0, 1, 2] rfl)
  exact lp_4 _ (nI 0) 0 (Nat.lt_succ_self _) (by omega) (rfl) _ _ _ hB (lv_sub hl [0, 1, 2] rfl)

set_option maxHeartbeats 4000000 in
set_option maxRecDepth 100000 in
theorem c_X4_cellsWithMen (l_ : Launch) (G : jG) (I : Nat → Nat → Int32) (J : Nat → Nat → Int64) (O : Nat → Nat → Nat) (q : Nat) (hq : q < 19) {nm : Nat} (hnm : nm ≤ 4) (hM : I q 1 = nI nm) : jMi l_ G yX4_cellsWithMen wsX4_cellsWithMen ({ frames := 0, cells := 0, slots := 0, locals := 0 }) [.ref (G.2.2.1 (1, q, 0))] (I, J, O) (fun r u => r = clF (I q) nm ∧ u = (I, J, O)) := by
  refine jMi_of (cc := cX4_cellsWithMen) (maxL := 3) (ret := (some .int)) (lv0 := [(0, .ref (G.2.2.1 (1, q, 0)))]) (by decide) rfl (Nat.le_of_ble_eq_true rfl) rfl ?_
  intro pg_ ev_ s_ mi_ below meth cd_ A ls hC hB hl
  obtain ⟨hx, hb, hr, hml, hown, hts, hlocks, hK, hA⟩ := id hC
  have lk_32 := hts (.fieldLink RX4 32 "RiddlePrison$Prison" "manCount" "I") (by decide +kernel)
  have lk_19 := hts (.fieldLink RX4 19 "RiddlePrison$Prison" "men" "[LRiddlePrison$Man;") (by decide +kernel)
  have ln_63 := (by decide +kernel : Cond.fieldLinkNest RX4 63 "RiddlePrison$Man" "cell" "I" "RiddlePrison" ∈ nsW)
  have in_X4 := (fun w h => List.mem_cons_of_mem _ (List.mem_append_left _ (List.mem_append_right _ h)) : ∀ w ∈ wsX40, w ∈ wsX4_cellsWithMen)
  have in_X3 := (fun w h => List.mem_cons_of_mem _ (List.mem_append_right _ h) : ∀ w ∈ wsX30, w ∈ wsX4_cellsWithMen)
  refine lv_iconst (v := nI 0) hx hb dX4_cellsWithMen_0 (by decide) ?_
  refine lv_istore_n (lv' := [(1, .int (nI 0)), (0, .ref (G.2.2.1 (1, q, 0)))]) hx hb dX4_cellsWithMen_1 rfl hl (by decide) rfl (fun ls hl => ?_)
  refine lv_iconst (v := nI 0) hx hb dX4_cellsWithMen_2 (by decide) ?_
  refine lv_istore_n (lv' := [(2, .int (nI 0)), (1, .int (nI 0)), (0, .ref (G.2.2.1 (1, q, 0)))]) hx hb dX4_cellsWithMen_3 rfl hl (by decide) rfl (fun ls hl => ?_)
  have lp_4 : ∀ (fu : Nat) (set : Int32) (k : Nat), nm - k < fu → (k ≤ nm) → (set = clF (I q) k) → ∀ H locs ls, jB G A s_.heap (I, J, O) H locs → lv_has ls 3 [(2, .int (nI k)), (1, .int set), (0, .ref (G.2.2.1 (1, q, 0)))] → W pg_ l_ ev_ ({ frames := 0, cells := 0, slots := 0, locals := 0 }) s_ mi_ ([.ref (G.2.2.1 (1, q, 0))]).toArray below meth cd_ H locs 0 0 (jQi G A below [.ref (G.2.2.1 (1, q, 0))] s_ (fun r u => r = clF (I q) nm ∧ u = (I, J, O))) (F0 mi_ 4 ls []) := by
    intro fu
    induction fu with
    | zero => intro set k hf; exact absurd hf (Nat.not_lt_zero _)
    | succ fu ih_4 =>
      intro set k hf_4 hk hs H locs ls hB hl
      refine lv_iload_n hx hb dX4_cellsWithMen_4 rfl (lv_at hl 0 rfl) ?_
      refine lv_aload_n hx hb dX4_cellsWithMen_5 rfl (lv_at hl 2 rfl) ?_
      refine j_get (1, q, 0) 3 (v := .int (I q 1)) hC hB in_X4 lk_32 dX4_cellsWithMen_6 (jk1 (by omega)) rfl rfl (by decide) rfl ?_
      refine j_eqi (x := I q 1) (y := nI nm) (hM) ?_
      refine jn_icmp_ge (tgt := 32) hx hb dX4_cellsWithMen_9 (by decide) (by omega) (by omega) (fun c_9 => ?_) (fun c_9 => ?_)
      · refine lv_iload_n hx hb dX4_cellsWithMen_32 rfl (lv_at hl 1 rfl) ?_
        exact j_iret hC hB dX4_cellsWithMen_33 (⟨by rw [hs, show k = nm by omega], rfl⟩)
      · refine lv_iload_n hx hb dX4_cellsWithMen_12 rfl (lv_at hl 1 rfl) ?_
        refine lv_iconst (v := nI 1) hx hb dX4_cellsWithMen_13 (by decide) ?_
        refine lv_aload_n hx hb dX4_cellsWithMen_14 rfl (lv_at hl 2 rfl) ?_
        refine j_get (1, q, 0) 1 (v := .ref (G.2.2.1 (3, q, 0))) hC hB in_X4 lk_19 dX4_cellsWithMen_15 (jk1 (by omega)) rfl rfl (by decide) rfl ?_
        refine lv_iload_n hx hb dX4_cellsWithMen_18 rfl (lv_at hl 0 rfl) ?_
        refine j_ald (3, q, 0) (5, q, k) 4 k hC hB dX4_cellsWithMen_19 (jk3 (by omega)) rfl rfl rfl (by omega) (by decide) rfl ?_
        refine j_getN (5, q, k) 3 (v := .int (I q (51 + k))) hC hB in_X3 ln_63 dX4_cellsWithMen_20 (jk5 (by omega) (by omega)) rfl rfl (by decide) rfl ?_
        refine lv_ishl hx hb dX4_cellsWithMen_23 ?_
        refine lv_ior hx hb dX4_cellsWithMen_24 ?_
        refine lv_istore_n (lv' := [(1, .int (set ||| ((nI 1) <<< (((I q) (51 + k)) &&& 31)))), (2, .int (nI k)), (0, .ref (G.2.2.1 (1, q, 0)))]) hx hb dX4_cellsWithMen_25 rfl hl (by decide) rfl (fun ls hl => ?_)
        refine lv_iinc (v := nI (k + 1)) (lv' := [(2, .int (nI (k + 1))), (1, .int (set ||| ((nI 1) <<< (((I q) (51 + k)) &&& 31)))), (0, .ref (G.2.2.1 (1, q, 0)))]) hx hb dX4_cellsWithMen_26 hl (k := 1) rfl (jn_inc _ 1) (by decide) rfl (fun ls hl => ?_)
        refine lv_goto (tgt := 4) hx hb dX4_cellsWithMen_29 (by decide) ?_
        exact ih_4 (set ||| ((nI 1) <<< (((I q) (51 + k)) &&& 31))) (k + 1) (by omega) (by omega) (by rw [hs]; rfl) _ _ _ hB (lv_sub hl [0, 1, 2] rfl)
  exact lp_4 _ (nI 0) 0 (Nat.lt_succ_self _) (by omega) (rfl) _ _ _ hB (lv_sub hl [0, 1, 2] rfl)
