set_option maxHeartbeats 4000000 in
set_option maxRecDepth 100000 in
theorem c_X7_tellsPairs (l_ : Launch) (G : jG) (I : Nat → Nat → Int32) (J : Nat → Nat → Int64) (O : Nat → Nat → Nat) (s i n : Nat) (hs : s < 4) (hin : i + 2 * n ≤ 24) {nd : Nat} (hnd : nd ≤ 10) (hD : I 0 0 = nI nd) : jMi l_ G yX7_tellsPairs wsX7_tellsPairs ({ frames := 0, cells := 0, slots := 0, locals := 0 }) [.ref (G.2.2.1 (0, 0, 0)), .ref (G.2.2.1 (15, s, 0)), .int (nI i), .int (nI n)] (I, J, O) (fun r u => r = b2 (hpB (J (2 + s)) i nd n) ∧ u = (I, J, O)) := by
  refine jMi_of (cc := cX7_tellsPairs) (maxL := 9) (ret := (some .boolean)) (lv0 := [(0, .ref (G.2.2.1 (0, 0, 0))), (1, .ref (G.2.2.1 (15, s, 0))), (2, .int (nI i)), (3, .int (nI n))]) (by decide) rfl (Nat.le_of_ble_eq_true rfl) rfl ?_
  intro pg_ ev_ s_ mi_ below meth cd_ A ls hC hB hl
  obtain ⟨hx, hb, hr, hml, hown, hts, hlocks, hK, hA⟩ := id hC
  have ln_303 := (by decide +kernel : Cond.fieldLinkNest RX7 303 "RiddlePrison$Sheet" "items" "[J" "RiddlePrison" ∈ nsW)
  have lk_10 := hts (.fieldLink RX7 10 "RiddlePrison" "now" "LRiddlePrison$Prison;") (by decide +kernel)
  have ln_70 := (by decide +kernel : Cond.fieldLinkNest RX7 70 "RiddlePrison$Prison" "doorCount" "I" "RiddlePrison" ∈ nsW)
  have in_X5 := (fun w h => List.mem_cons_of_mem _ (List.mem_append_left _ (List.mem_append_left _ (List.mem_append_right _ h))) : ∀ w ∈ wsX50, w ∈ wsX7_tellsPairs)
  have in_X7 := (fun w h => List.mem_cons_of_mem _ (List.mem_append_left _ (List.mem_append_right _ h)) : ∀ w ∈ wsX70, w ∈ wsX7_tellsPairs)
  have in_X4 := (fun w h => List.mem_cons_of_mem _ (List.mem_append_right _ h) : ∀ w ∈ wsX40, w ∈ wsX7_tellsPairs)
  refine lv_iconst (v := nI 0) hx hb dX7_tellsPairs_0 (by decide) ?_
  refine lv_istore (lv' := [(4, .int (nI 0)), (0, .ref (G.2.2.1 (0, 0, 0))), (1, .ref (G.2.2.1 (15, s, 0))), (2, .int (nI i)), (3, .int (nI n))]) hx hb dX7_tellsPairs_1 hl (by decide) rfl (fun ls hl => ?_)
  have lp_3 : ∀ (fu : Nat) (k : Nat), n - k < fu → (k ≤ n) → (hpB (J (2 + s)) i nd k = true) → ∀ H locs ls, jB G A s_.heap (I, J, O) H locs → lv_has ls 9 [(4, .int (nI k)), (0, .ref (G.2.2.1 (0, 0, 0))), (1, .ref (G.2.2.1 (15, s, 0))), (2, .int (nI i)), (3, .int (nI n))] → W pg_ l_ ev_ ({ frames := 0, cells := 0, slots := 0, locals := 0 }) s_ mi_ ([.ref (G.2.2.1 (0, 0, 0)), .ref (G.2.2.1 (15, s, 0)), .int (nI i), .int (nI n)]).toArray below meth cd_ H locs 0 0 (jQi G A below [.ref (G.2.2.1 (0, 0, 0)), .ref (G.2.2.1 (15, s, 0)), .int (nI i), .int (nI n)] s_ (fun r u => r = b2 (hpB (J (2 + s)) i nd n) ∧ u = (I, J, O))) (F0 mi_ 3 ls []) := by
    intro fu
    induction fu with
    | zero => intro k hf; exact absurd hf (Nat.not_lt_zero _)
    | succ fu ih_3 =>
      intro k hf_3 hk hp H locs ls hB hl
      refine lv_iload hx hb dX7_tellsPairs_3 (lv_at hl 0 rfl) ?_
      refine lv_iload_n hx hb dX7_tellsPairs_5 rfl (lv_at hl 4 rfl) ?_
      refine jn_icmp_ge (tgt := 80) hx hb dX7_tellsPairs_6 (by decide) (by omega) (by omega) (fun c_6 => ?_) (fun c_6 => ?_)
      · refine lv_iconst (v := nI 1) hx hb dX7_tellsPairs_80 (by decide) ?_
        exact j_zret hC hB dX7_tellsPairs_81 (by decide) (⟨by rw [show n = k by omega, hp]; rfl, rfl⟩)
      · refine lv_aload_n hx hb dX7_tellsPairs_9 rfl (lv_at hl 2 rfl) ?_
        refine j_getN (15, s, 0) 0 (v := .ref (G.2.2.1 (22, 2 + s, 0))) hC hB in_X5 ln_303 dX7_tellsPairs_10 (jk15 (by omega)) rfl rfl (by decide) rfl ?_
        refine lv_iload_n hx hb dX7_tellsPairs_13 rfl (lv_at hl 3 rfl) ?_
        refine lv_iconst (v := nI 2) hx hb dX7_tellsPairs_14 (by decide) ?_
        refine lv_iload hx hb dX7_tellsPairs_15 (lv_at hl 0 rfl) ?_
        refine jn_imul hx hb dX7_tellsPairs_17 ?_
        refine jn_iadd hx hb dX7_tellsPairs_18 ?_
        refine j_lLd (2 + s) (i + 2 * k) hC hB dX7_tellsPairs_19 (by omega) rfl (by rw [lenJ_s hs]; omega) ?_
        refine j_eql (y := (J (2 + s)) (i + 2 * k)) rfl ?_
        refine lv_lstore (lv' := [(5, .long ((J (2 + s)) (i + 2 * k))), (4, .int (nI k)), (0, .ref (G.2.2.1 (0, 0, 0))), (1, .ref (G.2.2.1 (15, s, 0))), (2, .int (nI i)), (3, .int (nI n))]) hx hb dX7_tellsPairs_20 hl (by decide) rfl (fun ls hl => ?_)
        refine lv_aload_n hx hb dX7_tellsPairs_22 rfl (lv_at hl 3 rfl) ?_
        refine j_getN (15, s, 0) 0 (v := .ref (G.2.2.1 (22, 2 + s, 0))) hC hB in_X5 ln_303 dX7_tellsPairs_23 (jk15 (by omega)) rfl rfl (by decide) rfl ?_
        refine lv_iload_n hx hb dX7_tellsPairs_26 rfl (lv_at hl 4 rfl) ?_
        refine lv_iconst (v := nI 2) hx hb dX7_tellsPairs_27 (by decide) ?_
        refine lv_iload hx hb dX7_tellsPairs_28 (lv_at hl 1 rfl) ?_
        refine jn_imul hx hb dX7_tellsPairs_30 ?_
        refine jn_iadd hx hb dX7_tellsPairs_31 ?_
        refine lv_iconst (v := nI 1) hx hb dX7_tellsPairs_32 (by decide) ?_
        refine jn_iadd hx hb dX7_tellsPairs_33 ?_
        refine j_lLd (2 + s) (i + 2 * k + 1) hC hB dX7_tellsPairs_34 (by omega) rfl (by rw [lenJ_s hs]; omega) ?_
        refine j_eql (y := (J (2 + s)) (i + 2 * k + 1)) rfl ?_
        refine lv_lstore (lv' := [(7, .long ((J (2 + s)) (i + 2 * k + 1))), (5, .long ((J (2 + s)) (i + 2 * k))), (4, .int (nI k)), (0, .ref (G.2.2.1 (0, 0, 0))), (1, .ref (G.2.2.1 (15, s, 0))), (2, .int (nI i)), (3, .int (nI n))]) hx hb dX7_tellsPairs_35 hl (by decide) rfl (fun ls hl => ?_)
        refine lv_lload hx hb dX7_tellsPairs_37 (lv_at hl 1 rfl) ?_
        refine lv_lconst (v := 0) hx hb dX7_tellsPairs_39 rfl ?_
        refine W.lcmp hx hb dX7_tellsPairs_40 ?_
        refine jl_if_lt (tgt := 72) hx hb dX7_tellsPairs_41 (by decide) (fun c_41 => ?_) (fun c_41 => ?_)
        · refine lv_iconst (v := nI 0) hx hb dX7_tellsPairs_72 (by decide) ?_
          exact j_zret hC hB dX7_tellsPairs_73 (by decide) (⟨by rw [hpB_stop (show hpB (J (2 + s)) i nd (k + 1) = false from by simp [hpB, inR_nd hnd, inR_01, c_41]) n (by omega)]; rfl, rfl⟩)
        · refine lv_lload hx hb dX7_tellsPairs_44 (lv_at hl 1 rfl) ?_
          refine lv_aload_n hx hb dX7_tellsPairs_46 rfl (lv_at hl 3 rfl) ?_
          refine j_get (0, 0, 0) 0 (v := .ref (G.2.2.1 (1, 0, 0))) hC hB in_X7 lk_10 dX7_tellsPairs_47 jk0 rfl rfl (by decide) rfl ?_
          refine j_getN (1, 0, 0) 2 (v := .int (I 0 0)) hC hB in_X4 ln_70 dX7_tellsPairs_50 (jk1 (by omega)) rfl rfl (by decide) rfl ?_
          refine j_eqi (x := I 0 0) (y := nI nd) (hD) ?_
          refine lv_i2l (v := (nI nd).toInt64) hx hb dX7_tellsPairs_53 rfl ?_
          refine W.lcmp hx hb dX7_tellsPairs_54 ?_
          refine jl_if_ge (tgt := 72) hx hb dX7_tellsPairs_55 (by decide) (fun c_55 => ?_) (fun c_55 => ?_)
          · refine lv_iconst (v := nI 0) hx hb dX7_tellsPairs_72 (by decide) ?_
            exact j_zret hC hB dX7_tellsPairs_73 (by decide) (⟨by rw [hpB_stop (show hpB (J (2 + s)) i nd (k + 1) = false from by simp [hpB, inR_nd hnd, inR_01, c_55]) n (by omega)]; rfl, rfl⟩)
          · refine lv_lload hx hb dX7_tellsPairs_58 (lv_at hl 0 rfl) ?_
            refine lv_lconst (v := 0) hx hb dX7_tellsPairs_60 rfl ?_
            refine W.lcmp hx hb dX7_tellsPairs_61 ?_
            refine jl_if_lt (tgt := 72) hx hb dX7_tellsPairs_62 (by decide) (fun c_62 => ?_) (fun c_62 => ?_)
            · refine lv_iconst (v := nI 0) hx hb dX7_tellsPairs_72 (by decide) ?_
              exact j_zret hC hB dX7_tellsPairs_73 (by decide) (⟨by rw [hpB_stop (show hpB (J (2 + s)) i nd (k + 1) = false from by simp [hpB, inR_nd hnd, inR_01, c_62]) n (by omega)]; rfl, rfl⟩)
            · refine lv_lload hx hb dX7_tellsPairs_65 (lv_at hl 0 rfl) ?_
              refine lv_lconst (v := 1) hx hb dX7_tellsPairs_67 rfl ?_
              refine W.lcmp hx hb dX7_tellsPairs_68 ?_
              refine jl_if_le (tgt := 74) hx hb dX7_tellsPairs_69 (by decide) (fun c_69 => ?_) (fun c_69 => ?_)
              · refine lv_iinc (v := nI (k + 1)) (lv' := [(4, .int (nI (k + 1))), (7, .long ((J (2 + s)) (i + 2 * k + 1))), (5, .long ((J (2 + s)) (i + 2 * k))), (0, .ref (G.2.2.1 (0, 0, 0))), (1, .ref (G.2.2.1 (15, s, 0))), (2, .int (nI i)), (3, .int (nI n))]) hx hb dX7_tellsPairs_74 hl (k := 2) rfl (jn_inc _ 1) (by decide) rfl (fun ls hl => ?_)
                refine lv_goto (tgt := 3) hx hb dX7_tellsPairs_77 (by decide) ?_
                exact ih_3 (k + 1) (by omega) (by omega) (by simp [hpB, hp, inR_nd hnd, inR_01, Int64.not_lt.mp c_41, Int64.not_le.mp c_55, Int64.not_lt.mp c_62, c_69]) _ _ _ hB (lv_sub hl [0, 3, 4, 5, 6] rfl)
              · refine lv_iconst (v := nI 0) hx hb dX7_tellsPairs_72 (by decide) ?_
                exact j_zret hC hB dX7_tellsPairs_73 (by decide) (⟨by rw [hpB_stop (show hpB (J (2 + s)) i nd (k + 1) = false from by simp [hpB, inR_nd hnd, inR_01, Int64.not_le.mp c_69]) n (by omega)]; rfl, rfl⟩)
  exact lp_3 _ 0 (Nat.lt_succ_self _) (by omega) (rfl) _ _ _ hB (lv_sub hl [0, 1, 2, 3, 4] rfl)

set_option maxHeartbeats 4000000 in
set_option maxRecDepth 100000 in
theorem c_X7_trialGoesAs (l_ : Launch) (G : jG) (I : Nat → Nat → Int32) (J : Nat → Nat → Int64) (O : Nat → Nat → Nat) (s i n : Nat) (hs : s < 4) (hin : i + 2 * n ≤ 24) {nd : Nat} (hnd : nd ≤ 10) (hD : I 0 0 = nI nd) (hHD : ∀ k, k < n → ∃ d, d < nd ∧ (J (2 + s) (i + 2 * k)).toInt32 = nI d) : jMi l_ G yX7_trialGoesAs wsX7_trialGoesAs ({ frames := 4, cells := 0, slots := 0, locals := 98 }) [.ref (G.2.2.1 (0, 0, 0)), .ref (G.2.2.1 (15, s, 0)), .int (nI i), .int (nI n)] (I, J, O) (fun r u => r = b2 ((tgR (I 0) (J (2 + s)) i n (I 20)).2) ∧ u = (sr I 20 ((tgR (I 0) (J (2 + s)) i n (I 20)).1), J, O)) := by
  refine jMi_of (cc := cX7_trialGoesAs) (maxL := 7) (ret := (some .boolean)) (lv0 := [(0, .ref (G.2.2.1 (0, 0, 0))), (1, .ref (G.2.2.1 (15, s, 0))), (2, .int (nI i)), (3, .int (nI n))]) (by decide) rfl (Nat.le_of_ble_eq_true rfl) rfl ?_
  intro pg_ ev_ s_ mi_ below meth cd_ A ls hC hB hl
  obtain ⟨hx, hb, hr, hml, hown, hts, hlocks, hK, hA⟩ := id hC
  have ln_303 := (by decide +kernel : Cond.fieldLinkNest RX7 303 "RiddlePrison$Sheet" "items" "[J" "RiddlePrison" ∈ nsW)
  have lk_10 := hts (.fieldLink RX7 10 "RiddlePrison" "now" "LRiddlePrison$Prison;") (by decide +kernel)
  have lk_51 := hts (.fieldLink RX7 51 "RiddlePrison" "trial" "LRiddlePrison$Man;") (by decide +kernel)
  have in_X5 := (fun w h => List.mem_cons_of_mem _ (List.mem_append_left _ (List.mem_append_left _ (List.mem_append_left _ (List.mem_append_left _ (List.mem_append_right _ h))))) : ∀ w ∈ wsX50, w ∈ wsX7_trialGoesAs)
  have in_X7 := (fun w h => List.mem_cons_of_mem _ (List.mem_append_left _ (List.mem_append_left _ (List.mem_append_left _ (List.mem_append_right _ h)))) : ∀ w ∈ wsX70, w ∈ wsX7_trialGoesAs)
  refine lv_iconst (v := nI 0) hx hb dX7_trialGoesAs_0 (by decide) ?_
  refine lv_istore (lv' := [(4, .int (nI 0)), (0, .ref (G.2.2.1 (0, 0, 0))), (1, .ref (G.2.2.1 (15, s, 0))), (2, .int (nI i)), (3, .int (nI n))]) hx hb dX7_trialGoesAs_1 hl (by decide) rfl (fun ls hl => ?_)
  have lp_3 : ∀ (fu : Nat) (u : Nat → Int32) (k : Nat), n - k < fu → (k ≤ n) → ((u, true) = it (tgS (I 0) (J (2 + s)) i) k (I 20, true)) → ∀ H locs ls, jB G A s_.heap (sr I 20 (u), J, O) H locs → lv_has ls 7 [(4, .int (nI k)), (0, .ref (G.2.2.1 (0, 0, 0))), (1, .ref (G.2.2.1 (15, s, 0))), (2, .int (nI i)), (3, .int (nI n))] → W pg_ l_ ev_ ({ frames := 4, cells := 0, slots := 0, locals := 98 }) s_ mi_ ([.ref (G.2.2.1 (0, 0, 0)), .ref (G.2.2.1 (15, s, 0)), .int (nI i), .int (nI n)]).toArray below meth cd_ H locs 0 0 (jQi G A below [.ref (G.2.2.1 (0, 0, 0)), .ref (G.2.2.1 (15, s, 0)), .int (nI i), .int (nI n)] s_ (fun r u => r = b2 ((tgR (I 0) (J (2 + s)) i n (I 20)).2) ∧ u = (sr I 20 ((tgR (I 0) (J (2 + s)) i n (I 20)).1), J, O))) (F0 mi_ 3 ls []) := by
    intro fu
    induction fu with
    | zero => intro u k hf; exact absurd hf (Nat.not_lt_zero _)
    | succ fu ih_3 =>
      intro u k hf_3 hk hs2 H locs ls hB hl
      refine lv_iload hx hb dX7_trialGoesAs_3 (lv_at hl 0 rfl) ?_
      refine lv_iload_n hx hb dX7_trialGoesAs_5 rfl (lv_at hl 4 rfl) ?_
      refine jn_icmp_ge (tgt := 74) hx hb dX7_trialGoesAs_6 (by decide) (by omega) (by omega) (fun c_6 => ?_) (fun c_6 => ?_)
      · refine lv_iconst (v := nI 1) hx hb dX7_trialGoesAs_74 (by decide) ?_
        exact j_zret hC hB dX7_trialGoesAs_75 (by decide) (⟨by unfold tgR; rw [show n = k by omega, ← hs2]; rfl, by unfold tgR; rw [show n = k by omega, ← hs2]⟩)
      · obtain ⟨d, hd, ed⟩ := hHD k (by omega)
        refine lv_aload_n hx hb dX7_trialGoesAs_9 rfl (lv_at hl 2 rfl) ?_
        refine j_getN (15, s, 0) 0 (v := .ref (G.2.2.1 (22, 2 + s, 0))) hC hB in_X5 ln_303 dX7_trialGoesAs_10 (jk15 (by omega)) rfl rfl (by decide) rfl ?_
        refine lv_iload_n hx hb dX7_trialGoesAs_13 rfl (lv_at hl 3 rfl) ?_
        refine lv_iconst (v := nI 2) hx hb dX7_trialGoesAs_14 (by decide) ?_
        refine lv_iload hx hb dX7_trialGoesAs_15 (lv_at hl 0 rfl) ?_
        refine jn_imul hx hb dX7_trialGoesAs_17 ?_
        refine jn_iadd hx hb dX7_trialGoesAs_18 ?_
        refine j_lLd (2 + s) (i + 2 * k) hC hB dX7_trialGoesAs_19 (by omega) rfl (by rw [lenJ_s hs]; omega) ?_
        refine j_eql (y := (J (2 + s)) (i + 2 * k)) rfl ?_
        refine lv_l2i (v := ((J (2 + s)) (i + 2 * k)).toInt32) hx hb dX7_trialGoesAs_20 rfl ?_
        refine j_eqi (y := nI d) (ed) ?_
        refine lv_istore (lv' := [(5, .int (nI d)), (4, .int (nI k)), (0, .ref (G.2.2.1 (0, 0, 0))), (1, .ref (G.2.2.1 (15, s, 0))), (2, .int (nI i)), (3, .int (nI n))]) hx hb dX7_trialGoesAs_21 hl (by decide) rfl (fun ls hl => ?_)
        refine lv_aload_n hx hb dX7_trialGoesAs_23 rfl (lv_at hl 2 rfl) ?_
        refine j_get (0, 0, 0) 0 (v := .ref (G.2.2.1 (1, 0, 0))) hC hB in_X7 lk_10 dX7_trialGoesAs_24 jk0 rfl rfl (by decide) rfl ?_
        refine lv_aload_n hx hb dX7_trialGoesAs_27 rfl (lv_at hl 2 rfl) ?_
        refine j_get (0, 0, 0) 8 (v := .ref (G.2.2.1 (5, 20, 0))) hC hB in_X7 lk_51 dX7_trialGoesAs_28 jk0 rfl rfl (by decide) rfl ?_
        refine lv_iload hx hb dX7_trialGoesAs_31 (lv_at hl 0 rfl) ?_
        refine j_cvi (1, 0, 0) [.ref (G.2.2.1 (5, 20, 0)), .int (nI d)] hC hB hl.1 (c_X4_letTry l_ G (sr I 20 (u)) J O 0 20 0 d (by omega) (jk5t) (by omega)) (cwV 2 hts gX7_trialGoesAs_X4_letTry rfl rfl rfl (by decide +kernel) ⟨by decide, by decide⟩) dX7_trialGoesAs_33 (jk1 (by omega)) rfl rfl rfl rfl (Nat.le_of_ble_eq_true rfl) (fun r_33 u_33 H locs hp_33 hB => ?_)
        obtain ⟨rfl, rfl⟩ := hp_33
        have hB : jB G A s_.heap (sr I 20 (ltR (I 0) (u) 0 d), J, O) H locs := by (rw [show sr I 20 (ltR (I 0) (u) 0 d) = sr (sr I 20 (u)) 20 (ltR (I 0) (u) 0 d) from by funext a; simp +decide only [sr]; (repeat' split) <;> first | rfl | (exfalso; omega) | (subst_vars; rfl)]; exact hB)
        refine j_eqi (y := b2 (opB (I 0) (u) 0 d)) (rfl) ?_
        refine lv_istore (lv' := [(6, .int (b2 (opB (I 0) (u) 0 d))), (5, .int (nI d)), (4, .int (nI k)), (0, .ref (G.2.2.1 (0, 0, 0))), (1, .ref (G.2.2.1 (15, s, 0))), (2, .int (nI i)), (3, .int (nI n))]) hx hb dX7_trialGoesAs_36 hl (by decide) rfl (fun ls hl => ?_)
        refine lv_iload hx hb dX7_trialGoesAs_38 (lv_at hl 0 rfl) ?_
        refine lv_aload_n hx hb dX7_trialGoesAs_40 rfl (lv_at hl 4 rfl) ?_
        refine j_getN (15, s, 0) 0 (v := .ref (G.2.2.1 (22, 2 + s, 0))) hC hB in_X5 ln_303 dX7_trialGoesAs_41 (jk15 (by omega)) rfl rfl (by decide) rfl ?_
        refine lv_iload_n hx hb dX7_trialGoesAs_44 rfl (lv_at hl 5 rfl) ?_
        refine lv_iconst (v := nI 2) hx hb dX7_trialGoesAs_45 (by decide) ?_
        refine lv_iload hx hb dX7_trialGoesAs_46 (lv_at hl 2 rfl) ?_
        refine jn_imul hx hb dX7_trialGoesAs_48 ?_
        refine jn_iadd hx hb dX7_trialGoesAs_49 ?_
        refine lv_iconst (v := nI 1) hx hb dX7_trialGoesAs_50 (by decide) ?_
        refine jn_iadd hx hb dX7_trialGoesAs_51 ?_
        refine j_lLd (2 + s) (i + 2 * k + 1) hC hB dX7_trialGoesAs_52 (by omega) rfl (by rw [lenJ_s hs]; omega) ?_
        refine j_eql (y := (J (2 + s)) (i + 2 * k + 1)) rfl ?_
        refine lv_lconst (v := 1) hx hb dX7_trialGoesAs_53 rfl ?_
        refine W.lcmp hx hb dX7_trialGoesAs_54 ?_
        refine jl_if_ne (tgt := 62) hx hb dX7_trialGoesAs_55 (by decide) (fun c_55 => ?_) (fun c_55 => ?_)
        · refine lv_iconst (v := nI 0) hx hb dX7_trialGoesAs_62 (by decide) ?_
          refine lv_icmp_eq (tgt := 68) hx hb dX7_trialGoesAs_63 (by decide) (fun c_63 => ?_) (fun c_63 => ?_)
          · have hob : opB (I 0) u 0 d = false := by have z := c_63; rw [b2_e0] at z; exact z
            have hst : (ltR (I 0) u 0 d, true) = it (tgS (I 0) (J (2 + s)) i) (k + 1) (I 20, true) := by rw [it_s, ← hs2]; show _ = (ltR (I 0) u 0 (tN (J (2 + s) (i + 2 * k)).toInt32), opB (I 0) u 0 (tN (J (2 + s) (i + 2 * k)).toInt32) == decide (J (2 + s) (i + 2 * k + 1) = 1)); rw [ed, show tN (nI d) = d from nIc (by omega), decide_eq_false c_55, hob]; rfl
            refine lv_iinc (v := nI (k + 1)) (lv' := [(4, .int (nI (k + 1))), (6, .int (b2 (opB (I 0) (u) 0 d))), (5, .int (nI d)), (0, .ref (G.2.2.1 (0, 0, 0))), (1, .ref (G.2.2.1 (15, s, 0))), (2, .int (nI i)), (3, .int (nI n))]) hx hb dX7_trialGoesAs_68 hl (k := 2) rfl (jn_inc _ 1) (by decide) rfl (fun ls hl => ?_)
            refine lv_goto (tgt := 3) hx hb dX7_trialGoesAs_71 (by decide) ?_
            exact ih_3 (ltR (I 0) (u) 0 d) (k + 1) (by omega) (by omega) (hst) _ _ _ hB (lv_sub hl [0, 3, 4, 5, 6] rfl)
          · have hob : opB (I 0) u 0 d = true := by have z := c_63; rw [b2_e0] at z; simpa using z
            have hst : (ltR (I 0) u 0 d, false) = it (tgS (I 0) (J (2 + s)) i) (k + 1) (I 20, true) := by rw [it_s, ← hs2]; show _ = (ltR (I 0) u 0 (tN (J (2 + s) (i + 2 * k)).toInt32), opB (I 0) u 0 (tN (J (2 + s) (i + 2 * k)).toInt32) == decide (J (2 + s) (i + 2 * k + 1) = 1)); rw [ed, show tN (nI d) = d from nIc (by omega), decide_eq_false c_55, hob]; rfl
            refine lv_iconst (v := nI 0) hx hb dX7_trialGoesAs_66 (by decide) ?_
            exact j_zret hC hB dX7_trialGoesAs_67 (by decide) (⟨by rw [tg_stop (show k + 1 ≤ n by omega) hst.symm]; rfl, by rw [tg_stop (show k + 1 ≤ n by omega) hst.symm]⟩)
        · refine lv_iconst (v := nI 1) hx hb dX7_trialGoesAs_58 (by decide) ?_
          refine lv_goto (tgt := 63) hx hb dX7_trialGoesAs_59 (by decide) ?_
          refine lv_icmp_eq (tgt := 68) hx hb dX7_trialGoesAs_63 (by decide) (fun c_63 => ?_) (fun c_63 => ?_)
          · have hob : opB (I 0) u 0 d = true := by have z := c_63; rw [b2_e1] at z; exact z
            have hst : (ltR (I 0) u 0 d, true) = it (tgS (I 0) (J (2 + s)) i) (k + 1) (I 20, true) := by rw [it_s, ← hs2]; show _ = (ltR (I 0) u 0 (tN (J (2 + s) (i + 2 * k)).toInt32), opB (I 0) u 0 (tN (J (2 + s) (i + 2 * k)).toInt32) == decide (J (2 + s) (i + 2 * k + 1) = 1)); rw [ed, show tN (nI d) = d from nIc (by omega), decide_eq_true c_55, hob]; rfl
            refine lv_iinc (v := nI (k + 1)) (lv' := [(4, .int (nI (k + 1))), (6, .int (b2 (opB (I 0) (u) 0 d))), (5, .int (nI d)), (0, .ref (G.2.2.1 (0, 0, 0))), (1, .ref (G.2.2.1 (15, s, 0))), (2, .int (nI i)), (3, .int (nI n))]) hx hb dX7_trialGoesAs_68 hl (k := 2) rfl (jn_inc _ 1) (by decide) rfl (fun ls hl => ?_)
            refine lv_goto (tgt := 3) hx hb dX7_trialGoesAs_71 (by decide) ?_
            exact ih_3 (ltR (I 0) (u) 0 d) (k + 1) (by omega) (by omega) (hst) _ _ _ hB (lv_sub hl [0, 3, 4, 5, 6] rfl)
          · have hob : opB (I 0) u 0 d = false := by have z := c_63; rw [b2_e1] at z; exact Bool.eq_false_iff.mpr z
            have hst : (ltR (I 0) u 0 d, false) = it (tgS (I 0) (J (2 + s)) i) (k + 1) (I 20, true) := by rw [it_s, ← hs2]; show _ = (ltR (I 0) u 0 (tN (J (2 + s) (i + 2 * k)).toInt32), opB (I 0) u 0 (tN (J (2 + s) (i + 2 * k)).toInt32) == decide (J (2 + s) (i + 2 * k + 1) = 1)); rw [ed, show tN (nI d) = d from nIc (by omega), decide_eq_true c_55, hob]; rfl
            refine lv_iconst (v := nI 0) hx hb dX7_trialGoesAs_66 (by decide) ?_
            exact j_zret hC hB dX7_trialGoesAs_67 (by decide) (⟨by rw [tg_stop (show k + 1 ≤ n by omega) hst.symm]; rfl, by rw [tg_stop (show k + 1 ≤ n by omega) hst.symm]⟩)
  exact lp_3 _ (I 20) 0 (Nat.lt_succ_self _) (by omega) (rfl) _ _ _ (jB_cast2 hB (by first | exact (sr_id _ _).symm | (funext a_; simp +decide only [sr]; (repeat' split) <;> first | rfl | (exfalso; omega) | (subst_vars; rfl))) rfl) (lv_sub hl [0, 1, 2, 3, 4] rfl)

set_option maxHeartbeats 4000000 in
set_option maxRecDepth 100000 in
theorem c_X7_heard (l_ : Launch) (G : jG) (I : Nat → Nat → Int32) (J : Nat → Nat → Int64) (O : Nat → Nat → Nat) (man sheet lane i n what : Int32) {nd : Nat} (hnd : nd ≤ 10) (hD : I 0 0 = nI nd) {nm : Nat} (hnm : nm ≤ 4) (hM : I 0 1 = nI nm) (hHo : ∀ s, s < 4 → ∃ b, I 33 (3 * s) = b2 b) (hSz : ∀ s, s < 4 → ∃ sz, sz ≤ 24 ∧ I 33 (3 * s + 2) = nI sz) : jMi l_ G yX7_heard wsX7_heard ({ frames := 5, cells := 0, slots := 0, locals := 124 }) [.ref (G.2.2.1 (0, 0, 0)), .int man, .int sheet, .int lane, .int i, .int n, .int what] (I, J, O) (fun r u => r = heaC (I 0) (I 33) J nd nm man sheet lane i n what ∧ SCs (I, J, O) u) := by
  refine jMi_of (cc := cX7_heard) (maxL := 12) (ret := (some .int)) (lv0 := [(0, .ref (G.2.2.1 (0, 0, 0))), (1, .int man), (2, .int sheet), (3, .int lane), (4, .int i), (5, .int n), (6, .int what)]) (by decide) rfl (Nat.le_of_ble_eq_true rfl) rfl ?_
  intro pg_ ev_ s_ mi_ below meth cd_ A ls hC hB hl
  obtain ⟨hx, hb, hr, hml, hown, hts, hlocks, hK, hA⟩ := id hC
  have lk_57 := hts (.fieldLink RX7 57 "RiddlePrison" "sheets" "[LRiddlePrison$Sheet;") (by decide +kernel)
  have lk_51 := hts (.fieldLink RX7 51 "RiddlePrison" "trial" "LRiddlePrison$Man;") (by decide +kernel)
  have lk_10 := hts (.fieldLink RX7 10 "RiddlePrison" "now" "LRiddlePrison$Prison;") (by decide +kernel)
  have ln_121 := (by decide +kernel : Cond.fieldLinkNest RX7 121 "RiddlePrison$Prison" "men" "[LRiddlePrison$Man;" "RiddlePrison" ∈ nsW)
  have ln_128 := (by decide +kernel : Cond.fieldLinkNest RX7 128 "RiddlePrison$Man" "wit" "I" "RiddlePrison" ∈ nsW)
  have ln_125 := (by decide +kernel : Cond.fieldLinkNest RX7 125 "RiddlePrison$Man" "kind" "I" "RiddlePrison" ∈ nsW)
  have in_X7 := (fun w h => List.mem_cons_of_mem _ (List.mem_append_left _ (List.mem_append_left _ (List.mem_append_left _ (List.mem_append_left _ (List.mem_append_right _ h))))) : ∀ w ∈ wsX70, w ∈ wsX7_heard)
  have in_X4 := (fun w h => List.mem_cons_of_mem _ (List.mem_append_left _ (List.mem_append_left _ (List.mem_append_left _ (List.mem_append_right _ h)))) : ∀ w ∈ wsX40, w ∈ wsX7_heard)
  have in_X3 := (fun w h => List.mem_cons_of_mem _ (List.mem_append_left _ (List.mem_append_left _ (List.mem_append_right _ h))) : ∀ w ∈ wsX30, w ∈ wsX7_heard)
  refine lv_aload_n hx hb dX7_heard_0 rfl (lv_at hl 0 rfl) ?_
  refine lv_iload_n hx hb dX7_heard_1 rfl (lv_at hl 1 rfl) ?_
  refine j_cvi (0, 0, 0) [.int man] hC hB hl.1 (c_X7_isMan l_ G I J O man (by omega) (hM)) (cwV 1 hts gX7_heard_X7_isMan rfl rfl rfl (by decide +kernel) ⟨by decide, by decide⟩) dX7_heard_2 jk0 rfl rfl rfl rfl (Nat.le_of_ble_eq_true rfl) (fun r_2 u_2 H locs hp_2 hB => ?_)
  obtain ⟨rfl, rfl⟩ := hp_2
  refine jb_if_eq (tgt := 38) hx hb dX7_heard_5 (by decide) (fun c_5 => ?_) (fun c_5 => ?_)
  · refine lv_iconst (v := (-1 : Int32)) hx hb dX7_heard_38 (by decide) ?_
    exact j_iret hC hB dX7_heard_39 (⟨by simp [heaC, n18, c_5], ⟨SCI.rf, SCJ.rf, rfl⟩⟩)
  · obtain ⟨mm, hmm, rfl⟩ := isB_nat c_5 (by omega)
    refine lv_iload_n hx hb dX7_heard_8 rfl (lv_at hl 2 rfl) ?_
    refine lv_iload_n hx hb dX7_heard_9 rfl (lv_at hl 3 rfl) ?_
    refine j_csi [.int sheet, .int lane] hC hB hl.1 (c_X7_isSheetLane l_ G I J O sheet lane) (va_cwS 2 hts gX7_heard_X7_isSheetLane rfl rfl rfl (by decide +kernel) ⟨by decide, by decide⟩) dX7_heard_10 rfl rfl (Nat.le_of_ble_eq_true rfl) (fun r_10 u_10 H locs hp_10 hB => ?_)
    obtain ⟨rfl, rfl⟩ := hp_10
    refine jb_if_eq (tgt := 38) hx hb dX7_heard_13 (by decide) (fun c_13 => ?_) (fun c_13 => ?_)
    · refine lv_iconst (v := (-1 : Int32)) hx hb dX7_heard_38 (by decide) ?_
      exact j_iret hC hB dX7_heard_39 (⟨by simp [heaC, n18, c_5, c_13], ⟨SCI.rf, SCJ.rf, rfl⟩⟩)
    · have h45 := (Bool.and_eq_true _ _).mp c_13
      obtain ⟨ss, hss, rfl⟩ := isB_nat h45.1 (by omega)
      obtain ⟨hold, ehold⟩ := hHo ss hss
      obtain ⟨sz, hsz, esz⟩ := hSz ss hss
      refine lv_iload hx hb dX7_heard_16 (lv_at hl 5 rfl) ?_
      refine lv_iconst (v := nI 1) hx hb dX7_heard_18 (by decide) ?_
      refine lv_icmp_lt (tgt := 38) hx hb dX7_heard_19 (by decide) (fun c_19 => ?_) (fun c_19 => ?_)
      · refine lv_iconst (v := (-1 : Int32)) hx hb dX7_heard_38 (by decide) ?_
        exact j_iret hC hB dX7_heard_39 (⟨by simp [heaC, n18, c_5, c_13, c_19], ⟨SCI.rf, SCJ.rf, rfl⟩⟩)
      · refine lv_iload hx hb dX7_heard_22 (lv_at hl 5 rfl) ?_
        refine lv_bipush (v := nI 8) hx hb dX7_heard_24 (by decide) ?_
        refine lv_icmp_gt (tgt := 38) hx hb dX7_heard_26 (by decide) (fun c_26 => ?_) (fun c_26 => ?_)
        · refine lv_iconst (v := (-1 : Int32)) hx hb dX7_heard_38 (by decide) ?_
          exact j_iret hC hB dX7_heard_39 (⟨by simp [heaC, n18, c_5, c_13, c_19, c_26], ⟨SCI.rf, SCJ.rf, rfl⟩⟩)
        · obtain ⟨nn, hn1, hn8, rfl⟩ := n18_nat c_19 c_26
          refine lv_iload hx hb dX7_heard_29 (lv_at hl 6 rfl) ?_
          refine lv_iconst (v := nI 2) hx hb dX7_heard_31 (by decide) ?_
          refine j_csi [.int what, .int (nI 2)] hC hB hl.1 (c_X7_isBelow l_ G I J O what 2 (by omega)) (va_cwS 2 hts gX7_heard_X7_isBelow rfl rfl rfl (by decide +kernel) ⟨by decide, by decide⟩) dX7_heard_32 rfl rfl (Nat.le_of_ble_eq_true rfl) (fun r_32 u_32 H locs hp_32 hB => ?_)
          obtain ⟨rfl, rfl⟩ := hp_32
          refine jb_if_ne (tgt := 40) hx hb dX7_heard_35 (by decide) (fun c_35 => ?_) (fun c_35 => ?_)
          · obtain ⟨ww, hww, rfl⟩ := isB_nat c_35 (by omega)
            refine lv_aload_n hx hb dX7_heard_40 rfl (lv_at hl 0 rfl) ?_
            refine j_get (0, 0, 0) 9 (v := .ref (G.2.2.1 (14, 0, 0))) hC hB in_X7 lk_57 dX7_heard_41 jk0 rfl rfl (by decide) rfl ?_
            refine lv_iload_n hx hb dX7_heard_44 rfl (lv_at hl 2 rfl) ?_
            refine j_ald (14, 0, 0) (15, ss, 0) 6 ss hC hB dX7_heard_45 jk14 rfl rfl rfl (by omega) (by decide) rfl ?_
            refine lv_astore (lv' := [(7, .ref (G.2.2.1 (15, ss, 0))), (0, .ref (G.2.2.1 (0, 0, 0))), (1, .int (nI mm)), (2, .int (nI ss)), (3, .int lane), (4, .int i), (5, .int (nI nn)), (6, .int (nI ww))]) hx hb dX7_heard_46 hl (by decide) rfl (fun ls hl => ?_)
            refine lv_aload hx hb dX7_heard_48 (lv_at hl 0 rfl) ?_
            refine lv_iload_n hx hb dX7_heard_50 rfl (lv_at hl 4 rfl) ?_
            refine lv_iload hx hb dX7_heard_51 (lv_at hl 5 rfl) ?_
            refine lv_iconst (v := nI 2) hx hb dX7_heard_53 (by decide) ?_
            refine lv_iload hx hb dX7_heard_54 (lv_at hl 6 rfl) ?_
            refine jn_imul hx hb dX7_heard_56 ?_
            refine j_cvi (15, ss, 0) [.int lane, .int i, .int (nI (2 * nn))] hC hB hl.1 (c_X5_faultOf l_ G I J O ss lane i (nI (2 * nn)) (by omega) (ehold)) (cwV 3 hts gX7_heard_X5_faultOf rfl rfl rfl (by decide +kernel) ⟨by decide, by decide⟩) dX7_heard_57 (jk15 (by omega)) rfl rfl rfl rfl (Nat.le_of_ble_eq_true rfl) (fun r_57 u_57 H locs hp_57 hB => ?_)
            obtain ⟨rfl, rfl⟩ := hp_57
            refine lv_istore (lv' := [(8, .int (flC (I 33) ss hold lane i (nI (2 * nn)))), (7, .ref (G.2.2.1 (15, ss, 0))), (0, .ref (G.2.2.1 (0, 0, 0))), (1, .int (nI mm)), (2, .int (nI ss)), (3, .int lane), (4, .int i), (5, .int (nI nn)), (6, .int (nI ww))]) hx hb dX7_heard_60 hl (by decide) rfl (fun ls hl => ?_)
            refine lv_iload hx hb dX7_heard_62 (lv_at hl 0 rfl) ?_
            refine lv_if_ge (tgt := 70) hx hb dX7_heard_64 (by decide) (fun c_64 => ?_) (fun c_64 => ?_)
            · obtain ⟨hh1, hh2, j, k1, hj, rfl, ek⟩ := flC_nat esz hsz c_64
              have hk1 : k1 = 2 * nn := ((nI_eq (by omega) (by omega)).mp ek).symm
              refine lv_aload_n hx hb dX7_heard_70 rfl (lv_at hl 2 rfl) ?_
              refine lv_aload hx hb dX7_heard_71 (lv_at hl 1 rfl) ?_
              refine lv_iload hx hb dX7_heard_73 (lv_at hl 6 rfl) ?_
              refine lv_iload hx hb dX7_heard_75 (lv_at hl 7 rfl) ?_
              refine j_cvi (0, 0, 0) [.ref (G.2.2.1 (15, ss, 0)), .int (nI j), .int (nI nn)] hC hB hl.1 (c_X7_tellsPairs l_ G I J O ss j nn (by omega) (by omega) (by omega) (hD)) (cwV 3 hts gX7_heard_X7_tellsPairs rfl rfl rfl (by decide +kernel) ⟨by decide, by decide⟩) dX7_heard_77 jk0 rfl rfl rfl rfl (Nat.le_of_ble_eq_true rfl) (fun r_77 u_77 H locs hp_77 hB => ?_)
              obtain ⟨rfl, rfl⟩ := hp_77
              refine jb_if_ne (tgt := 86) hx hb dX7_heard_80 (by decide) (fun c_80 => ?_) (fun c_80 => ?_)
              · have hHD : ∀ k, k < nn → ∃ d, d < nd ∧ (J (2 + ss) (j + 2 * k)).toInt32 = nI d := fun k hk => dn_nat hnd (hpB_at c_80 k hk).1
                obtain ⟨W_, eW, hW10⟩ : ∃ W_ : Nat, W_ = (if ww = 0 then 5 else 10) ∧ W_ ≤ 10 := ⟨_, rfl, by split <;> omega⟩
                refine lv_iconst (v := nI 0) hx hb dX7_heard_86 (by decide) ?_
                refine lv_istore (lv' := [(9, .int (nI 0)), (8, .int (flC (I 33) ss hold lane (nI j) (nI (2 * nn)))), (7, .ref (G.2.2.1 (15, ss, 0))), (0, .ref (G.2.2.1 (0, 0, 0))), (1, .int (nI mm)), (2, .int (nI ss)), (3, .int lane), (4, .int (nI j)), (5, .int (nI nn)), (6, .int (nI ww))]) hx hb dX7_heard_87 hl (by decide) rfl (fun ls hl => ?_)
                refine lv_iload hx hb dX7_heard_89 (lv_at hl 9 rfl) ?_
                refine jn_if_ne (tgt := 98) hx hb dX7_heard_91 (by decide) (by omega) (fun c_91 => ?_) (fun c_91 => ?_)
                · refine lv_bipush (v := nI 10) hx hb dX7_heard_98 (by decide) ?_
                  refine lv_istore (lv' := [(10, .int (nI 10)), (9, .int (nI 0)), (8, .int (flC (I 33) ss hold lane (nI j) (nI (2 * nn)))), (7, .ref (G.2.2.1 (15, ss, 0))), (0, .ref (G.2.2.1 (0, 0, 0))), (1, .int (nI mm)), (2, .int (nI ss)), (3, .int lane), (4, .int (nI j)), (5, .int (nI nn)), (6, .int (nI ww))]) hx hb dX7_heard_100 hl (by decide) rfl (fun ls hl => ?_)
                  refine lv_iconst (v := nI 0) hx hb dX7_heard_102 (by decide) ?_
                  refine lv_istore (lv' := [(11, .int (nI 0)), (10, .int (nI 10)), (9, .int (nI 0)), (8, .int (flC (I 33) ss hold lane (nI j) (nI (2 * nn)))), (7, .ref (G.2.2.1 (15, ss, 0))), (0, .ref (G.2.2.1 (0, 0, 0))), (1, .int (nI mm)), (2, .int (nI ss)), (3, .int lane), (4, .int (nI j)), (5, .int (nI nn)), (6, .int (nI ww))]) hx hb dX7_heard_103 hl (by decide) rfl (fun ls hl => ?_)
                  have lp_105 : ∀ (fu : Nat) (u : Nat → Int32) (set : Int32) (v : Nat), W_ - v < fu → (v ≤ W_) → (set = it (hgS (I 0) (J (2 + ss)) mm j nn ww) v (nI 0)) → ∀ H locs ls, jB G A s_.heap (sr I 20 (u), J, O) H locs → lv_has ls 12 [(11, .int (nI v)), (10, .int (nI 10)), (9, .int set), (8, .int (flC (I 33) ss hold lane (nI j) (nI (2 * nn)))), (7, .ref (G.2.2.1 (15, ss, 0))), (0, .ref (G.2.2.1 (0, 0, 0))), (1, .int (nI mm)), (2, .int (nI ss)), (3, .int lane), (4, .int (nI j)), (5, .int (nI nn)), (6, .int (nI ww))] → W pg_ l_ ev_ ({ frames := 5, cells := 0, slots := 0, locals := 124 }) s_ mi_ ([.ref (G.2.2.1 (0, 0, 0)), .int (nI mm), .int (nI ss), .int lane, .int (nI j), .int (nI nn), .int (nI ww)]).toArray below meth cd_ H locs 0 0 (jQi G A below [.ref (G.2.2.1 (0, 0, 0)), .int (nI mm), .int (nI ss), .int lane, .int (nI j), .int (nI nn), .int (nI ww)] s_ (fun r u => r = heaC (I 0) (I 33) J nd nm (nI mm) (nI ss) lane (nI j) (nI nn) (nI ww) ∧ SCs (I, J, O) u)) (F0 mi_ 105 ls []) := by
                    intro fu
                    induction fu with
                    | zero => intro u set v hf; exact absurd hf (Nat.not_lt_zero _)
                    | succ fu ih_105 =>
                      intro u set v hf_105 hv hs3 H locs ls hB hl
                      refine lv_iload hx hb dX7_heard_105 (lv_at hl 0 rfl) ?_
                      refine lv_iload hx hb dX7_heard_107 (lv_at hl 1 rfl) ?_
                      refine jn_icmp_ge (tgt := 182) hx hb dX7_heard_109 (by decide) (by omega) (by omega) (fun c_109 => ?_) (fun c_109 => ?_)
                      · refine lv_iload hx hb dX7_heard_182 (lv_at hl 2 rfl) ?_
                        exact j_iret hC hB dX7_heard_184 (⟨(by (have e5 : W_ = 10 := by rw [eW, if_neg c_91]); rw [hs3, show v = W_ by omega, eW]; simp [heaC, hgF, tN, nIc (show mm < 2147483648 by omega), nIc (show ss < 2147483648 by omega), nIc (show nn < 2147483648 by omega), nIc (show j < 2147483648 by omega), h45.1, h45.2, holdB_eq ehold, n18, c_5, c_19, c_26, c_35, nIc (show ww < 2147483648 by omega), c_64, c_80]), ⟨SCI.sr (SCI.rf) scc20, SCJ.rf, rfl⟩⟩)
                      · refine lv_aload_n hx hb dX7_heard_112 rfl (lv_at hl 5 rfl) ?_
                        refine j_get (0, 0, 0) 8 (v := .ref (G.2.2.1 (5, 20, 0))) hC hB in_X7 lk_51 dX7_heard_113 jk0 rfl rfl (by decide) rfl ?_
                        refine lv_aload_n hx hb dX7_heard_116 rfl (lv_at hl 5 rfl) ?_
                        refine j_get (0, 0, 0) 0 (v := .ref (G.2.2.1 (1, 0, 0))) hC hB in_X7 lk_10 dX7_heard_117 jk0 rfl rfl (by decide) rfl ?_
                        refine j_getN (1, 0, 0) 1 (v := .ref (G.2.2.1 (3, 0, 0))) hC hB in_X4 ln_121 dX7_heard_120 (jk1 (by omega)) rfl rfl (by decide) rfl ?_
                        refine lv_iload_n hx hb dX7_heard_123 rfl (lv_at hl 6 rfl) ?_
                        refine j_ald (3, 0, 0) (5, 0, mm) 4 mm hC hB dX7_heard_124 (jk3 (by omega)) rfl rfl rfl (by omega) (by decide) rfl ?_
                        refine j_cvv (5, 20, 0) [.ref (G.2.2.1 (5, 0, mm))] hC hB hl.1 (c_X3_become l_ G (sr I 20 (u)) J O 20 0 0 mm (jk5t) ((jk5 (by omega) (by omega))) (by omega)) (cwV 1 hts gX7_heard_X3_become rfl rfl rfl (by decide +kernel) ⟨by decide, by decide⟩) dX7_heard_125 jk5t rfl rfl rfl rfl (Nat.le_of_ble_eq_true rfl) (fun u_125 H locs hp_125 hB => ?_)
                        obtain rfl := hp_125
                        have hB : jB G A s_.heap (sr I 20 (mbR (u) (I 0) 0 mm), J, O) H locs := by (rw [show sr I 20 (mbR (u) (I 0) 0 mm) = sr (sr I 20 (u)) 20 (mbR (u) (I 0) 0 mm) from by funext a; simp +decide only [sr]; (repeat' split) <;> first | rfl | (exfalso; omega) | (subst_vars; rfl)]; exact hB)
                        refine lv_iload hx hb dX7_heard_128 (lv_at hl 11 rfl) ?_
                        refine jn_if_ne (tgt := 145) hx hb dX7_heard_130 (by decide) (by omega) (fun c_130 => ?_) (fun c_130 => ?_)
                        · refine lv_aload_n hx hb dX7_heard_145 rfl (lv_at hl 5 rfl) ?_
                          refine j_get (0, 0, 0) 8 (v := .ref (G.2.2.1 (5, 20, 0))) hC hB in_X7 lk_51 dX7_heard_146 jk0 rfl rfl (by decide) rfl ?_
                          refine lv_iload hx hb dX7_heard_149 (lv_at hl 0 rfl) ?_
                          refine j_putN (5, 20, 0) 1 (u2 (sr I 20 (mbR (u) (I 0) 0 mm)) 20 63 (nI v), J, O) (ty := .int) hC hB in_X3 tyX3_ok nmX3 ln_128 dX7_heard_151 jk5t rfl rfl (by decide) rfl (by decide +kernel) rfl rfl (Nat.le_of_ble_eq_true rfl) (fun z hz hne => jw_fr z hz (by rw [(by decide : jof 20 63 = (5, 20, 0))]; exact hne)) (by simp [jw, u2]) (fun H locs hB => ?_)
                          have hB : jB G A s_.heap (sr I 20 (upd (mbR (u) (I 0) 0 mm) 63 (nI v)), J, O) H locs := by rw [show sr I 20 (upd (mbR (u) (I 0) 0 mm) 63 (nI v)) = u2 (sr I 20 (mbR (u) (I 0) 0 mm)) 20 63 (nI v) from (u2_sr _ _ _ _ _).symm]; exact hB
                          refine lv_aload_n hx hb dX7_heard_154 rfl (lv_at hl 5 rfl) ?_
                          refine lv_aload hx hb dX7_heard_155 (lv_at hl 4 rfl) ?_
                          refine lv_iload hx hb dX7_heard_157 (lv_at hl 9 rfl) ?_
                          refine lv_iload hx hb dX7_heard_159 (lv_at hl 10 rfl) ?_
                          refine j_cvi (0, 0, 0) [.ref (G.2.2.1 (15, ss, 0)), .int (nI j), .int (nI nn)] hC hB hl.1 (c_X7_trialGoesAs l_ G (sr I 20 (upd (mbR (u) (I 0) 0 mm) 63 (nI v))) J O ss j nn (by omega) (by omega) (by omega) ((sr_nj (show (0 : Nat) ≠ 20 by omega)).trans (hD)) (hHD)) (cwV 3 hts gX7_heard_X7_trialGoesAs rfl rfl rfl (by decide +kernel) ⟨by decide, by decide⟩) dX7_heard_161 jk0 rfl rfl rfl rfl (Nat.le_of_ble_eq_true rfl) (fun r_161 u_161 H locs hp_161 hB => ?_)
                          obtain ⟨rfl, rfl⟩ := hp_161
                          have hB : jB G A s_.heap (sr I 20 ((tgR (I 0) (J (2 + ss)) j nn (upd (mbR (u) (I 0) 0 mm) 63 (nI v))).1), J, O) H locs := by (rw [show sr I 20 ((tgR (I 0) (J (2 + ss)) j nn (upd (mbR (u) (I 0) 0 mm) 63 (nI v))).1) = sr (sr I 20 (upd (mbR (u) (I 0) 0 mm) 63 (nI v))) 20 ((tgR (I 0) (J (2 + ss)) j nn (upd (mbR (u) (I 0) 0 mm) 63 (nI v))).1) from by funext a; simp +decide only [sr]; (repeat' split) <;> first | rfl | (exfalso; omega) | (subst_vars; rfl)]; exact hB)
                          refine j_eqi (y := b2 ((tgR (I 0) (J (2 + ss)) j nn (upd (mbR (u) (I 0) 0 mm) 63 (nI v))).2)) (rfl) ?_
                          have hgb : (tgR (I 0) (J (2 + ss)) j nn (upd (mbR u (I 0) 0 mm) (63 + 0) (nI v))).2 = hgB (I 0) (J (2 + ss)) mm j nn ww v := by unfold hgB; rw [if_neg c_130]; exact tg_cong tm_w
                          refine jb_if_eq (tgt := 176) hx hb dX7_heard_164 (by decide) (fun c_164 => ?_) (fun c_164 => ?_)
                          · refine lv_iinc (v := nI (v + 1)) (lv' := [(11, .int (nI (v + 1))), (10, .int (nI 10)), (9, .int set), (8, .int (flC (I 33) ss hold lane (nI j) (nI (2 * nn)))), (7, .ref (G.2.2.1 (15, ss, 0))), (0, .ref (G.2.2.1 (0, 0, 0))), (1, .int (nI mm)), (2, .int (nI ss)), (3, .int lane), (4, .int (nI j)), (5, .int (nI nn)), (6, .int (nI ww))]) hx hb dX7_heard_176 hl (k := 0) rfl (jn_inc _ 1) (by decide) rfl (fun ls hl => ?_)
                            refine lv_goto (tgt := 105) hx hb dX7_heard_179 (by decide) ?_
                            exact ih_105 ((tgR (I 0) (J (2 + ss)) j nn (upd (mbR (u) (I 0) 0 mm) 63 (nI v))).1) set (v + 1) (by (have e5 : W_ = 10 := by rw [eW, if_neg c_91]); omega) (by (have e5 : W_ = 10 := by rw [eW, if_neg c_91]); omega) (by rw [hgb] at c_164; rw [it_s, ← hs3]; simp [hgS, bitI, c_164]) _ _ _ hB (lv_sub hl [0, 1, 2, 3, 4, 5, 6, 7, 8, 9, 10, 11] rfl)
                          · refine lv_iload hx hb dX7_heard_167 (lv_at hl 2 rfl) ?_
                            refine lv_iconst (v := nI 1) hx hb dX7_heard_169 (by decide) ?_
                            refine lv_iload hx hb dX7_heard_170 (lv_at hl 0 rfl) ?_
                            refine lv_ishl hx hb dX7_heard_172 ?_
                            refine lv_ior hx hb dX7_heard_173 ?_
                            refine lv_istore (lv' := [(9, .int (set ||| ((nI 1) <<< ((nI v) &&& 31)))), (11, .int (nI v)), (10, .int (nI 10)), (8, .int (flC (I 33) ss hold lane (nI j) (nI (2 * nn)))), (7, .ref (G.2.2.1 (15, ss, 0))), (0, .ref (G.2.2.1 (0, 0, 0))), (1, .int (nI mm)), (2, .int (nI ss)), (3, .int lane), (4, .int (nI j)), (5, .int (nI nn)), (6, .int (nI ww))]) hx hb dX7_heard_174 hl (by decide) rfl (fun ls hl => ?_)
                            refine lv_iinc (v := nI (v + 1)) (lv' := [(11, .int (nI (v + 1))), (9, .int (set ||| ((nI 1) <<< ((nI v) &&& 31)))), (10, .int (nI 10)), (8, .int (flC (I 33) ss hold lane (nI j) (nI (2 * nn)))), (7, .ref (G.2.2.1 (15, ss, 0))), (0, .ref (G.2.2.1 (0, 0, 0))), (1, .int (nI mm)), (2, .int (nI ss)), (3, .int lane), (4, .int (nI j)), (5, .int (nI nn)), (6, .int (nI ww))]) hx hb dX7_heard_176 hl (k := 1) rfl (jn_inc _ 1) (by decide) rfl (fun ls hl => ?_)
                            refine lv_goto (tgt := 105) hx hb dX7_heard_179 (by decide) ?_
                            exact ih_105 ((tgR (I 0) (J (2 + ss)) j nn (upd (mbR (u) (I 0) 0 mm) 63 (nI v))).1) (set ||| ((nI 1) <<< ((nI v) &&& 31))) (v + 1) (by (have e5 : W_ = 10 := by rw [eW, if_neg c_91]); omega) (by (have e5 : W_ = 10 := by rw [eW, if_neg c_91]); omega) (by rw [hgb] at c_164; rw [it_s, ← hs3]; simp [hgS, bitI, c_164]) _ _ _ hB (lv_sub hl [0, 2, 1, 3, 4, 5, 6, 7, 8, 9, 10, 11] rfl)
                        · exact absurd c_130 c_91
                  exact lp_105 _ (I 20) (nI 0) 0 (Nat.lt_succ_self _) (by omega) (rfl) _ _ _ (jB_cast2 hB (by first | exact (sr_id _ _).symm | (funext a_; simp +decide only [sr]; (repeat' split) <;> first | rfl | (exfalso; omega) | (subst_vars; rfl))) rfl) (lv_sub hl [0, 1, 2, 3, 4, 5, 6, 7, 8, 9, 10, 11] rfl)
                · refine lv_iconst (v := nI 5) hx hb dX7_heard_94 (by decide) ?_
                  refine lv_goto (tgt := 100) hx hb dX7_heard_95 (by decide) ?_
                  refine lv_istore (lv' := [(10, .int (nI 5)), (9, .int (nI 0)), (8, .int (flC (I 33) ss hold lane (nI j) (nI (2 * nn)))), (7, .ref (G.2.2.1 (15, ss, 0))), (0, .ref (G.2.2.1 (0, 0, 0))), (1, .int (nI mm)), (2, .int (nI ss)), (3, .int lane), (4, .int (nI j)), (5, .int (nI nn)), (6, .int (nI ww))]) hx hb dX7_heard_100 hl (by decide) rfl (fun ls hl => ?_)
                  refine lv_iconst (v := nI 0) hx hb dX7_heard_102 (by decide) ?_
                  refine lv_istore (lv' := [(11, .int (nI 0)), (10, .int (nI 5)), (9, .int (nI 0)), (8, .int (flC (I 33) ss hold lane (nI j) (nI (2 * nn)))), (7, .ref (G.2.2.1 (15, ss, 0))), (0, .ref (G.2.2.1 (0, 0, 0))), (1, .int (nI mm)), (2, .int (nI ss)), (3, .int lane), (4, .int (nI j)), (5, .int (nI nn)), (6, .int (nI ww))]) hx hb dX7_heard_103 hl (by decide) rfl (fun ls hl => ?_)
                  have lp_105 : ∀ (fu : Nat) (u : Nat → Int32) (set : Int32) (v : Nat), W_ - v < fu → (v ≤ W_) → (set = it (hgS (I 0) (J (2 + ss)) mm j nn ww) v (nI 0)) → ∀ H locs ls, jB G A s_.heap (sr I 20 (u), J, O) H locs → lv_has ls 12 [(11, .int (nI v)), (10, .int (nI 5)), (9, .int set), (8, .int (flC (I 33) ss hold lane (nI j) (nI (2 * nn)))), (7, .ref (G.2.2.1 (15, ss, 0))), (0, .ref (G.2.2.1 (0, 0, 0))), (1, .int (nI mm)), (2, .int (nI ss)), (3, .int lane), (4, .int (nI j)), (5, .int (nI nn)), (6, .int (nI ww))] → W pg_ l_ ev_ ({ frames := 5, cells := 0, slots := 0, locals := 124 }) s_ mi_ ([.ref (G.2.2.1 (0, 0, 0)), .int (nI mm), .int (nI ss), .int lane, .int (nI j), .int (nI nn), .int (nI ww)]).toArray below meth cd_ H locs 0 0 (jQi G A below [.ref (G.2.2.1 (0, 0, 0)), .int (nI mm), .int (nI ss), .int lane, .int (nI j), .int (nI nn), .int (nI ww)] s_ (fun r u => r = heaC (I 0) (I 33) J nd nm (nI mm) (nI ss) lane (nI j) (nI nn) (nI ww) ∧ SCs (I, J, O) u)) (F0 mi_ 105 ls []) := by
                    intro fu
                    induction fu with
                    | zero => intro u set v hf; exact absurd hf (Nat.not_lt_zero _)
                    | succ fu ih_105 =>
                      intro u set v hf_105 hv hs3 H locs ls hB hl
                      refine lv_iload hx hb dX7_heard_105 (lv_at hl 0 rfl) ?_
                      refine lv_iload hx hb dX7_heard_107 (lv_at hl 1 rfl) ?_
                      refine jn_icmp_ge (tgt := 182) hx hb dX7_heard_109 (by decide) (by omega) (by omega) (fun c_109 => ?_) (fun c_109 => ?_)
                      · refine lv_iload hx hb dX7_heard_182 (lv_at hl 2 rfl) ?_
                        exact j_iret hC hB dX7_heard_184 (⟨(by (have e5 : W_ = 5 := by rw [eW, if_pos c_91]); rw [hs3, show v = W_ by omega, eW]; simp [heaC, hgF, tN, nIc (show mm < 2147483648 by omega), nIc (show ss < 2147483648 by omega), nIc (show nn < 2147483648 by omega), nIc (show j < 2147483648 by omega), h45.1, h45.2, holdB_eq ehold, n18, c_5, c_19, c_26, c_35, nIc (show ww < 2147483648 by omega), c_64, c_80]), ⟨SCI.sr (SCI.rf) scc20, SCJ.rf, rfl⟩⟩)
                      · refine lv_aload_n hx hb dX7_heard_112 rfl (lv_at hl 5 rfl) ?_
                        refine j_get (0, 0, 0) 8 (v := .ref (G.2.2.1 (5, 20, 0))) hC hB in_X7 lk_51 dX7_heard_113 jk0 rfl rfl (by decide) rfl ?_
                        refine lv_aload_n hx hb dX7_heard_116 rfl (lv_at hl 5 rfl) ?_
                        refine j_get (0, 0, 0) 0 (v := .ref (G.2.2.1 (1, 0, 0))) hC hB in_X7 lk_10 dX7_heard_117 jk0 rfl rfl (by decide) rfl ?_
                        refine j_getN (1, 0, 0) 1 (v := .ref (G.2.2.1 (3, 0, 0))) hC hB in_X4 ln_121 dX7_heard_120 (jk1 (by omega)) rfl rfl (by decide) rfl ?_
                        refine lv_iload_n hx hb dX7_heard_123 rfl (lv_at hl 6 rfl) ?_
                        refine j_ald (3, 0, 0) (5, 0, mm) 4 mm hC hB dX7_heard_124 (jk3 (by omega)) rfl rfl rfl (by omega) (by decide) rfl ?_
                        refine j_cvv (5, 20, 0) [.ref (G.2.2.1 (5, 0, mm))] hC hB hl.1 (c_X3_become l_ G (sr I 20 (u)) J O 20 0 0 mm (jk5t) ((jk5 (by omega) (by omega))) (by omega)) (cwV 1 hts gX7_heard_X3_become rfl rfl rfl (by decide +kernel) ⟨by decide, by decide⟩) dX7_heard_125 jk5t rfl rfl rfl rfl (Nat.le_of_ble_eq_true rfl) (fun u_125 H locs hp_125 hB => ?_)
                        obtain rfl := hp_125
                        have hB : jB G A s_.heap (sr I 20 (mbR (u) (I 0) 0 mm), J, O) H locs := by (rw [show sr I 20 (mbR (u) (I 0) 0 mm) = sr (sr I 20 (u)) 20 (mbR (u) (I 0) 0 mm) from by funext a; simp +decide only [sr]; (repeat' split) <;> first | rfl | (exfalso; omega) | (subst_vars; rfl)]; exact hB)
                        refine lv_iload hx hb dX7_heard_128 (lv_at hl 11 rfl) ?_
                        refine jn_if_ne (tgt := 145) hx hb dX7_heard_130 (by decide) (by omega) (fun c_130 => ?_) (fun c_130 => ?_)
                        · exact absurd c_91 c_130
                        · refine lv_aload_n hx hb dX7_heard_133 rfl (lv_at hl 5 rfl) ?_
                          refine j_get (0, 0, 0) 8 (v := .ref (G.2.2.1 (5, 20, 0))) hC hB in_X7 lk_51 dX7_heard_134 jk0 rfl rfl (by decide) rfl ?_
                          refine lv_iload hx hb dX7_heard_137 (lv_at hl 0 rfl) ?_
                          refine j_putN (5, 20, 0) 0 (u2 (sr I 20 (mbR (u) (I 0) 0 mm)) 20 3 (nI v), J, O) (ty := .int) hC hB in_X3 tyX3_ok nmX3 ln_125 dX7_heard_139 jk5t rfl rfl (by decide) rfl (by decide +kernel) rfl rfl (Nat.le_of_ble_eq_true rfl) (fun z hz hne => jw_fr z hz (by rw [(by decide : jof 20 3 = (5, 20, 0))]; exact hne)) (by simp [jw, u2]) (fun H locs hB => ?_)
                          have hB : jB G A s_.heap (sr I 20 (upd (mbR (u) (I 0) 0 mm) 3 (nI v)), J, O) H locs := by rw [show sr I 20 (upd (mbR (u) (I 0) 0 mm) 3 (nI v)) = u2 (sr I 20 (mbR (u) (I 0) 0 mm)) 20 3 (nI v) from (u2_sr _ _ _ _ _).symm]; exact hB
                          refine lv_goto (tgt := 154) hx hb dX7_heard_142 (by decide) ?_
                          refine lv_aload_n hx hb dX7_heard_154 rfl (lv_at hl 5 rfl) ?_
                          refine lv_aload hx hb dX7_heard_155 (lv_at hl 4 rfl) ?_
                          refine lv_iload hx hb dX7_heard_157 (lv_at hl 9 rfl) ?_
                          refine lv_iload hx hb dX7_heard_159 (lv_at hl 10 rfl) ?_
                          refine j_cvi (0, 0, 0) [.ref (G.2.2.1 (15, ss, 0)), .int (nI j), .int (nI nn)] hC hB hl.1 (c_X7_trialGoesAs l_ G (sr I 20 (upd (mbR (u) (I 0) 0 mm) 3 (nI v))) J O ss j nn (by omega) (by omega) (by omega) ((sr_nj (show (0 : Nat) ≠ 20 by omega)).trans (hD)) (hHD)) (cwV 3 hts gX7_heard_X7_trialGoesAs rfl rfl rfl (by decide +kernel) ⟨by decide, by decide⟩) dX7_heard_161 jk0 rfl rfl rfl rfl (Nat.le_of_ble_eq_true rfl) (fun r_161 u_161 H locs hp_161 hB => ?_)
                          obtain ⟨rfl, rfl⟩ := hp_161
                          have hB : jB G A s_.heap (sr I 20 ((tgR (I 0) (J (2 + ss)) j nn (upd (mbR (u) (I 0) 0 mm) 3 (nI v))).1), J, O) H locs := by (rw [show sr I 20 ((tgR (I 0) (J (2 + ss)) j nn (upd (mbR (u) (I 0) 0 mm) 3 (nI v))).1) = sr (sr I 20 (upd (mbR (u) (I 0) 0 mm) 3 (nI v))) 20 ((tgR (I 0) (J (2 + ss)) j nn (upd (mbR (u) (I 0) 0 mm) 3 (nI v))).1) from by funext a; simp +decide only [sr]; (repeat' split) <;> first | rfl | (exfalso; omega) | (subst_vars; rfl)]; exact hB)
                          refine j_eqi (y := b2 ((tgR (I 0) (J (2 + ss)) j nn (upd (mbR (u) (I 0) 0 mm) 3 (nI v))).2)) (rfl) ?_
                          have hgb : (tgR (I 0) (J (2 + ss)) j nn (upd (mbR u (I 0) 0 mm) (3 + 0) (nI v))).2 = hgB (I 0) (J (2 + ss)) mm j nn ww v := by unfold hgB; rw [if_pos c_130]; exact tg_cong tm_k
                          refine jb_if_eq (tgt := 176) hx hb dX7_heard_164 (by decide) (fun c_164 => ?_) (fun c_164 => ?_)
                          · refine lv_iinc (v := nI (v + 1)) (lv' := [(11, .int (nI (v + 1))), (10, .int (nI 5)), (9, .int set), (8, .int (flC (I 33) ss hold lane (nI j) (nI (2 * nn)))), (7, .ref (G.2.2.1 (15, ss, 0))), (0, .ref (G.2.2.1 (0, 0, 0))), (1, .int (nI mm)), (2, .int (nI ss)), (3, .int lane), (4, .int (nI j)), (5, .int (nI nn)), (6, .int (nI ww))]) hx hb dX7_heard_176 hl (k := 0) rfl (jn_inc _ 1) (by decide) rfl (fun ls hl => ?_)
                            refine lv_goto (tgt := 105) hx hb dX7_heard_179 (by decide) ?_
                            exact ih_105 ((tgR (I 0) (J (2 + ss)) j nn (upd (mbR (u) (I 0) 0 mm) 3 (nI v))).1) set (v + 1) (by (have e5 : W_ = 5 := by rw [eW, if_pos c_91]); omega) (by (have e5 : W_ = 5 := by rw [eW, if_pos c_91]); omega) (by rw [hgb] at c_164; rw [it_s, ← hs3]; simp [hgS, bitI, c_164]) _ _ _ hB (lv_sub hl [0, 1, 2, 3, 4, 5, 6, 7, 8, 9, 10, 11] rfl)
                          · refine lv_iload hx hb dX7_heard_167 (lv_at hl 2 rfl) ?_
                            refine lv_iconst (v := nI 1) hx hb dX7_heard_169 (by decide) ?_
                            refine lv_iload hx hb dX7_heard_170 (lv_at hl 0 rfl) ?_
                            refine lv_ishl hx hb dX7_heard_172 ?_
                            refine lv_ior hx hb dX7_heard_173 ?_
                            refine lv_istore (lv' := [(9, .int (set ||| ((nI 1) <<< ((nI v) &&& 31)))), (11, .int (nI v)), (10, .int (nI 5)), (8, .int (flC (I 33) ss hold lane (nI j) (nI (2 * nn)))), (7, .ref (G.2.2.1 (15, ss, 0))), (0, .ref (G.2.2.1 (0, 0, 0))), (1, .int (nI mm)), (2, .int (nI ss)), (3, .int lane), (4, .int (nI j)), (5, .int (nI nn)), (6, .int (nI ww))]) hx hb dX7_heard_174 hl (by decide) rfl (fun ls hl => ?_)
                            refine lv_iinc (v := nI (v + 1)) (lv' := [(11, .int (nI (v + 1))), (9, .int (set ||| ((nI 1) <<< ((nI v) &&& 31)))), (10, .int (nI 5)), (8, .int (flC (I 33) ss hold lane (nI j) (nI (2 * nn)))), (7, .ref (G.2.2.1 (15, ss, 0))), (0, .ref (G.2.2.1 (0, 0, 0))), (1, .int (nI mm)), (2, .int (nI ss)), (3, .int lane), (4, .int (nI j)), (5, .int (nI nn)), (6, .int (nI ww))]) hx hb dX7_heard_176 hl (k := 1) rfl (jn_inc _ 1) (by decide) rfl (fun ls hl => ?_)
                            refine lv_goto (tgt := 105) hx hb dX7_heard_179 (by decide) ?_
                            exact ih_105 ((tgR (I 0) (J (2 + ss)) j nn (upd (mbR (u) (I 0) 0 mm) 3 (nI v))).1) (set ||| ((nI 1) <<< ((nI v) &&& 31))) (v + 1) (by (have e5 : W_ = 5 := by rw [eW, if_pos c_91]); omega) (by (have e5 : W_ = 5 := by rw [eW, if_pos c_91]); omega) (by rw [hgb] at c_164; rw [it_s, ← hs3]; simp [hgS, bitI, c_164]) _ _ _ hB (lv_sub hl [0, 2, 1, 3, 4, 5, 6, 7, 8, 9, 10, 11] rfl)
                  exact lp_105 _ (I 20) (nI 0) 0 (Nat.lt_succ_self _) (by omega) (rfl) _ _ _ (jB_cast2 hB (by first | exact (sr_id _ _).symm | (funext a_; simp +decide only [sr]; (repeat' split) <;> first | rfl | (exfalso; omega) | (subst_vars; rfl))) rfl) (lv_sub hl [0, 1, 2, 3, 4, 5, 6, 7, 8, 9, 10, 11] rfl)
              · refine lv_bipush (v := (-2 : Int32)) hx hb dX7_heard_83 (by decide) ?_
                exact j_iret hC hB dX7_heard_85 (⟨by simp [heaC, tN, nIc (show mm < 2147483648 by omega), nIc (show ss < 2147483648 by omega), nIc (show nn < 2147483648 by omega), nIc (show j < 2147483648 by omega), h45.1, h45.2, holdB_eq ehold, n18, c_5, c_19, c_26, c_35, c_64, c_80], ⟨SCI.rf, SCJ.rf, rfl⟩⟩)
            · refine lv_iload hx hb dX7_heard_67 (lv_at hl 0 rfl) ?_
              exact j_iret hC hB dX7_heard_69 (⟨by simp [heaC, tN, nIc (show mm < 2147483648 by omega), nIc (show ss < 2147483648 by omega), nIc (show nn < 2147483648 by omega), h45.1, h45.2, holdB_eq ehold, n18, c_5, c_19, c_26, c_35, c_64], ⟨SCI.rf, SCJ.rf, rfl⟩⟩)
          · refine lv_iconst (v := (-1 : Int32)) hx hb dX7_heard_38 (by decide) ?_
            exact j_iret hC hB dX7_heard_39 (⟨by simp [heaC, n18, c_5, c_13, c_19, c_26, c_35], ⟨SCI.rf, SCJ.rf, rfl⟩⟩)

set_option maxHeartbeats 4000000 in
set_option maxRecDepth 100000 in
theorem c_X7_film (l_ : Launch) (G : jG) (I : Nat → Nat → Int32) (J : Nat → Nat → Int64) (O : Nat → Nat → Nat) (man n sheet lane i : Int32) {nd : Nat} (hnd : nd ≤ 10) (hD : I 0 0 = nI nd) {nm : Nat} (hnm : nm ≤ 4) (hM : I 0 1 = nI nm) (hW : wfD (I 0) nd) (hWc : ∀ m, m < nm → ∃ c, c < 8 ∧ I 0 (51 + m) = nI c) (hHo : ∀ s, s < 4 → ∃ b, I 33 (3 * s) = b2 b) (hSz : ∀ s, s < 4 → ∃ sz, sz ≤ 24 ∧ I 33 (3 * s + 2) = nI sz) : jMi l_ G yX7_film wsX7_film ({ frames := 7, cells := 0, slots := 0, locals := 165 }) [.ref (G.2.2.1 (0, 0, 0)), .int man, .int n, .int sheet, .int lane, .int i] (I, J, O) (fun r u => r = fmA (I 33) nm man n sheet lane i ∧ SCI I u.1 ∧ u.2.1 = fmJ (I 0) (I 33) J nd nm man n sheet lane i ∧ u.2.2 = O) := by
  refine jMi_of (cc := cX7_film) (maxL := 9) (ret := (some .int)) (lv0 := [(0, .ref (G.2.2.1 (0, 0, 0))), (1, .int man), (2, .int n), (3, .int sheet), (4, .int lane), (5, .int i)]) (by decide) rfl (Nat.le_of_ble_eq_true rfl) rfl ?_
  intro pg_ ev_ s_ mi_ below meth cd_ A ls hC hB hl
  obtain ⟨hx, hb, hr, hml, hown, hts, hlocks, hK, hA⟩ := id hC
  have lk_57 := hts (.fieldLink RX7 57 "RiddlePrison" "sheets" "[LRiddlePrison$Sheet;") (by decide +kernel)
  have lk_44 := hts (.fieldLink RX7 44 "RiddlePrison" "foresight" "LRiddlePrison$Foresight;") (by decide +kernel)
  have lk_10 := hts (.fieldLink RX7 10 "RiddlePrison" "now" "LRiddlePrison$Prison;") (by decide +kernel)
  have ln_121 := (by decide +kernel : Cond.fieldLinkNest RX7 121 "RiddlePrison$Prison" "men" "[LRiddlePrison$Man;" "RiddlePrison" ∈ nsW)
  have ln_207 := (by decide +kernel : Cond.fieldLinkNest RX7 207 "RiddlePrison$Foresight" "far" "[I" "RiddlePrison" ∈ nsW)
  have in_X7 := (fun w h => List.mem_cons_of_mem _ (List.mem_append_left _ (List.mem_append_left _ (List.mem_append_left _ (List.mem_append_left _ (List.mem_append_left _ (List.mem_append_right _ h)))))) : ∀ w ∈ wsX70, w ∈ wsX7_film)
  have in_X4 := (fun w h => List.mem_cons_of_mem _ (List.mem_append_left _ (List.mem_append_left _ (List.mem_append_left _ (List.mem_append_left _ (List.mem_append_right _ h))))) : ∀ w ∈ wsX40, w ∈ wsX7_film)
  have in_X1 := (fun w h => List.mem_cons_of_mem _ (List.mem_append_left _ (List.mem_append_left _ (List.mem_append_left _ (List.mem_append_right _ h)))) : ∀ w ∈ wsX10, w ∈ wsX7_film)
  refine lv_aload_n hx hb dX7_film_0 rfl (lv_at hl 0 rfl) ?_
  refine lv_iload_n hx hb dX7_film_1 rfl (lv_at hl 1 rfl) ?_
  refine j_cvi (0, 0, 0) [.int man] hC hB hl.1 (c_X7_isMan l_ G I J O man (by omega) (hM)) (cwV 1 hts gX7_film_X7_isMan rfl rfl rfl (by decide +kernel) ⟨by decide, by decide⟩) dX7_film_2 jk0 rfl rfl rfl rfl (Nat.le_of_ble_eq_true rfl) (fun r_2 u_2 H locs hp_2 hB => ?_)
  obtain ⟨rfl, rfl⟩ := hp_2
  refine jb_if_eq (tgt := 28) hx hb dX7_film_5 (by decide) (fun c_5 => ?_) (fun c_5 => ?_)
  · refine lv_iconst (v := (-1 : Int32)) hx hb dX7_film_28 (by decide) ?_
    exact j_iret hC hB dX7_film_29 (⟨by simp [fmA, fmOk, n18, c_5], SCI.rf, by simp [fmJ, fmOk, n18, c_5], rfl⟩)
  · obtain ⟨mm, hmm, rfl⟩ := isB_nat c_5 (by omega)
    obtain ⟨cc, hcc, ecc⟩ := hWc mm hmm
    refine lv_iload_n hx hb dX7_film_8 rfl (lv_at hl 2 rfl) ?_
    refine lv_iconst (v := nI 1) hx hb dX7_film_9 (by decide) ?_
    refine lv_icmp_lt (tgt := 28) hx hb dX7_film_10 (by decide) (fun c_10 => ?_) (fun c_10 => ?_)
    · refine lv_iconst (v := (-1 : Int32)) hx hb dX7_film_28 (by decide) ?_
      exact j_iret hC hB dX7_film_29 (⟨by simp [fmA, fmOk, n18, c_5, c_10], SCI.rf, by simp [fmJ, fmOk, n18, c_5, c_10], rfl⟩)
    · refine lv_iload_n hx hb dX7_film_13 rfl (lv_at hl 2 rfl) ?_
      refine lv_bipush (v := nI 8) hx hb dX7_film_14 (by decide) ?_
      refine lv_icmp_gt (tgt := 28) hx hb dX7_film_16 (by decide) (fun c_16 => ?_) (fun c_16 => ?_)
      · refine lv_iconst (v := (-1 : Int32)) hx hb dX7_film_28 (by decide) ?_
        exact j_iret hC hB dX7_film_29 (⟨by simp [fmA, fmOk, n18, c_5, c_10, c_16], SCI.rf, by simp [fmJ, fmOk, n18, c_5, c_10, c_16], rfl⟩)
      · obtain ⟨nn, hn1, hn8, rfl⟩ := n18_nat c_10 c_16
        refine lv_iload_n hx hb dX7_film_19 rfl (lv_at hl 3 rfl) ?_
        refine lv_iload hx hb dX7_film_20 (lv_at hl 4 rfl) ?_
        refine j_csi [.int sheet, .int lane] hC hB hl.1 (c_X7_isSheetLane l_ G I J O sheet lane) (va_cwS 2 hts gX7_film_X7_isSheetLane rfl rfl rfl (by decide +kernel) ⟨by decide, by decide⟩) dX7_film_22 rfl rfl (Nat.le_of_ble_eq_true rfl) (fun r_22 u_22 H locs hp_22 hB => ?_)
        obtain ⟨rfl, rfl⟩ := hp_22
        refine jb_if_ne (tgt := 30) hx hb dX7_film_25 (by decide) (fun c_25 => ?_) (fun c_25 => ?_)
        · have h45 := (Bool.and_eq_true _ _).mp c_25
          obtain ⟨ss, hss, rfl⟩ := isB_nat h45.1 (by omega)
          obtain ⟨hold, ehold⟩ := hHo ss hss
          obtain ⟨sz, hsz, esz⟩ := hSz ss hss
          refine lv_aload_n hx hb dX7_film_30 rfl (lv_at hl 0 rfl) ?_
          refine j_get (0, 0, 0) 9 (v := .ref (G.2.2.1 (14, 0, 0))) hC hB in_X7 lk_57 dX7_film_31 jk0 rfl rfl (by decide) rfl ?_
          refine lv_iload_n hx hb dX7_film_34 rfl (lv_at hl 3 rfl) ?_
          refine j_ald (14, 0, 0) (15, ss, 0) 6 ss hC hB dX7_film_35 jk14 rfl rfl rfl (by omega) (by decide) rfl ?_
          refine lv_astore (lv' := [(6, .ref (G.2.2.1 (15, ss, 0))), (0, .ref (G.2.2.1 (0, 0, 0))), (1, .int (nI mm)), (2, .int (nI nn)), (3, .int (nI ss)), (4, .int lane), (5, .int i)]) hx hb dX7_film_36 hl (by decide) rfl (fun ls hl => ?_)
          refine lv_aload hx hb dX7_film_38 (lv_at hl 0 rfl) ?_
          refine lv_iload hx hb dX7_film_40 (lv_at hl 5 rfl) ?_
          refine lv_iload hx hb dX7_film_42 (lv_at hl 6 rfl) ?_
          refine lv_iload_n hx hb dX7_film_44 rfl (lv_at hl 3 rfl) ?_
          refine j_cvi (15, ss, 0) [.int lane, .int i, .int (nI nn)] hC hB hl.1 (c_X5_faultOf l_ G I J O ss lane i (nI nn) (by omega) (ehold)) (cwV 3 hts gX7_film_X5_faultOf rfl rfl rfl (by decide +kernel) ⟨by decide, by decide⟩) dX7_film_45 (jk15 (by omega)) rfl rfl rfl rfl (Nat.le_of_ble_eq_true rfl) (fun r_45 u_45 H locs hp_45 hB => ?_)
          obtain ⟨rfl, rfl⟩ := hp_45
          refine lv_istore (lv' := [(7, .int (flC (I 33) ss hold lane i (nI nn))), (6, .ref (G.2.2.1 (15, ss, 0))), (0, .ref (G.2.2.1 (0, 0, 0))), (1, .int (nI mm)), (2, .int (nI nn)), (3, .int (nI ss)), (4, .int lane), (5, .int i)]) hx hb dX7_film_48 hl (by decide) rfl (fun ls hl => ?_)
          refine lv_iload hx hb dX7_film_50 (lv_at hl 0 rfl) ?_
          refine lv_if_ge (tgt := 58) hx hb dX7_film_52 (by decide) (fun c_52 => ?_) (fun c_52 => ?_)
          · obtain ⟨hh1, hh2, j, k1, hj, rfl, ek⟩ := flC_nat esz hsz c_52
            have hk1 : k1 = nn := ((nI_eq (by omega) (by omega)).mp ek).symm
            refine lv_aload_n hx hb dX7_film_58 rfl (lv_at hl 2 rfl) ?_
            refine j_get (0, 0, 0) 7 (v := .ref (G.2.2.1 (11, 0, 0))) hC hB in_X7 lk_44 dX7_film_59 jk0 rfl rfl (by decide) rfl ?_
            refine lv_aload_n hx hb dX7_film_62 rfl (lv_at hl 2 rfl) ?_
            refine j_get (0, 0, 0) 0 (v := .ref (G.2.2.1 (1, 0, 0))) hC hB in_X7 lk_10 dX7_film_63 jk0 rfl rfl (by decide) rfl ?_
            refine j_getN (1, 0, 0) 1 (v := .ref (G.2.2.1 (3, 0, 0))) hC hB in_X4 ln_121 dX7_film_66 (jk1 (by omega)) rfl rfl (by decide) rfl ?_
            refine lv_iload_n hx hb dX7_film_69 rfl (lv_at hl 3 rfl) ?_
            refine j_ald (3, 0, 0) (5, 0, mm) 4 mm hC hB dX7_film_70 (jk3 (by omega)) rfl rfl rfl (by omega) (by decide) rfl ?_
            refine j_cvv (11, 0, 0) [.ref (G.2.2.1 (5, 0, mm))] hC hB hl.1 (c_X1_follow l_ G I J O mm (by omega) (by omega) (ecc) (by omega) (hD) (hW)) (cwV 1 hts gX7_film_X1_follow rfl rfl rfl (by decide +kernel) ⟨by decide, by decide⟩) dX7_film_71 jk11 rfl rfl rfl rfl (Nat.le_of_ble_eq_true rfl) (fun u_71 H locs hp_71 hB => ?_)
            obtain ⟨x19_71, x27_71, x28_71, x29_71, hx_71, rfl⟩ := hp_71
            have hB : jB G A s_.heap (sr (sr (sr (sr (sr I 26 (upd (I 26) 0 (nI cc))) 19 (x19_71)) 27 (x27_71)) 28 (x28_71)) 29 (x29_71), J, O) H locs := hB
            refine lv_iconst (v := nI 0) hx hb dX7_film_74 (by decide) ?_
            refine lv_istore (lv' := [(8, .int (nI 0)), (7, .int (flC (I 33) ss hold lane (nI j) (nI nn))), (6, .ref (G.2.2.1 (15, ss, 0))), (0, .ref (G.2.2.1 (0, 0, 0))), (1, .int (nI mm)), (2, .int (nI nn)), (3, .int (nI ss)), (4, .int lane), (5, .int (nI j))]) hx hb dX7_film_75 hl (by decide) rfl (fun ls hl => ?_)
            have lp_77 : ∀ (fu : Nat) (y : Nat → Int64) (c : Nat), nn - c < fu → (c ≤ nn) → (y = fcR x28_71 (I 33 (3 * ss + 1)) (J (2 + ss)) j c) → ∀ H locs ls, jB G A s_.heap (sr (sr (sr (sr (sr I 26 (upd (I 26) 0 (nI cc))) 19 (x19_71)) 27 (x27_71)) 28 (x28_71)) 29 (x29_71), srJ J (2 + ss) (y), O) H locs → lv_has ls 9 [(8, .int (nI c)), (7, .int (flC (I 33) ss hold lane (nI j) (nI nn))), (6, .ref (G.2.2.1 (15, ss, 0))), (0, .ref (G.2.2.1 (0, 0, 0))), (1, .int (nI mm)), (2, .int (nI nn)), (3, .int (nI ss)), (4, .int lane), (5, .int (nI j))] → W pg_ l_ ev_ ({ frames := 7, cells := 0, slots := 0, locals := 165 }) s_ mi_ ([.ref (G.2.2.1 (0, 0, 0)), .int (nI mm), .int (nI nn), .int (nI ss), .int lane, .int (nI j)]).toArray below meth cd_ H locs 0 0 (jQi G A below [.ref (G.2.2.1 (0, 0, 0)), .int (nI mm), .int (nI nn), .int (nI ss), .int lane, .int (nI j)] s_ (fun r u => r = fmA (I 33) nm (nI mm) (nI nn) (nI ss) lane (nI j) ∧ SCI I u.1 ∧ u.2.1 = fmJ (I 0) (I 33) J nd nm (nI mm) (nI nn) (nI ss) lane (nI j) ∧ u.2.2 = O)) (F0 mi_ 77 ls []) := by
              intro fu
              induction fu with
              | zero => intro y c hf; exact absurd hf (Nat.not_lt_zero _)
              | succ fu ih_77 =>
                intro y c hf_77 hc hy H locs ls hB hl
                refine lv_iload hx hb dX7_film_77 (lv_at hl 0 rfl) ?_
                refine lv_iload_n hx hb dX7_film_79 rfl (lv_at hl 5 rfl) ?_
                refine jn_icmp_ge (tgt := 110) hx hb dX7_film_80 (by decide) (by omega) (by omega) (fun c_80 => ?_) (fun c_80 => ?_)
                · refine lv_iload_n hx hb dX7_film_110 rfl (lv_at hl 5 rfl) ?_
                  exact j_iret hC hB dX7_film_111 (⟨by simp [fmA, fmOk, tN, nIc (show mm < 2147483648 by omega), nIc (show ss < 2147483648 by omega), nIc (show nn < 2147483648 by omega), h45.1, h45.2, holdB_eq ehold, n18, c_5, c_10, c_16, c_52, nIc (show j < 2147483648 by omega)], SCI.sr (SCI.sr (SCI.sr (SCI.sr (SCI.sr (SCI.rf) (sccI (by decide))) scc19) (sccI (by decide))) (sccI (by decide))) (sccI (by decide)), by rw [hy, show c = nn by omega, fcR_cong hn8 (fun q hq => (foM hcc ecc hx_71).2.1 q hq)]; simp [fmJ, fmOk, tN, nIc (show mm < 2147483648 by omega), nIc (show ss < 2147483648 by omega), nIc (show nn < 2147483648 by omega), h45.1, h45.2, holdB_eq ehold, n18, c_5, c_10, c_16, c_52, nIc (show j < 2147483648 by omega)], rfl⟩)
                · refine lv_aload hx hb dX7_film_83 (lv_at hl 2 rfl) ?_
                  refine lv_iload hx hb dX7_film_85 (lv_at hl 8 rfl) ?_
                  refine lv_iload hx hb dX7_film_87 (lv_at hl 0 rfl) ?_
                  refine jn_iadd hx hb dX7_film_89 ?_
                  refine lv_aload_n hx hb dX7_film_90 rfl (lv_at hl 3 rfl) ?_
                  refine j_get (0, 0, 0) 7 (v := .ref (G.2.2.1 (11, 0, 0))) hC hB in_X7 lk_44 dX7_film_91 jk0 rfl rfl (by decide) rfl ?_
                  refine j_getN (11, 0, 0) 4 (v := .ref (G.2.2.1 (21, 28, 0))) hC hB in_X1 ln_207 dX7_film_94 jk11 rfl rfl (by decide) rfl ?_
                  refine lv_iload hx hb dX7_film_97 (lv_at hl 0 rfl) ?_
                  refine j_iLd 28 c hC hB dX7_film_99 (by decide) rfl (by simp only [lenI_28]; omega) ?_
                  refine j_eqi (x := (sr (sr (sr (sr (sr I 26 (upd (I 26) 0 (nI cc))) 19 (x19_71)) 27 (x27_71)) 28 (x28_71)) 29 (x29_71)) 28 c) (y := x28_71 c) ((sr_nj (show (28 : Nat) ≠ 29 by omega)).trans (sr_sj)) ?_
                  refine lv_i2l (v := (x28_71 c).toInt64) hx hb dX7_film_100 rfl ?_
                  refine j_cvv (15, ss, 0) [.int (nI (j + c)), .long ((x28_71 c).toInt64)] hC hB hl.1 (c_X5_put l_ G (sr (sr (sr (sr (sr I 26 (upd (I 26) 0 (nI cc))) 19 (x19_71)) 27 (x27_71)) 28 (x28_71)) 29 (x29_71)) (srJ J (2 + ss) (y)) O ss (j + c) ((x28_71 c).toInt64) (by omega) (by omega)) (cwV 2 hts gX7_film_X5_put rfl rfl rfl (by decide +kernel) ⟨by decide, by decide⟩) dX7_film_101 (jk15 (by omega)) rfl rfl rfl rfl (Nat.le_of_ble_eq_true rfl) (fun u_101 H locs hp_101 hB => ?_)
                  obtain rfl := hp_101
                  try simp only [show (sr (sr (sr (sr (sr I 26 (upd (I 26) 0 (nI cc))) 19 (x19_71)) 27 (x27_71)) 28 (x28_71)) 29 (x29_71)) 33 = I 33 from (sr_ne (show (33 : Nat) ≠ 29 by omega)).trans ((sr_ne (show (33 : Nat) ≠ 28 by omega)).trans ((sr_ne (show (33 : Nat) ≠ 27 by omega)).trans ((sr_ne (show (33 : Nat) ≠ 19 by omega)).trans ((sr_ne (show (33 : Nat) ≠ 26 by omega)))))), show (srJ J (2 + ss) (y)) (2 + ss) = y from srJ_self] at hB
                  have hB : jB G A s_.heap (sr (sr (sr (sr (sr I 26 (upd (I 26) 0 (nI cc))) 19 (x19_71)) 27 (x27_71)) 28 (x28_71)) 29 (x29_71), srJ J (2 + ss) (vp_updL ((y)) (j + c) (cutC (I 33 (3 * ss + 1)) ((x28_71 c).toInt64))), O) H locs := by (rw [show srJ J (2 + ss) (vp_updL ((y)) (j + c) (cutC (I 33 (3 * ss + 1)) ((x28_71 c).toInt64))) = srJ (srJ J (2 + ss) (y)) (2 + ss) (vp_updL ((y)) (j + c) (cutC (I 33 (3 * ss + 1)) ((x28_71 c).toInt64))) from by funext a; simp +decide only [srJ]; (repeat' split) <;> first | rfl | (exfalso; omega) | (subst_vars; rfl)]; exact hB)
                  refine lv_iinc (v := nI (c + 1)) (lv' := [(8, .int (nI (c + 1))), (7, .int (flC (I 33) ss hold lane (nI j) (nI nn))), (6, .ref (G.2.2.1 (15, ss, 0))), (0, .ref (G.2.2.1 (0, 0, 0))), (1, .int (nI mm)), (2, .int (nI nn)), (3, .int (nI ss)), (4, .int lane), (5, .int (nI j))]) hx hb dX7_film_104 hl (k := 0) rfl (jn_inc _ 1) (by decide) rfl (fun ls hl => ?_)
                  refine lv_goto (tgt := 77) hx hb dX7_film_107 (by decide) ?_
                  exact ih_77 (vp_updL ((y)) (j + c) (cutC (I 33 (3 * ss + 1)) ((x28_71 c).toInt64))) (c + 1) (by omega) (by omega) (by rw [hy]; exact fcR_step _ _ _ _ _) _ _ _ hB (lv_sub hl [0, 1, 2, 3, 4, 5, 6, 7, 8] rfl)
            exact lp_77 _ (J (2 + ss)) 0 (Nat.lt_succ_self _) (by omega) ((fcR_0 _ _ _ _).symm) _ _ _ (jB_cast2 hB rfl (by first | exact (srJ_id _ _).symm | (funext a_; simp +decide only [srJ]; (repeat' split) <;> first | rfl | (exfalso; omega) | (subst_vars; rfl)))) (lv_sub hl [0, 1, 2, 3, 4, 5, 6, 7, 8] rfl)
          · refine lv_iload hx hb dX7_film_55 (lv_at hl 0 rfl) ?_
            exact j_iret hC hB dX7_film_57 (⟨by simp [fmA, fmOk, tN, nIc (show mm < 2147483648 by omega), nIc (show ss < 2147483648 by omega), nIc (show nn < 2147483648 by omega), h45.1, h45.2, holdB_eq ehold, n18, c_5, c_10, c_16, c_52], SCI.rf, by simp [fmJ, fmOk, tN, nIc (show mm < 2147483648 by omega), nIc (show ss < 2147483648 by omega), nIc (show nn < 2147483648 by omega), h45.1, h45.2, holdB_eq ehold, n18, c_5, c_10, c_16, c_52], rfl⟩)
        · refine lv_iconst (v := (-1 : Int32)) hx hb dX7_film_28 (by decide) ?_
          exact j_iret hC hB dX7_film_29 (⟨by simp [fmA, fmOk, n18, c_5, c_10, c_16, c_25], SCI.rf, by simp [fmJ, fmOk, n18, c_5, c_10, c_16, c_25], rfl⟩)
