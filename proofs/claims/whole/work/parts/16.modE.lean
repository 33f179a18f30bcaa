set_option maxHeartbeats 4000000 in
set_option maxRecDepth 100000 in
theorem c_X8_ways (l_ : Launch) (G : jG) (I : Nat → Nat → Int32) (J : Nat → Nat → Int64) (O : Nat → Nat → Nat) (man cell : Int32) {nd : Nat} (hnd : nd ≤ 10) (hD : I 41 0 = nI nd) {nm : Nat} (hnm : nm ≤ 4) (hM : I 41 1 = nI nm) (hW : wfD (I 41) nd) (hWc : ∀ m, m < nm → ∃ c, c < 8 ∧ I 41 (51 + m) = nI c) : jMi l_ G yX8_ways wsX8_ways ({ frames := 5, cells := 0, slots := 0, locals := 120 }) [.ref (G.2.2.1 (20, 0, 0)), .int man, .int cell] (I, J, O) (fun r u => r = waysA (I 41) nd nm man cell ∧ SMs (I, J, O) u) := by
  refine jMi_of (cc := cX8_ways) (maxL := 3) (ret := (some .int)) (lv0 := [(0, .ref (G.2.2.1 (20, 0, 0))), (1, .int man), (2, .int cell)]) (by decide) rfl (Nat.le_of_ble_eq_true rfl) rfl ?_
  intro pg_ ev_ s_ mi_ below meth cd_ A ls hC hB hl
  obtain ⟨hx, hb, hr, hml, hown, hts, hlocks, hK, hA⟩ := id hC
  have lk_19 := hts (.fieldLink RX8 19 "RiddlePrisonModel" "rowsTo" "[I") (by decide +kernel)
  have in_X8 := (fun w h => List.mem_cons_of_mem _ (List.mem_append_right _ h) : ∀ w ∈ wsX80, w ∈ wsX8_ways)
  refine lv_aload_n hx hb dX8_ways_0 rfl (lv_at hl 0 rfl) ?_
  refine lv_iload_n hx hb dX8_ways_1 rfl (lv_at hl 1 rfl) ?_
  refine j_cvi (20, 0, 0) [.int man] hC hB hl.1 (c_X8_isMan l_ G I J O man (by omega) (hM)) (cwV 1 hts gX8_ways_X8_isMan rfl rfl rfl (by decide +kernel) ⟨by decide, by decide⟩) dX8_ways_2 jk20 rfl rfl rfl rfl (Nat.le_of_ble_eq_true rfl) (fun r_2 u_2 H locs hp_2 hB => ?_)
  obtain ⟨rfl, rfl⟩ := hp_2
  refine jb_if_eq (tgt := 15) hx hb dX8_ways_5 (by decide) (fun c_5 => ?_) (fun c_5 => ?_)
  · refine lv_iconst (v := (-1 : Int32)) hx hb dX8_ways_15 (by decide) ?_
    exact j_iret hC hB dX8_ways_16 (⟨by simp [waysA, c_5], ⟨SM.rf, SMJ.rf, rfl⟩⟩)
  · obtain ⟨mm, hmm, rfl⟩ := isB_nat c_5 (by omega)
    obtain ⟨cc, hcc, ecc⟩ := hWc mm hmm
    refine lv_iload_n hx hb dX8_ways_8 rfl (lv_at hl 2 rfl) ?_
    refine j_csi [.int cell] hC hB hl.1 (c_X8_isCell l_ G I J O cell) (va_cwS 1 hts gX8_ways_X8_isCell rfl rfl rfl (by decide +kernel) ⟨by decide, by decide⟩) dX8_ways_9 rfl rfl (Nat.le_of_ble_eq_true rfl) (fun r_9 u_9 H locs hp_9 hB => ?_)
    obtain ⟨rfl, rfl⟩ := hp_9
    refine jb_if_ne (tgt := 17) hx hb dX8_ways_12 (by decide) (fun c_12 => ?_) (fun c_12 => ?_)
    · obtain ⟨xx, hxx, rfl⟩ := isB_nat c_12 (by omega)
      refine lv_aload_n hx hb dX8_ways_17 rfl (lv_at hl 0 rfl) ?_
      refine lv_iload_n hx hb dX8_ways_18 rfl (lv_at hl 1 rfl) ?_
      refine j_cvv (20, 0, 0) [.int (nI mm)] hC hB hl.1 (c_X8_layOf l_ G I J O mm (by omega) (by omega) (ecc) (by omega) (hD) (hW)) (cwV 1 hts gX8_ways_X8_layOf rfl rfl rfl (by decide +kernel) ⟨by decide, by decide⟩) dX8_ways_19 jk20 rfl rfl rfl rfl (Nat.le_of_ble_eq_true rfl) (fun u_19 H locs hp_19 hB => ?_)
      obtain rfl := hp_19
      have hB : jB G A s_.heap (sr (sr (sr I 40 (upd (I 40) 1 (nI 0))) 43 ((lsF (I 41) (I 43) (I 44) mm (nI 0) cc nd).1)) 44 ((lsF (I 41) (I 43) (I 44) mm (nI 0) cc nd).2), J, O) H locs := hB
      refine lv_aload_n hx hb dX8_ways_22 rfl (lv_at hl 0 rfl) ?_
      refine j_get (20, 0, 0) 5 (v := .ref (G.2.2.1 (21, 44, 0))) hC hB in_X8 lk_19 dX8_ways_23 jk20 rfl rfl (by decide) rfl ?_
      refine lv_iload_n hx hb dX8_ways_26 rfl (lv_at hl 2 rfl) ?_
      refine j_ild 44 xx hC hB dX8_ways_27 (by decide) rfl (by simp only [lenI_44]; omega) ?_
      refine j_eqi (x := (sr (sr (sr I 40 (upd (I 40) 1 (nI 0))) 43 ((lsF (I 41) (I 43) (I 44) mm (nI 0) cc nd).1)) 44 ((lsF (I 41) (I 43) (I 44) mm (nI 0) cc nd).2)) 44 xx) (y := ((lsF (I 41) (I 43) (I 44) mm (nI 0) cc nd).2) xx) ((congrFun sr_self _)) ?_
      exact j_iret hC hB dX8_ways_28 (⟨by rw [((lsF_Z hW (I 43) (I 44) mm (nI 0) cc) xx hxx).2]; simp [waysA, tN, ceF, nIc (show mm < 2147483648 by omega), nIc (show cc < 2147483648 by omega), ecc, nIc (show xx < 2147483648 by omega), c_5, c_12], ⟨SM.sr (SM.sr (SM_40 (SM.rf) (rfl) (rfl)) scr43) scr44, SMJ.rf, rfl⟩⟩)
    · refine lv_iconst (v := (-1 : Int32)) hx hb dX8_ways_15 (by decide) ?_
      exact j_iret hC hB dX8_ways_16 (⟨by simp [waysA, c_5, c_12], ⟨SM.rf, SMJ.rf, rfl⟩⟩)

set_option maxHeartbeats 4000000 in
set_option maxRecDepth 100000 in
theorem c_X8_reach (l_ : Launch) (G : jG) (I : Nat → Nat → Int32) (J : Nat → Nat → Int64) (O : Nat → Nat → Nat) (man : Int32) {nd : Nat} (hnd : nd ≤ 10) (hD : I 41 0 = nI nd) {nm : Nat} (hnm : nm ≤ 4) (hM : I 41 1 = nI nm) (hW : wfD (I 41) nd) (hWc : ∀ m, m < nm → ∃ c, c < 8 ∧ I 41 (51 + m) = nI c) : jMi l_ G yX8_reach wsX8_reach ({ frames := 5, cells := 0, slots := 0, locals := 120 }) [.ref (G.2.2.1 (20, 0, 0)), .int man] (I, J, O) (fun r u => r = reachA (I 41) nd nm man ∧ SMs (I, J, O) u) := by
  refine jMi_of (cc := cX8_reach) (maxL := 2) (ret := (some .int)) (lv0 := [(0, .ref (G.2.2.1 (20, 0, 0))), (1, .int man)]) (by decide) rfl (Nat.le_of_ble_eq_true rfl) rfl ?_
  intro pg_ ev_ s_ mi_ below meth cd_ A ls hC hB hl
  obtain ⟨hx, hb, hr, hml, hown, hts, hlocks, hK, hA⟩ := id hC
  refine lv_aload_n hx hb dX8_reach_0 rfl (lv_at hl 0 rfl) ?_
  refine lv_iload_n hx hb dX8_reach_1 rfl (lv_at hl 1 rfl) ?_
  refine j_cvi (20, 0, 0) [.int man] hC hB hl.1 (c_X8_isMan l_ G I J O man (by omega) (hM)) (cwV 1 hts gX8_reach_X8_isMan rfl rfl rfl (by decide +kernel) ⟨by decide, by decide⟩) dX8_reach_2 jk20 rfl rfl rfl rfl (Nat.le_of_ble_eq_true rfl) (fun r_2 u_2 H locs hp_2 hB => ?_)
  obtain ⟨rfl, rfl⟩ := hp_2
  refine jb_if_ne (tgt := 10) hx hb dX8_reach_5 (by decide) (fun c_5 => ?_) (fun c_5 => ?_)
  · obtain ⟨mm, hmm, rfl⟩ := isB_nat c_5 (by omega)
    obtain ⟨cc, hcc, ecc⟩ := hWc mm hmm
    refine lv_aload_n hx hb dX8_reach_10 rfl (lv_at hl 0 rfl) ?_
    refine lv_iload_n hx hb dX8_reach_11 rfl (lv_at hl 1 rfl) ?_
    refine j_cvv (20, 0, 0) [.int (nI mm)] hC hB hl.1 (c_X8_layOf l_ G I J O mm (by omega) (by omega) (ecc) (by omega) (hD) (hW)) (cwV 1 hts gX8_reach_X8_layOf rfl rfl rfl (by decide +kernel) ⟨by decide, by decide⟩) dX8_reach_12 jk20 rfl rfl rfl rfl (Nat.le_of_ble_eq_true rfl) (fun u_12 H locs hp_12 hB => ?_)
    obtain rfl := hp_12
    have hB : jB G A s_.heap (sr (sr (sr I 40 (upd (I 40) 1 (nI 0))) 43 ((lsF (I 41) (I 43) (I 44) mm (nI 0) cc nd).1)) 44 ((lsF (I 41) (I 43) (I 44) mm (nI 0) cc nd).2), J, O) H locs := hB
    refine lv_aload_n hx hb dX8_reach_15 rfl (lv_at hl 0 rfl) ?_
    refine j_cvi (20, 0, 0) [] hC hB hl.1 (c_X8_reached l_ G (sr (sr (sr I 40 (upd (I 40) 1 (nI 0))) 43 ((lsF (I 41) (I 43) (I 44) mm (nI 0) cc nd).1)) 44 ((lsF (I 41) (I 43) (I 44) mm (nI 0) cc nd).2)) J O) (cwV 0 hts gX8_reach_X8_reached rfl rfl rfl (by decide +kernel) ⟨by decide, by decide⟩) dX8_reach_16 jk20 rfl rfl rfl rfl (Nat.le_of_ble_eq_true rfl) (fun r_16 u_16 H locs hp_16 hB => ?_)
    obtain ⟨rfl, rfl⟩ := hp_16
    refine j_eqi (y := rchF ((lsF (I 41) (I 43) (I 44) mm (nI 0) cc nd).1) 8) rfl ?_
    exact j_iret hC hB dX8_reach_19 (⟨by rw [rchF_cong (fun j hj => ((lsF_Z hW (I 43) (I 44) mm (nI 0) cc) j hj).1)]; simp [reachA, tN, ceF, nIc (show mm < 2147483648 by omega), nIc (show cc < 2147483648 by omega), ecc, c_5], ⟨SM.sr (SM.sr (SM_40 (SM.rf) (rfl) (rfl)) scr43) scr44, SMJ.rf, rfl⟩⟩)
  · refine lv_iconst (v := (-1 : Int32)) hx hb dX8_reach_8 (by decide) ?_
    exact j_iret hC hB dX8_reach_9 (⟨by simp [reachA, c_5], ⟨SM.rf, SMJ.rf, rfl⟩⟩)

set_option maxHeartbeats 4000000 in
set_option maxRecDepth 100000 in
theorem c_X8_cut (l_ : Launch) (G : jG) (I : Nat → Nat → Int32) (J : Nat → Nat → Int64) (O : Nat → Nat → Nat) (man cell what : Int32) {nd : Nat} (hnd : nd ≤ 10) (hD : I 41 0 = nI nd) {nm : Nat} (hnm : nm ≤ 4) (hM : I 41 1 = nI nm) (hW : wfD (I 41) nd) (hWc : ∀ m, m < nm → ∃ c, c < 8 ∧ I 41 (51 + m) = nI c) : jMi l_ G yX8_cut wsX8_cut ({ frames := 5, cells := 0, slots := 0, locals := 122 }) [.ref (G.2.2.1 (20, 0, 0)), .int man, .int cell, .int what] (I, J, O) (fun r u => r = cutA (I 41) nd nm man cell what ∧ SMs (I, J, O) u) := by
  refine jMi_of (cc := cX8_cut) (maxL := 6) (ret := (some .int)) (lv0 := [(0, .ref (G.2.2.1 (20, 0, 0))), (1, .int man), (2, .int cell), (3, .int what)]) (by decide) rfl (Nat.le_of_ble_eq_true rfl) rfl ?_
  intro pg_ ev_ s_ mi_ below meth cd_ A ls hC hB hl
  obtain ⟨hx, hb, hr, hml, hown, hts, hlocks, hK, hA⟩ := id hC
  have lk_7 := hts (.fieldLink RX8 7 "RiddlePrisonModel" "now" "[I") (by decide +kernel)
  have in_X8 := (fun w h => List.mem_cons_of_mem _ (List.mem_append_right _ h) : ∀ w ∈ wsX80, w ∈ wsX8_cut)
  refine lv_aload_n hx hb dX8_cut_0 rfl (lv_at hl 0 rfl) ?_
  refine lv_iload_n hx hb dX8_cut_1 rfl (lv_at hl 1 rfl) ?_
  refine j_cvi (20, 0, 0) [.int man] hC hB hl.1 (c_X8_isMan l_ G I J O man (by omega) (hM)) (cwV 1 hts gX8_cut_X8_isMan rfl rfl rfl (by decide +kernel) ⟨by decide, by decide⟩) dX8_cut_2 jk20 rfl rfl rfl rfl (Nat.le_of_ble_eq_true rfl) (fun r_2 u_2 H locs hp_2 hB => ?_)
  obtain ⟨rfl, rfl⟩ := hp_2
  refine jb_if_eq (tgt := 25) hx hb dX8_cut_5 (by decide) (fun c_5 => ?_) (fun c_5 => ?_)
  · refine lv_iconst (v := (-1 : Int32)) hx hb dX8_cut_25 (by decide) ?_
    exact j_iret hC hB dX8_cut_26 (⟨by simp [cutA, c_5], ⟨SM.rf, SMJ.rf, rfl⟩⟩)
  · obtain ⟨mm, hmm, rfl⟩ := isB_nat c_5 (by omega)
    obtain ⟨cc, hcc, ecc⟩ := hWc mm hmm
    refine lv_iload_n hx hb dX8_cut_8 rfl (lv_at hl 2 rfl) ?_
    refine j_csi [.int cell] hC hB hl.1 (c_X8_isCell l_ G I J O cell) (va_cwS 1 hts gX8_cut_X8_isCell rfl rfl rfl (by decide +kernel) ⟨by decide, by decide⟩) dX8_cut_9 rfl rfl (Nat.le_of_ble_eq_true rfl) (fun r_9 u_9 H locs hp_9 hB => ?_)
    obtain ⟨rfl, rfl⟩ := hp_9
    refine jb_if_eq (tgt := 25) hx hb dX8_cut_12 (by decide) (fun c_12 => ?_) (fun c_12 => ?_)
    · refine lv_iconst (v := (-1 : Int32)) hx hb dX8_cut_25 (by decide) ?_
      exact j_iret hC hB dX8_cut_26 (⟨by simp [cutA, c_5, c_12], ⟨SM.rf, SMJ.rf, rfl⟩⟩)
    · obtain ⟨xx, hxx, rfl⟩ := isB_nat c_12 (by omega)
      refine lv_iload_n hx hb dX8_cut_15 rfl (lv_at hl 3 rfl) ?_
      refine lv_i2l (v := what.toInt64) hx hb dX8_cut_16 rfl ?_
      refine lv_lconst (v := 0) hx hb dX8_cut_17 rfl ?_
      refine lv_lconst (v := 1) hx hb dX8_cut_18 rfl ?_
      refine j_csi [.long what.toInt64, .long ((0 : Int64)), .long ((1 : Int64))] hC hB hl.1 (c_X8_in l_ G I J O what.toInt64 ((0 : Int64)) ((1 : Int64))) (va_cwS 3 hts gX8_cut_X8_in rfl rfl rfl (by decide +kernel) ⟨by decide, by decide⟩) dX8_cut_19 rfl rfl (Nat.le_of_ble_eq_true rfl) (fun r_19 u_19 H locs hp_19 hB => ?_)
      obtain ⟨rfl, rfl⟩ := hp_19
      refine j_eqi (y := b2 (isB what 2)) (by rw [inR_isB (n := 2) (by decide)]) ?_
      refine jb_if_ne (tgt := 27) hx hb dX8_cut_22 (by decide) (fun c_22 => ?_) (fun c_22 => ?_)
      · obtain ⟨ww, hww, rfl⟩ := isB_nat c_22 (by omega)
        refine lv_aload_n hx hb dX8_cut_27 rfl (lv_at hl 0 rfl) ?_
        refine j_get (20, 0, 0) 0 (v := .ref (G.2.2.1 (21, 41, 0))) hC hB in_X8 lk_7 dX8_cut_28 jk20 rfl rfl (by decide) rfl ?_
        refine lv_bipush (v := nI 51) hx hb dX8_cut_31 (by decide) ?_
        refine lv_iload_n hx hb dX8_cut_33 rfl (lv_at hl 1 rfl) ?_
        refine jn_iadd hx hb dX8_cut_34 ?_
        refine j_ild 41 (51 + mm) hC hB dX8_cut_35 (by decide) rfl (by simp only [lenI_41]; omega) ?_
        refine j_eqi (x := I 41 (51 + mm)) (y := nI cc) (ecc) ?_
        refine lv_iload_n hx hb dX8_cut_36 rfl (lv_at hl 2 rfl) ?_
        refine jn_icmp_ne (tgt := 43) hx hb dX8_cut_37 (by decide) (by omega) (by omega) (fun c_37 => ?_) (fun c_37 => ?_)
        · have h2n := two_le nd hnd
          refine lv_bipush (v := (-4 : Int32)) hx hb dX8_cut_43 (by decide) ?_
          refine lv_istore (lv' := [(4, .int ((-4 : Int32))), (0, .ref (G.2.2.1 (20, 0, 0))), (1, .int (nI mm)), (2, .int (nI xx)), (3, .int (nI ww))]) hx hb dX8_cut_45 hl (by decide) rfl (fun ls hl => ?_)
          refine lv_iconst (v := nI 0) hx hb dX8_cut_47 (by decide) ?_
          refine lv_istore (lv' := [(5, .int (nI 0)), (4, .int ((-4 : Int32))), (0, .ref (G.2.2.1 (20, 0, 0))), (1, .int (nI mm)), (2, .int (nI xx)), (3, .int (nI ww))]) hx hb dX8_cut_48 hl (by decide) rfl (fun ls hl => ?_)
          have lp_50 : ∀ (fu : Nat) (a : Nat → Int32) (b : Nat → Int32) (c : Nat → Int32) (best : Int32) (set : Nat), 2 ^ nd - set < fu → (a 0 = I 40 0) → (a 2 = I 40 2) → (set ≤ 2 ^ nd) → (best = it (cutS (I 41) mm cc nd xx) set (-4)) → ∀ H locs ls, jB G A s_.heap (sr (sr (sr I 40 (a)) 43 (b)) 44 (c), J, O) H locs → lv_has ls 6 [(5, .int (nI set)), (4, .int best), (0, .ref (G.2.2.1 (20, 0, 0))), (1, .int (nI mm)), (2, .int (nI xx)), (3, .int (nI ww))] → W pg_ l_ ev_ ({ frames := 5, cells := 0, slots := 0, locals := 122 }) s_ mi_ ([.ref (G.2.2.1 (20, 0, 0)), .int (nI mm), .int (nI xx), .int (nI ww)]).toArray below meth cd_ H locs 0 0 (jQi G A below [.ref (G.2.2.1 (20, 0, 0)), .int (nI mm), .int (nI xx), .int (nI ww)] s_ (fun r u => r = cutA (I 41) nd nm (nI mm) (nI xx) (nI ww) ∧ SMs (I, J, O) u)) (F0 mi_ 50 ls []) := by
            intro fu
            induction fu with
            | zero => intro a b c best set hf; exact absurd hf (Nat.not_lt_zero _)
            | succ fu ih_50 =>
              intro a b c best set hf_50 ha0 ha2 hset hs H locs ls hB hl
              refine lv_iload hx hb dX8_cut_50 (lv_at hl 0 rfl) ?_
              refine lv_iconst (v := nI 1) hx hb dX8_cut_52 (by decide) ?_
              refine lv_aload_n hx hb dX8_cut_53 rfl (lv_at hl 2 rfl) ?_
              refine j_get (20, 0, 0) 0 (v := .ref (G.2.2.1 (21, 41, 0))) hC hB in_X8 lk_7 dX8_cut_54 jk20 rfl rfl (by decide) rfl ?_
              refine lv_iconst (v := nI 0) hx hb dX8_cut_57 (by decide) ?_
              refine j_ild 41 0 hC hB dX8_cut_58 (by decide) rfl (by simp only [lenI_41]; omega) ?_
              refine j_eqi (x := (sr (sr (sr I 40 (a)) 43 (b)) 44 (c)) 41 0) (y := nI nd) ((congrFun (sr_ne (show (41 : Nat) ≠ 44 by omega)) _).trans ((congrFun (sr_ne (show (41 : Nat) ≠ 43 by omega)) _).trans ((congrFun (sr_ne (show (41 : Nat) ≠ 40 by omega)) _).trans (hD)))) ?_
              refine lv_ishl hx hb dX8_cut_59 ?_
              refine j_eqi (y := nI (2 ^ nd)) (shl1 nd hnd) ?_
              refine jn_icmp_ge (tgt := 104) hx hb dX8_cut_60 (by decide) (by omega) (by omega) (fun c_60 => ?_) (fun c_60 => ?_)
              · refine lv_iload_n hx hb dX8_cut_104 rfl (lv_at hl 5 rfl) ?_
                refine jn_if_ne (tgt := 116) hx hb dX8_cut_105 (by decide) (by omega) (fun c_105 => ?_) (fun c_105 => ?_)
                · refine lv_iload hx hb dX8_cut_116 (lv_at hl 1 rfl) ?_
                  exact j_iret hC hB dX8_cut_118 (⟨by rw [hs, show set = 2 ^ nd by omega]; simp [cutA, cutF, nIq (show cc < 2147483648 by omega) (show xx < 2147483648 by omega), nIq (show ww < 2147483648 by omega) (show 0 < 2147483648 by decide), tN, ceF, nIc (show mm < 2147483648 by omega), nIc (show cc < 2147483648 by omega), ecc, nIc (show xx < 2147483648 by omega), c_5, c_12, c_22, c_37, c_60, c_105], ⟨SM.sr (SM.sr (SM_40 (SM.rf) (ha0) (ha2)) scr43) scr44, SMJ.rf, rfl⟩⟩)
                · refine lv_iload hx hb dX8_cut_108 (lv_at hl 1 rfl) ?_
                  refine j_csi [.int best] hC hB hl.1 (c_X8_bits l_ G (sr (sr (sr I 40 (a)) 43 (b)) 44 (c)) J O best) (va_cwS 1 hts gX8_cut_X8_bits rfl rfl rfl (by decide +kernel) ⟨by decide, by decide⟩) dX8_cut_110 rfl rfl (Nat.le_of_ble_eq_true rfl) (fun r_110 u_110 H locs hp_110 hB => ?_)
                  obtain ⟨rfl, rfl⟩ := hp_110
                  refine j_eqi (y := bitsF best) rfl ?_
                  refine lv_goto (tgt := 118) hx hb dX8_cut_113 (by decide) ?_
                  exact j_iret hC hB dX8_cut_118 (⟨by rw [hs, show set = 2 ^ nd by omega]; simp [cutA, cutF, nIq (show cc < 2147483648 by omega) (show xx < 2147483648 by omega), nIq (show ww < 2147483648 by omega) (show 0 < 2147483648 by decide), tN, ceF, nIc (show mm < 2147483648 by omega), nIc (show cc < 2147483648 by omega), ecc, nIc (show xx < 2147483648 by omega), c_5, c_12, c_22, c_37, c_60, eq_true c_105], ⟨SM.sr (SM.sr (SM_40 (SM.rf) (ha0) (ha2)) scr43) scr44, SMJ.rf, rfl⟩⟩)
              · refine lv_iload hx hb dX8_cut_63 (lv_at hl 1 rfl) ?_
                refine lv_bipush (v := (-4 : Int32)) hx hb dX8_cut_65 (by decide) ?_
                refine lv_icmp_eq (tgt := 83) hx hb dX8_cut_67 (by decide) (fun c_67 => ?_) (fun c_67 => ?_)
                · refine lv_aload_n hx hb dX8_cut_83 rfl (lv_at hl 2 rfl) ?_
                  refine lv_iload_n hx hb dX8_cut_84 rfl (lv_at hl 3 rfl) ?_
                  refine lv_iload_n hx hb dX8_cut_85 rfl (lv_at hl 4 rfl) ?_
                  refine lv_iload hx hb dX8_cut_86 (lv_at hl 0 rfl) ?_
                  refine j_cvi (20, 0, 0) [.int (nI mm), .int (nI xx), .int (nI set)] hC hB hl.1 (c_X8_reachesBut l_ G (sr (sr (sr I 40 (a)) 43 (b)) 44 (c)) J O mm xx (nI set) (by omega) (by omega) (by omega) ((congrFun (sr_ne (show (41 : Nat) ≠ 44 by omega)) _).trans ((congrFun (sr_ne (show (41 : Nat) ≠ 43 by omega)) _).trans ((congrFun (sr_ne (show (41 : Nat) ≠ 40 by omega)) _).trans (ecc)))) (by omega) ((congrFun (sr_ne (show (41 : Nat) ≠ 44 by omega)) _).trans ((congrFun (sr_ne (show (41 : Nat) ≠ 43 by omega)) _).trans ((congrFun (sr_ne (show (41 : Nat) ≠ 40 by omega)) _).trans (hD)))) (hW)) (cwV 3 hts gX8_cut_X8_reachesBut rfl rfl rfl (by decide +kernel) ⟨by decide, by decide⟩) dX8_cut_88 jk20 rfl rfl rfl rfl (Nat.le_of_ble_eq_true rfl) (fun r_88 u_88 H locs hp_88 hB => ?_)
                  obtain ⟨rfl, rfl⟩ := hp_88
                  have hB : jB G A s_.heap (sr (sr (sr I 40 (upd (a) 1 (nI set))) 43 ((lsF (I 41) (b) (c) mm (nI set) cc nd).1)) 44 ((lsF (I 41) (b) (c) mm (nI set) cc nd).2), J, O) H locs := by rw [show sr (sr (sr I 40 (upd (a) 1 (nI set))) 43 ((lsF (I 41) (b) (c) mm (nI set) cc nd).1)) 44 ((lsF (I 41) (b) (c) mm (nI set) cc nd).2) = sr (sr (sr (sr (sr (sr I 40 (a)) 43 (b)) 44 (c)) 40 (upd (a) 1 (nI set))) 43 ((lsF (I 41) (b) (c) mm (nI set) cc nd).1)) 44 ((lsF (I 41) (b) (c) mm (nI set) cc nd).2) from by funext a; simp +decide only [sr]; (repeat' split) <;> first | rfl | (exfalso; omega) | (subst_vars; rfl)]; exact hB
                  refine j_eqi (y := b2 (rbB (I 41) mm (nI set) cc nd xx)) rfl ?_
                  refine jb_if_ne (tgt := 98) hx hb dX8_cut_91 (by decide) (fun c_91 => ?_) (fun c_91 => ?_)
                  · refine lv_iinc (v := nI (set + 1)) (lv' := [(5, .int (nI (set + 1))), (4, .int best), (0, .ref (G.2.2.1 (20, 0, 0))), (1, .int (nI mm)), (2, .int (nI xx)), (3, .int (nI ww))]) hx hb dX8_cut_98 hl (k := 0) rfl (jn_inc _ 1) (by decide) rfl (fun ls hl => ?_)
                    refine lv_goto (tgt := 50) hx hb dX8_cut_101 (by decide) ?_
                    exact ih_50 (upd (a) 1 (nI set)) ((lsF (I 41) (b) (c) mm (nI set) cc nd).1) ((lsF (I 41) (b) (c) mm (nI set) cc nd).2) best (set + 1) (by omega) (ha0) (ha2) (by omega) (by show _ = cutS _ _ _ _ _ _ (it _ _ _); rw [← hs]; simp [cutS, eq_true c_67, c_91]) _ _ _ (jB_cast2 hB (by first | rfl | exact (sr_id _ _).symm | exact (srJ_id _ _).symm | (funext a; simp +decide only [sr, srJ]; (repeat' split) <;> first | rfl | (exfalso; omega) | (subst_vars; rfl))) (by first | rfl | exact (sr_id _ _).symm | exact (srJ_id _ _).symm | (funext a; simp +decide only [sr, srJ]; (repeat' split) <;> first | rfl | (exfalso; omega) | (subst_vars; rfl)))) (lv_sub hl [0, 1, 2, 3, 4, 5] rfl)
                  · refine lv_iload hx hb dX8_cut_94 (lv_at hl 0 rfl) ?_
                    refine lv_istore (lv' := [(4, .int (nI set)), (5, .int (nI set)), (0, .ref (G.2.2.1 (20, 0, 0))), (1, .int (nI mm)), (2, .int (nI xx)), (3, .int (nI ww))]) hx hb dX8_cut_96 hl (by decide) rfl (fun ls hl => ?_)
                    refine lv_iinc (v := nI (set + 1)) (lv' := [(5, .int (nI (set + 1))), (4, .int (nI set)), (0, .ref (G.2.2.1 (20, 0, 0))), (1, .int (nI mm)), (2, .int (nI xx)), (3, .int (nI ww))]) hx hb dX8_cut_98 hl (k := 1) rfl (jn_inc _ 1) (by decide) rfl (fun ls hl => ?_)
                    refine lv_goto (tgt := 50) hx hb dX8_cut_101 (by decide) ?_
                    exact ih_50 (upd (a) 1 (nI set)) ((lsF (I 41) (b) (c) mm (nI set) cc nd).1) ((lsF (I 41) (b) (c) mm (nI set) cc nd).2) (nI set) (set + 1) (by omega) (ha0) (ha2) (by omega) (by show _ = cutS _ _ _ _ _ _ (it _ _ _); rw [← hs]; simp [cutS, eq_true c_67, c_91]) _ _ _ (jB_cast2 hB (by first | rfl | exact (sr_id _ _).symm | exact (srJ_id _ _).symm | (funext a; simp +decide only [sr, srJ]; (repeat' split) <;> first | rfl | (exfalso; omega) | (subst_vars; rfl))) (by first | rfl | exact (sr_id _ _).symm | exact (srJ_id _ _).symm | (funext a; simp +decide only [sr, srJ]; (repeat' split) <;> first | rfl | (exfalso; omega) | (subst_vars; rfl)))) (lv_sub hl [0, 1, 2, 3, 4, 5] rfl)
                · refine lv_iload hx hb dX8_cut_70 (lv_at hl 0 rfl) ?_
                  refine j_csi [.int (nI set)] hC hB hl.1 (c_X8_bits l_ G (sr (sr (sr I 40 (a)) 43 (b)) 44 (c)) J O (nI set)) (va_cwS 1 hts gX8_cut_X8_bits rfl rfl rfl (by decide +kernel) ⟨by decide, by decide⟩) dX8_cut_72 rfl rfl (Nat.le_of_ble_eq_true rfl) (fun r_72 u_72 H locs hp_72 hB => ?_)
                  obtain ⟨rfl, rfl⟩ := hp_72
                  refine j_eqi (y := bitsF (nI set)) rfl ?_
                  refine lv_iload hx hb dX8_cut_75 (lv_at hl 1 rfl) ?_
                  refine j_csi [.int best] hC hB hl.1 (c_X8_bits l_ G (sr (sr (sr I 40 (a)) 43 (b)) 44 (c)) J O best) (va_cwS 1 hts gX8_cut_X8_bits rfl rfl rfl (by decide +kernel) ⟨by decide, by decide⟩) dX8_cut_77 rfl rfl (Nat.le_of_ble_eq_true rfl) (fun r_77 u_77 H locs hp_77 hB => ?_)
                  obtain ⟨rfl, rfl⟩ := hp_77
                  refine j_eqi (y := bitsF best) rfl ?_
                  refine lv_icmp_ge (tgt := 98) hx hb dX8_cut_80 (by decide) (fun c_80 => ?_) (fun c_80 => ?_)
                  · refine lv_iinc (v := nI (set + 1)) (lv' := [(5, .int (nI (set + 1))), (4, .int best), (0, .ref (G.2.2.1 (20, 0, 0))), (1, .int (nI mm)), (2, .int (nI xx)), (3, .int (nI ww))]) hx hb dX8_cut_98 hl (k := 0) rfl (jn_inc _ 1) (by decide) rfl (fun ls hl => ?_)
                    refine lv_goto (tgt := 50) hx hb dX8_cut_101 (by decide) ?_
                    exact ih_50 a b c best (set + 1) (by omega) (ha0) (ha2) (by omega) (by show _ = cutS _ _ _ _ _ _ (it _ _ _); rw [← hs]; simp [cutS, c_67, c_80]) _ _ _ (jB_cast2 hB (by first | rfl | exact (sr_id _ _).symm | exact (srJ_id _ _).symm | (funext a; simp +decide only [sr, srJ]; (repeat' split) <;> first | rfl | (exfalso; omega) | (subst_vars; rfl))) (by first | rfl | exact (sr_id _ _).symm | exact (srJ_id _ _).symm | (funext a; simp +decide only [sr, srJ]; (repeat' split) <;> first | rfl | (exfalso; omega) | (subst_vars; rfl)))) (lv_sub hl [0, 1, 2, 3, 4, 5] rfl)
                  · refine lv_aload_n hx hb dX8_cut_83 rfl (lv_at hl 2 rfl) ?_
                    refine lv_iload_n hx hb dX8_cut_84 rfl (lv_at hl 3 rfl) ?_
                    refine lv_iload_n hx hb dX8_cut_85 rfl (lv_at hl 4 rfl) ?_
                    refine lv_iload hx hb dX8_cut_86 (lv_at hl 0 rfl) ?_
                    refine j_cvi (20, 0, 0) [.int (nI mm), .int (nI xx), .int (nI set)] hC hB hl.1 (c_X8_reachesBut l_ G (sr (sr (sr I 40 (a)) 43 (b)) 44 (c)) J O mm xx (nI set) (by omega) (by omega) (by omega) ((congrFun (sr_ne (show (41 : Nat) ≠ 44 by omega)) _).trans ((congrFun (sr_ne (show (41 : Nat) ≠ 43 by omega)) _).trans ((congrFun (sr_ne (show (41 : Nat) ≠ 40 by omega)) _).trans (ecc)))) (by omega) ((congrFun (sr_ne (show (41 : Nat) ≠ 44 by omega)) _).trans ((congrFun (sr_ne (show (41 : Nat) ≠ 43 by omega)) _).trans ((congrFun (sr_ne (show (41 : Nat) ≠ 40 by omega)) _).trans (hD)))) (hW)) (cwV 3 hts gX8_cut_X8_reachesBut rfl rfl rfl (by decide +kernel) ⟨by decide, by decide⟩) dX8_cut_88 jk20 rfl rfl rfl rfl (Nat.le_of_ble_eq_true rfl) (fun r_88 u_88 H locs hp_88 hB => ?_)
                    obtain ⟨rfl, rfl⟩ := hp_88
                    have hB : jB G A s_.heap (sr (sr (sr I 40 (upd (a) 1 (nI set))) 43 ((lsF (I 41) (b) (c) mm (nI set) cc nd).1)) 44 ((lsF (I 41) (b) (c) mm (nI set) cc nd).2), J, O) H locs := by rw [show sr (sr (sr I 40 (upd (a) 1 (nI set))) 43 ((lsF (I 41) (b) (c) mm (nI set) cc nd).1)) 44 ((lsF (I 41) (b) (c) mm (nI set) cc nd).2) = sr (sr (sr (sr (sr (sr I 40 (a)) 43 (b)) 44 (c)) 40 (upd (a) 1 (nI set))) 43 ((lsF (I 41) (b) (c) mm (nI set) cc nd).1)) 44 ((lsF (I 41) (b) (c) mm (nI set) cc nd).2) from by funext a; simp +decide only [sr]; (repeat' split) <;> first | rfl | (exfalso; omega) | (subst_vars; rfl)]; exact hB
                    refine j_eqi (y := b2 (rbB (I 41) mm (nI set) cc nd xx)) rfl ?_
                    refine jb_if_ne (tgt := 98) hx hb dX8_cut_91 (by decide) (fun c_91 => ?_) (fun c_91 => ?_)
                    · refine lv_iinc (v := nI (set + 1)) (lv' := [(5, .int (nI (set + 1))), (4, .int best), (0, .ref (G.2.2.1 (20, 0, 0))), (1, .int (nI mm)), (2, .int (nI xx)), (3, .int (nI ww))]) hx hb dX8_cut_98 hl (k := 0) rfl (jn_inc _ 1) (by decide) rfl (fun ls hl => ?_)
                      refine lv_goto (tgt := 50) hx hb dX8_cut_101 (by decide) ?_
                      exact ih_50 (upd (a) 1 (nI set)) ((lsF (I 41) (b) (c) mm (nI set) cc nd).1) ((lsF (I 41) (b) (c) mm (nI set) cc nd).2) best (set + 1) (by omega) (ha0) (ha2) (by omega) (by show _ = cutS _ _ _ _ _ _ (it _ _ _); rw [← hs]; simp [cutS, c_67, c_80, c_91]) _ _ _ (jB_cast2 hB (by first | rfl | exact (sr_id _ _).symm | exact (srJ_id _ _).symm | (funext a; simp +decide only [sr, srJ]; (repeat' split) <;> first | rfl | (exfalso; omega) | (subst_vars; rfl))) (by first | rfl | exact (sr_id _ _).symm | exact (srJ_id _ _).symm | (funext a; simp +decide only [sr, srJ]; (repeat' split) <;> first | rfl | (exfalso; omega) | (subst_vars; rfl)))) (lv_sub hl [0, 1, 2, 3, 4, 5] rfl)
                    · refine lv_iload hx hb dX8_cut_94 (lv_at hl 0 rfl) ?_
                      refine lv_istore (lv' := [(4, .int (nI set)), (5, .int (nI set)), (0, .ref (G.2.2.1 (20, 0, 0))), (1, .int (nI mm)), (2, .int (nI xx)), (3, .int (nI ww))]) hx hb dX8_cut_96 hl (by decide) rfl (fun ls hl => ?_)
                      refine lv_iinc (v := nI (set + 1)) (lv' := [(5, .int (nI (set + 1))), (4, .int (nI set)), (0, .ref (G.2.2.1 (20, 0, 0))), (1, .int (nI mm)), (2, .int (nI xx)), (3, .int (nI ww))]) hx hb dX8_cut_98 hl (k := 1) rfl (jn_inc _ 1) (by decide) rfl (fun ls hl => ?_)
                      refine lv_goto (tgt := 50) hx hb dX8_cut_101 (by decide) ?_
                      exact ih_50 (upd (a) 1 (nI set)) ((lsF (I 41) (b) (c) mm (nI set) cc nd).1) ((lsF (I 41) (b) (c) mm (nI set) cc nd).2) (nI set) (set + 1) (by omega) (ha0) (ha2) (by omega) (by show _ = cutS _ _ _ _ _ _ (it _ _ _); rw [← hs]; simp [cutS, c_67, c_80, c_91]) _ _ _ (jB_cast2 hB (by first | rfl | exact (sr_id _ _).symm | exact (srJ_id _ _).symm | (funext a; simp +decide only [sr, srJ]; (repeat' split) <;> first | rfl | (exfalso; omega) | (subst_vars; rfl))) (by first | rfl | exact (sr_id _ _).symm | exact (srJ_id _ _).symm | (funext a; simp +decide only [sr, srJ]; (repeat' split) <;> first | rfl | (exfalso; omega) | (subst_vars; rfl)))) (lv_sub hl [0, 1, 2, 3, 4, 5] rfl)
          exact lp_50 _ (I 40) (I 43) (I 44) ((-4 : Int32)) 0 (Nat.lt_succ_self _) (rfl) (rfl) (Nat.zero_le _) (rfl) _ _ _ (jB_cast2 hB (by first | rfl | exact (sr_id _ _).symm | exact (srJ_id _ _).symm | (funext a; simp +decide only [sr, srJ]; (repeat' split) <;> first | rfl | (exfalso; omega) | (subst_vars; rfl))) (by first | rfl | exact (sr_id _ _).symm | exact (srJ_id _ _).symm | (funext a; simp +decide only [sr, srJ]; (repeat' split) <;> first | rfl | (exfalso; omega) | (subst_vars; rfl)))) (lv_sub hl [0, 1, 2, 3, 4, 5] rfl)
        · refine lv_bipush (v := (-4 : Int32)) hx hb dX8_cut_40 (by decide) ?_
          exact j_iret hC hB dX8_cut_42 (⟨by simp [cutA, nIq (show cc < 2147483648 by omega) (show xx < 2147483648 by omega), tN, ceF, nIc (show mm < 2147483648 by omega), nIc (show cc < 2147483648 by omega), ecc, nIc (show xx < 2147483648 by omega), c_5, c_12, c_22, eq_true c_37], ⟨SM.rf, SMJ.rf, rfl⟩⟩)
      · refine lv_iconst (v := (-1 : Int32)) hx hb dX8_cut_25 (by decide) ?_
        exact j_iret hC hB dX8_cut_26 (⟨by simp [cutA, c_5, c_12, c_22], ⟨SM.rf, SMJ.rf, rfl⟩⟩)

set_option maxHeartbeats 4000000 in
set_option maxRecDepth 100000 in
theorem c_X8_bridges (l_ : Launch) (G : jG) (I : Nat → Nat → Int32) (J : Nat → Nat → Int64) (O : Nat → Nat → Nat) (man cell : Int32) {nd : Nat} (hnd : nd ≤ 10) (hD : I 41 0 = nI nd) {nm : Nat} (hnm : nm ≤ 4) (hM : I 41 1 = nI nm) (hW : wfD (I 41) nd) (hWc : ∀ m, m < nm → ∃ c, c < 8 ∧ I 41 (51 + m) = nI c) : jMi l_ G yX8_bridges wsX8_bridges ({ frames := 5, cells := 0, slots := 0, locals := 122 }) [.ref (G.2.2.1 (20, 0, 0)), .int man, .int cell] (I, J, O) (fun r u => r = briA (I 41) nd nm man cell ∧ SMs (I, J, O) u) := by
  refine jMi_of (cc := cX8_bridges) (maxL := 6) (ret := (some .int)) (lv0 := [(0, .ref (G.2.2.1 (20, 0, 0))), (1, .int man), (2, .int cell)]) (by decide) rfl (Nat.le_of_ble_eq_true rfl) rfl ?_
  intro pg_ ev_ s_ mi_ below meth cd_ A ls hC hB hl
  obtain ⟨hx, hb, hr, hml, hown, hts, hlocks, hK, hA⟩ := id hC
  have lk_7 := hts (.fieldLink RX8 7 "RiddlePrisonModel" "now" "[I") (by decide +kernel)
  have in_X8 := (fun w h => List.mem_cons_of_mem _ (List.mem_append_right _ h) : ∀ w ∈ wsX80, w ∈ wsX8_bridges)
  refine lv_aload_n hx hb dX8_bridges_0 rfl (lv_at hl 0 rfl) ?_
  refine lv_iload_n hx hb dX8_bridges_1 rfl (lv_at hl 1 rfl) ?_
  refine j_cvi (20, 0, 0) [.int man] hC hB hl.1 (c_X8_isMan l_ G I J O man (by omega) (hM)) (cwV 1 hts gX8_bridges_X8_isMan rfl rfl rfl (by decide +kernel) ⟨by decide, by decide⟩) dX8_bridges_2 jk20 rfl rfl rfl rfl (Nat.le_of_ble_eq_true rfl) (fun r_2 u_2 H locs hp_2 hB => ?_)
  obtain ⟨rfl, rfl⟩ := hp_2
  refine jb_if_eq (tgt := 15) hx hb dX8_bridges_5 (by decide) (fun c_5 => ?_) (fun c_5 => ?_)
  · refine lv_iconst (v := (-1 : Int32)) hx hb dX8_bridges_15 (by decide) ?_
    exact j_iret hC hB dX8_bridges_16 (⟨by simp [briA, c_5], ⟨SM.rf, SMJ.rf, rfl⟩⟩)
  · obtain ⟨mm, hmm, rfl⟩ := isB_nat c_5 (by omega)
    obtain ⟨cc, hcc, ecc⟩ := hWc mm hmm
    refine lv_iload_n hx hb dX8_bridges_8 rfl (lv_at hl 2 rfl) ?_
    refine j_csi [.int cell] hC hB hl.1 (c_X8_isCell l_ G I J O cell) (va_cwS 1 hts gX8_bridges_X8_isCell rfl rfl rfl (by decide +kernel) ⟨by decide, by decide⟩) dX8_bridges_9 rfl rfl (Nat.le_of_ble_eq_true rfl) (fun r_9 u_9 H locs hp_9 hB => ?_)
    obtain ⟨rfl, rfl⟩ := hp_9
    refine jb_if_ne (tgt := 17) hx hb dX8_bridges_12 (by decide) (fun c_12 => ?_) (fun c_12 => ?_)
    · obtain ⟨xx, hxx, rfl⟩ := isB_nat c_12 (by omega)
      refine lv_iconst (v := nI 0) hx hb dX8_bridges_17 (by decide) ?_
      refine lv_istore_n (lv' := [(3, .int (nI 0)), (0, .ref (G.2.2.1 (20, 0, 0))), (1, .int (nI mm)), (2, .int (nI xx))]) hx hb dX8_bridges_18 rfl hl (by decide) rfl (fun ls hl => ?_)
      refine lv_aload_n hx hb dX8_bridges_19 rfl (lv_at hl 1 rfl) ?_
      refine j_get (20, 0, 0) 0 (v := .ref (G.2.2.1 (21, 41, 0))) hC hB in_X8 lk_7 dX8_bridges_20 jk20 rfl rfl (by decide) rfl ?_
      refine lv_bipush (v := nI 51) hx hb dX8_bridges_23 (by decide) ?_
      refine lv_iload_n hx hb dX8_bridges_25 rfl (lv_at hl 2 rfl) ?_
      refine jn_iadd hx hb dX8_bridges_26 ?_
      refine j_ild 41 (51 + mm) hC hB dX8_bridges_27 (by decide) rfl (by simp only [lenI_41]; omega) ?_
      refine j_eqi (x := I 41 (51 + mm)) (y := nI cc) (ecc) ?_
      refine lv_iload_n hx hb dX8_bridges_28 rfl (lv_at hl 3 rfl) ?_
      refine jn_icmp_eq (tgt := 46) hx hb dX8_bridges_29 (by decide) (by omega) (by omega) (fun c_29 => ?_) (fun c_29 => ?_)
      · refine lv_iconst (v := nI 0) hx hb dX8_bridges_46 (by decide) ?_
        refine lv_istore (lv' := [(4, .int (nI 0)), (3, .int (nI 0)), (0, .ref (G.2.2.1 (20, 0, 0))), (1, .int (nI mm)), (2, .int (nI xx))]) hx hb dX8_bridges_47 hl (by decide) rfl (fun ls hl => ?_)
        refine lv_iconst (v := nI 0) hx hb dX8_bridges_49 (by decide) ?_
        refine lv_istore (lv' := [(5, .int (nI 0)), (4, .int (nI 0)), (3, .int (nI 0)), (0, .ref (G.2.2.1 (20, 0, 0))), (1, .int (nI mm)), (2, .int (nI xx))]) hx hb dX8_bridges_50 hl (by decide) rfl (fun ls hl => ?_)
        have lp_52 : ∀ (fu : Nat) (a : Nat → Int32) (b : Nat → Int32) (c : Nat → Int32) (set : Int32) (d : Nat), nd - d < fu → (a 0 = I 40 0) → (a 2 = I 40 2) → (d ≤ nd) → (set = nI 0 ∧ d = 0) → ∀ H locs ls, jB G A s_.heap (sr (sr (sr I 40 (a)) 43 (b)) 44 (c), J, O) H locs → lv_has ls 6 [(5, .int (nI d)), (4, .int (nI 0)), (3, .int set), (0, .ref (G.2.2.1 (20, 0, 0))), (1, .int (nI mm)), (2, .int (nI xx))] → W pg_ l_ ev_ ({ frames := 5, cells := 0, slots := 0, locals := 122 }) s_ mi_ ([.ref (G.2.2.1 (20, 0, 0)), .int (nI mm), .int (nI xx)]).toArray below meth cd_ H locs 0 0 (jQi G A below [.ref (G.2.2.1 (20, 0, 0)), .int (nI mm), .int (nI xx)] s_ (fun r u => r = briA (I 41) nd nm (nI mm) (nI xx) ∧ SMs (I, J, O) u)) (F0 mi_ 52 ls []) := by
          intro fu
          induction fu with
          | zero => intro a b c set d hf; exact absurd hf (Nat.not_lt_zero _)
          | succ fu ih_52 =>
            intro a b c set d hf_52 ha0 ha2 hd hs H locs ls hB hl
            refine lv_iload hx hb dX8_bridges_52 (lv_at hl 0 rfl) ?_
            refine lv_aload_n hx hb dX8_bridges_54 rfl (lv_at hl 3 rfl) ?_
            refine j_get (20, 0, 0) 0 (v := .ref (G.2.2.1 (21, 41, 0))) hC hB in_X8 lk_7 dX8_bridges_55 jk20 rfl rfl (by decide) rfl ?_
            refine lv_iconst (v := nI 0) hx hb dX8_bridges_58 (by decide) ?_
            refine j_ild 41 0 hC hB dX8_bridges_59 (by decide) rfl (by simp only [lenI_41]; omega) ?_
            refine j_eqi (x := (sr (sr (sr I 40 (a)) 43 (b)) 44 (c)) 41 0) (y := nI nd) ((congrFun (sr_ne (show (41 : Nat) ≠ 44 by omega)) _).trans ((congrFun (sr_ne (show (41 : Nat) ≠ 43 by omega)) _).trans ((congrFun (sr_ne (show (41 : Nat) ≠ 40 by omega)) _).trans (hD)))) ?_
            refine jn_icmp_ge (tgt := 98) hx hb dX8_bridges_60 (by decide) (by omega) (by omega) (fun c_60 => ?_) (fun c_60 => ?_)
            · refine lv_iload_n hx hb dX8_bridges_98 rfl (lv_at hl 2 rfl) ?_
              exact j_iret hC hB dX8_bridges_99 (⟨by rw [hs.1]; simp [briA, nIq (show cc < 2147483648 by omega) (show xx < 2147483648 by omega), tN, ceF, nIc (show mm < 2147483648 by omega), nIc (show cc < 2147483648 by omega), ecc, nIc (show xx < 2147483648 by omega), c_5, c_12, eq_true c_29], ⟨SM.sr (SM.sr (SM_40 (SM.rf) (ha0) (ha2)) scr43) scr44, SMJ.rf, rfl⟩⟩)
            · refine lv_iload hx hb dX8_bridges_63 (lv_at hl 1 rfl) ?_
              refine jn_if_eq (tgt := 98) hx hb dX8_bridges_65 (by decide) (by omega) (fun c_65 => ?_) (fun c_65 => ?_)
              · refine lv_iload_n hx hb dX8_bridges_98 rfl (lv_at hl 2 rfl) ?_
                exact j_iret hC hB dX8_bridges_99 (⟨by rw [hs.1]; simp [briA, nIq (show cc < 2147483648 by omega) (show xx < 2147483648 by omega), tN, ceF, nIc (show mm < 2147483648 by omega), nIc (show cc < 2147483648 by omega), ecc, nIc (show xx < 2147483648 by omega), c_5, c_12, eq_true c_29], ⟨SM.sr (SM.sr (SM_40 (SM.rf) (ha0) (ha2)) scr43) scr44, SMJ.rf, rfl⟩⟩)
              · exact absurd rfl c_65
        exact lp_52 _ (I 40) (I 43) (I 44) (nI 0) 0 (Nat.lt_succ_self _) (rfl) (rfl) (by omega) (⟨rfl, rfl⟩) _ _ _ (jB_cast2 hB (by first | rfl | exact (sr_id _ _).symm | exact (srJ_id _ _).symm | (funext a; simp +decide only [sr, srJ]; (repeat' split) <;> first | rfl | (exfalso; omega) | (subst_vars; rfl))) (by first | rfl | exact (sr_id _ _).symm | exact (srJ_id _ _).symm | (funext a; simp +decide only [sr, srJ]; (repeat' split) <;> first | rfl | (exfalso; omega) | (subst_vars; rfl)))) (lv_sub hl [0, 1, 2, 3, 4, 5] rfl)
      · refine lv_aload_n hx hb dX8_bridges_32 rfl (lv_at hl 1 rfl) ?_
        refine lv_iload_n hx hb dX8_bridges_33 rfl (lv_at hl 2 rfl) ?_
        refine lv_iload_n hx hb dX8_bridges_34 rfl (lv_at hl 3 rfl) ?_
        refine lv_iconst (v := nI 0) hx hb dX8_bridges_35 (by decide) ?_
        refine j_cvi (20, 0, 0) [.int (nI mm), .int (nI xx), .int (nI 0)] hC hB hl.1 (c_X8_reachesBut l_ G I J O mm xx (nI 0) (by omega) (by omega) (by omega) (ecc) (by omega) (hD) (hW)) (cwV 3 hts gX8_bridges_X8_reachesBut rfl rfl rfl (by decide +kernel) ⟨by decide, by decide⟩) dX8_bridges_36 jk20 rfl rfl rfl rfl (Nat.le_of_ble_eq_true rfl) (fun r_36 u_36 H locs hp_36 hB => ?_)
        obtain ⟨rfl, rfl⟩ := hp_36
        have hB : jB G A s_.heap (sr (sr (sr I 40 (upd (I 40) 1 (nI 0))) 43 ((lsF (I 41) (I 43) (I 44) mm (nI 0) cc nd).1)) 44 ((lsF (I 41) (I 43) (I 44) mm (nI 0) cc nd).2), J, O) H locs := hB
        refine j_eqi (y := b2 (rbB (I 41) mm (nI 0) cc nd xx)) rfl ?_
        refine jb_if_eq (tgt := 46) hx hb dX8_bridges_39 (by decide) (fun c_39 => ?_) (fun c_39 => ?_)
        · refine lv_iconst (v := nI 0) hx hb dX8_bridges_46 (by decide) ?_
          refine lv_istore (lv' := [(4, .int (nI 0)), (3, .int (nI 0)), (0, .ref (G.2.2.1 (20, 0, 0))), (1, .int (nI mm)), (2, .int (nI xx))]) hx hb dX8_bridges_47 hl (by decide) rfl (fun ls hl => ?_)
          refine lv_iconst (v := nI 0) hx hb dX8_bridges_49 (by decide) ?_
          refine lv_istore (lv' := [(5, .int (nI 0)), (4, .int (nI 0)), (3, .int (nI 0)), (0, .ref (G.2.2.1 (20, 0, 0))), (1, .int (nI mm)), (2, .int (nI xx))]) hx hb dX8_bridges_50 hl (by decide) rfl (fun ls hl => ?_)
          have lp_52 : ∀ (fu : Nat) (a : Nat → Int32) (b : Nat → Int32) (c : Nat → Int32) (set : Int32) (d : Nat), nd - d < fu → (a 0 = I 40 0) → (a 2 = I 40 2) → (d ≤ nd) → (set = nI 0 ∧ d = 0) → ∀ H locs ls, jB G A s_.heap (sr (sr (sr I 40 (a)) 43 (b)) 44 (c), J, O) H locs → lv_has ls 6 [(5, .int (nI d)), (4, .int (nI 0)), (3, .int set), (0, .ref (G.2.2.1 (20, 0, 0))), (1, .int (nI mm)), (2, .int (nI xx))] → W pg_ l_ ev_ ({ frames := 5, cells := 0, slots := 0, locals := 122 }) s_ mi_ ([.ref (G.2.2.1 (20, 0, 0)), .int (nI mm), .int (nI xx)]).toArray below meth cd_ H locs 0 0 (jQi G A below [.ref (G.2.2.1 (20, 0, 0)), .int (nI mm), .int (nI xx)] s_ (fun r u => r = briA (I 41) nd nm (nI mm) (nI xx) ∧ SMs (I, J, O) u)) (F0 mi_ 52 ls []) := by
            intro fu
            induction fu with
            | zero => intro a b c set d hf; exact absurd hf (Nat.not_lt_zero _)
            | succ fu ih_52 =>
              intro a b c set d hf_52 ha0 ha2 hd hs H locs ls hB hl
              refine lv_iload hx hb dX8_bridges_52 (lv_at hl 0 rfl) ?_
              refine lv_aload_n hx hb dX8_bridges_54 rfl (lv_at hl 3 rfl) ?_
              refine j_get (20, 0, 0) 0 (v := .ref (G.2.2.1 (21, 41, 0))) hC hB in_X8 lk_7 dX8_bridges_55 jk20 rfl rfl (by decide) rfl ?_
              refine lv_iconst (v := nI 0) hx hb dX8_bridges_58 (by decide) ?_
              refine j_ild 41 0 hC hB dX8_bridges_59 (by decide) rfl (by simp only [lenI_41]; omega) ?_
              refine j_eqi (x := (sr (sr (sr I 40 (a)) 43 (b)) 44 (c)) 41 0) (y := nI nd) ((congrFun (sr_ne (show (41 : Nat) ≠ 44 by omega)) _).trans ((congrFun (sr_ne (show (41 : Nat) ≠ 43 by omega)) _).trans ((congrFun (sr_ne (show (41 : Nat) ≠ 40 by omega)) _).trans (hD)))) ?_
              refine jn_icmp_ge (tgt := 98) hx hb dX8_bridges_60 (by decide) (by omega) (by omega) (fun c_60 => ?_) (fun c_60 => ?_)
              · refine lv_iload_n hx hb dX8_bridges_98 rfl (lv_at hl 2 rfl) ?_
                exact j_iret hC hB dX8_bridges_99 (⟨by rw [hs.1]; simp [briA, nIq (show cc < 2147483648 by omega) (show xx < 2147483648 by omega), tN, ceF, nIc (show mm < 2147483648 by omega), nIc (show cc < 2147483648 by omega), ecc, nIc (show xx < 2147483648 by omega), c_5, c_12, c_29, c_39], ⟨SM.sr (SM.sr (SM_40 (SM.rf) (ha0) (ha2)) scr43) scr44, SMJ.rf, rfl⟩⟩)
              · refine lv_iload hx hb dX8_bridges_63 (lv_at hl 1 rfl) ?_
                refine jn_if_eq (tgt := 98) hx hb dX8_bridges_65 (by decide) (by omega) (fun c_65 => ?_) (fun c_65 => ?_)
                · refine lv_iload_n hx hb dX8_bridges_98 rfl (lv_at hl 2 rfl) ?_
                  exact j_iret hC hB dX8_bridges_99 (⟨by rw [hs.1]; simp [briA, nIq (show cc < 2147483648 by omega) (show xx < 2147483648 by omega), tN, ceF, nIc (show mm < 2147483648 by omega), nIc (show cc < 2147483648 by omega), ecc, nIc (show xx < 2147483648 by omega), c_5, c_12, c_29, c_39], ⟨SM.sr (SM.sr (SM_40 (SM.rf) (ha0) (ha2)) scr43) scr44, SMJ.rf, rfl⟩⟩)
                · exact absurd rfl c_65
          exact lp_52 _ (upd (I 40) 1 (nI 0)) ((lsF (I 41) (I 43) (I 44) mm (nI 0) cc nd).1) ((lsF (I 41) (I 43) (I 44) mm (nI 0) cc nd).2) (nI 0) 0 (Nat.lt_succ_self _) (rfl) (rfl) (by omega) (⟨rfl, rfl⟩) _ _ _ (jB_cast2 hB (by first | rfl | exact (sr_id _ _).symm | exact (srJ_id _ _).symm | (funext a; simp +decide only [sr, srJ]; (repeat' split) <;> first | rfl | (exfalso; omega) | (subst_vars; rfl))) (by first | rfl | exact (sr_id _ _).symm | exact (srJ_id _ _).symm | (funext a; simp +decide only [sr, srJ]; (repeat' split) <;> first | rfl | (exfalso; omega) | (subst_vars; rfl)))) (lv_sub hl [0, 1, 2, 3, 4, 5] rfl)
        · refine lv_iconst (v := nI 1) hx hb dX8_bridges_42 (by decide) ?_
          refine lv_goto (tgt := 47) hx hb dX8_bridges_43 (by decide) ?_
          refine lv_istore (lv' := [(4, .int (nI 1)), (3, .int (nI 0)), (0, .ref (G.2.2.1 (20, 0, 0))), (1, .int (nI mm)), (2, .int (nI xx))]) hx hb dX8_bridges_47 hl (by decide) rfl (fun ls hl => ?_)
          refine lv_iconst (v := nI 0) hx hb dX8_bridges_49 (by decide) ?_
          refine lv_istore (lv' := [(5, .int (nI 0)), (4, .int (nI 1)), (3, .int (nI 0)), (0, .ref (G.2.2.1 (20, 0, 0))), (1, .int (nI mm)), (2, .int (nI xx))]) hx hb dX8_bridges_50 hl (by decide) rfl (fun ls hl => ?_)
          have lp_52 : ∀ (fu : Nat) (a : Nat → Int32) (b : Nat → Int32) (c : Nat → Int32) (set : Int32) (d : Nat), nd - d < fu → (a 0 = I 40 0) → (a 2 = I 40 2) → (d ≤ nd) → (set = it (briS (I 41) mm cc nd xx) d (nI 0)) → ∀ H locs ls, jB G A s_.heap (sr (sr (sr I 40 (a)) 43 (b)) 44 (c), J, O) H locs → lv_has ls 6 [(5, .int (nI d)), (4, .int (nI 1)), (3, .int set), (0, .ref (G.2.2.1 (20, 0, 0))), (1, .int (nI mm)), (2, .int (nI xx))] → W pg_ l_ ev_ ({ frames := 5, cells := 0, slots := 0, locals := 122 }) s_ mi_ ([.ref (G.2.2.1 (20, 0, 0)), .int (nI mm), .int (nI xx)]).toArray below meth cd_ H locs 0 0 (jQi G A below [.ref (G.2.2.1 (20, 0, 0)), .int (nI mm), .int (nI xx)] s_ (fun r u => r = briA (I 41) nd nm (nI mm) (nI xx) ∧ SMs (I, J, O) u)) (F0 mi_ 52 ls []) := by
            intro fu
            induction fu with
            | zero => intro a b c set d hf; exact absurd hf (Nat.not_lt_zero _)
            | succ fu ih_52 =>
              intro a b c set d hf_52 ha0 ha2 hd hs H locs ls hB hl
              refine lv_iload hx hb dX8_bridges_52 (lv_at hl 0 rfl) ?_
              refine lv_aload_n hx hb dX8_bridges_54 rfl (lv_at hl 3 rfl) ?_
              refine j_get (20, 0, 0) 0 (v := .ref (G.2.2.1 (21, 41, 0))) hC hB in_X8 lk_7 dX8_bridges_55 jk20 rfl rfl (by decide) rfl ?_
              refine lv_iconst (v := nI 0) hx hb dX8_bridges_58 (by decide) ?_
              refine j_ild 41 0 hC hB dX8_bridges_59 (by decide) rfl (by simp only [lenI_41]; omega) ?_
              refine j_eqi (x := (sr (sr (sr I 40 (a)) 43 (b)) 44 (c)) 41 0) (y := nI nd) ((congrFun (sr_ne (show (41 : Nat) ≠ 44 by omega)) _).trans ((congrFun (sr_ne (show (41 : Nat) ≠ 43 by omega)) _).trans ((congrFun (sr_ne (show (41 : Nat) ≠ 40 by omega)) _).trans (hD)))) ?_
              refine jn_icmp_ge (tgt := 98) hx hb dX8_bridges_60 (by decide) (by omega) (by omega) (fun c_60 => ?_) (fun c_60 => ?_)
              · refine lv_iload_n hx hb dX8_bridges_98 rfl (lv_at hl 2 rfl) ?_
                exact j_iret hC hB dX8_bridges_99 (⟨by rw [hs, show d = nd by omega]; simp [briA, nIq (show cc < 2147483648 by omega) (show xx < 2147483648 by omega), tN, ceF, nIc (show mm < 2147483648 by omega), nIc (show cc < 2147483648 by omega), ecc, nIc (show xx < 2147483648 by omega), c_5, c_12, c_29, c_39], ⟨SM.sr (SM.sr (SM_40 (SM.rf) (ha0) (ha2)) scr43) scr44, SMJ.rf, rfl⟩⟩)
              · refine lv_iload hx hb dX8_bridges_63 (lv_at hl 1 rfl) ?_
                refine jn_if_eq (tgt := 98) hx hb dX8_bridges_65 (by decide) (by omega) (fun c_65 => ?_) (fun c_65 => ?_)
                · exact absurd c_65 (by decide)
                · refine lv_iload_n hx hb dX8_bridges_68 rfl (lv_at hl 2 rfl) ?_
                  refine lv_aload_n hx hb dX8_bridges_69 rfl (lv_at hl 3 rfl) ?_
                  refine lv_iload_n hx hb dX8_bridges_70 rfl (lv_at hl 4 rfl) ?_
                  refine lv_iload_n hx hb dX8_bridges_71 rfl (lv_at hl 5 rfl) ?_
                  refine lv_iconst (v := nI 1) hx hb dX8_bridges_72 (by decide) ?_
                  refine lv_iload hx hb dX8_bridges_73 (lv_at hl 0 rfl) ?_
                  refine lv_ishl hx hb dX8_bridges_75 ?_
                  refine j_cvi (20, 0, 0) [.int (nI mm), .int (nI xx), .int ((nI 1) <<< ((nI d) &&& 31))] hC hB hl.1 (c_X8_reachesBut l_ G (sr (sr (sr I 40 (a)) 43 (b)) 44 (c)) J O mm xx ((nI 1) <<< ((nI d) &&& 31)) (by omega) (by omega) (by omega) ((congrFun (sr_ne (show (41 : Nat) ≠ 44 by omega)) _).trans ((congrFun (sr_ne (show (41 : Nat) ≠ 43 by omega)) _).trans ((congrFun (sr_ne (show (41 : Nat) ≠ 40 by omega)) _).trans (ecc)))) (by omega) ((congrFun (sr_ne (show (41 : Nat) ≠ 44 by omega)) _).trans ((congrFun (sr_ne (show (41 : Nat) ≠ 43 by omega)) _).trans ((congrFun (sr_ne (show (41 : Nat) ≠ 40 by omega)) _).trans (hD)))) (hW)) (cwV 3 hts gX8_bridges_X8_reachesBut rfl rfl rfl (by decide +kernel) ⟨by decide, by decide⟩) dX8_bridges_76 jk20 rfl rfl rfl rfl (Nat.le_of_ble_eq_true rfl) (fun r_76 u_76 H locs hp_76 hB => ?_)
                  obtain ⟨rfl, rfl⟩ := hp_76
                  have hB : jB G A s_.heap (sr (sr (sr I 40 (upd (a) 1 ((nI 1) <<< ((nI d) &&& 31)))) 43 ((lsF (I 41) (b) (c) mm ((nI 1) <<< ((nI d) &&& 31)) cc nd).1)) 44 ((lsF (I 41) (b) (c) mm ((nI 1) <<< ((nI d) &&& 31)) cc nd).2), J, O) H locs := by rw [show sr (sr (sr I 40 (upd (a) 1 ((nI 1) <<< ((nI d) &&& 31)))) 43 ((lsF (I 41) (b) (c) mm ((nI 1) <<< ((nI d) &&& 31)) cc nd).1)) 44 ((lsF (I 41) (b) (c) mm ((nI 1) <<< ((nI d) &&& 31)) cc nd).2) = sr (sr (sr (sr (sr (sr I 40 (a)) 43 (b)) 44 (c)) 40 (upd (a) 1 ((nI 1) <<< ((nI d) &&& 31)))) 43 ((lsF (I 41) (b) (c) mm ((nI 1) <<< ((nI d) &&& 31)) cc nd).1)) 44 ((lsF (I 41) (b) (c) mm ((nI 1) <<< ((nI d) &&& 31)) cc nd).2) from by funext a; simp +decide only [sr]; (repeat' split) <;> first | rfl | (exfalso; omega) | (subst_vars; rfl)]; exact hB
                  refine j_eqi (y := b2 (rbB (I 41) mm ((nI 1) <<< ((nI d) &&& 31)) cc nd xx)) rfl ?_
                  refine jb_if_eq (tgt := 86) hx hb dX8_bridges_79 (by decide) (fun c_79 => ?_) (fun c_79 => ?_)
                  · refine lv_iconst (v := nI 1) hx hb dX8_bridges_86 (by decide) ?_
                    refine lv_iload hx hb dX8_bridges_87 (lv_at hl 0 rfl) ?_
                    refine lv_ishl hx hb dX8_bridges_89 ?_
                    refine lv_ior hx hb dX8_bridges_90 ?_
                    refine lv_istore_n (lv' := [(3, .int (set ||| ((nI 1) <<< ((nI d) &&& 31)))), (5, .int (nI d)), (4, .int (nI 1)), (0, .ref (G.2.2.1 (20, 0, 0))), (1, .int (nI mm)), (2, .int (nI xx))]) hx hb dX8_bridges_91 rfl hl (by decide) rfl (fun ls hl => ?_)
                    refine lv_iinc (v := nI (d + 1)) (lv' := [(5, .int (nI (d + 1))), (3, .int (set ||| ((nI 1) <<< ((nI d) &&& 31)))), (4, .int (nI 1)), (0, .ref (G.2.2.1 (20, 0, 0))), (1, .int (nI mm)), (2, .int (nI xx))]) hx hb dX8_bridges_92 hl (k := 1) rfl (jn_inc _ 1) (by decide) rfl (fun ls hl => ?_)
                    refine lv_goto (tgt := 52) hx hb dX8_bridges_95 (by decide) ?_
                    exact ih_52 (upd (a) 1 ((nI 1) <<< ((nI d) &&& 31))) ((lsF (I 41) (b) (c) mm ((nI 1) <<< ((nI d) &&& 31)) cc nd).1) ((lsF (I 41) (b) (c) mm ((nI 1) <<< ((nI d) &&& 31)) cc nd).2) (set ||| ((nI 1) <<< ((nI d) &&& 31))) (d + 1) (by omega) ((pk_un (by decide)).trans ha0) ((pk_un (by decide)).trans ha2) (by omega) (by show _ = briS _ _ _ _ _ _ (it _ _ _); rw [← hs]; simp [briS, bitI, c_79]) _ _ _ (jB_cast2 hB (by first | rfl | exact (sr_id _ _).symm | exact (srJ_id _ _).symm | (funext a; simp +decide only [sr, srJ]; (repeat' split) <;> first | rfl | (exfalso; omega) | (subst_vars; rfl))) (by first | rfl | exact (sr_id _ _).symm | exact (srJ_id _ _).symm | (funext a; simp +decide only [sr, srJ]; (repeat' split) <;> first | rfl | (exfalso; omega) | (subst_vars; rfl)))) (lv_sub hl [0, 2, 1, 3, 4, 5] rfl)
                  · refine lv_iconst (v := nI 0) hx hb dX8_bridges_82 (by decide) ?_
                    refine lv_goto (tgt := 90) hx hb dX8_bridges_83 (by decide) ?_
                    refine lv_ior hx hb dX8_bridges_90 ?_
                    refine lv_istore_n (lv' := [(3, .int (set ||| (nI 0))), (5, .int (nI d)), (4, .int (nI 1)), (0, .ref (G.2.2.1 (20, 0, 0))), (1, .int (nI mm)), (2, .int (nI xx))]) hx hb dX8_bridges_91 rfl hl (by decide) rfl (fun ls hl => ?_)
                    refine lv_iinc (v := nI (d + 1)) (lv' := [(5, .int (nI (d + 1))), (3, .int (set ||| (nI 0))), (4, .int (nI 1)), (0, .ref (G.2.2.1 (20, 0, 0))), (1, .int (nI mm)), (2, .int (nI xx))]) hx hb dX8_bridges_92 hl (k := 1) rfl (jn_inc _ 1) (by decide) rfl (fun ls hl => ?_)
                    refine lv_goto (tgt := 52) hx hb dX8_bridges_95 (by decide) ?_
                    exact ih_52 (upd (a) 1 ((nI 1) <<< ((nI d) &&& 31))) ((lsF (I 41) (b) (c) mm ((nI 1) <<< ((nI d) &&& 31)) cc nd).1) ((lsF (I 41) (b) (c) mm ((nI 1) <<< ((nI d) &&& 31)) cc nd).2) (set ||| (nI 0)) (d + 1) (by omega) ((pk_un (by decide)).trans ha0) ((pk_un (by decide)).trans ha2) (by omega) (by show _ = briS _ _ _ _ _ _ (it _ _ _); rw [← hs]; simp [briS, bitI, c_79]) _ _ _ (jB_cast2 hB (by first | rfl | exact (sr_id _ _).symm | exact (srJ_id _ _).symm | (funext a; simp +decide only [sr, srJ]; (repeat' split) <;> first | rfl | (exfalso; omega) | (subst_vars; rfl))) (by first | rfl | exact (sr_id _ _).symm | exact (srJ_id _ _).symm | (funext a; simp +decide only [sr, srJ]; (repeat' split) <;> first | rfl | (exfalso; omega) | (subst_vars; rfl)))) (lv_sub hl [0, 2, 1, 3, 4, 5] rfl)
          exact lp_52 _ (upd (I 40) 1 (nI 0)) ((lsF (I 41) (I 43) (I 44) mm (nI 0) cc nd).1) ((lsF (I 41) (I 43) (I 44) mm (nI 0) cc nd).2) (nI 0) 0 (Nat.lt_succ_self _) (rfl) (rfl) (by omega) (rfl) _ _ _ (jB_cast2 hB (by first | rfl | exact (sr_id _ _).symm | exact (srJ_id _ _).symm | (funext a; simp +decide only [sr, srJ]; (repeat' split) <;> first | rfl | (exfalso; omega) | (subst_vars; rfl))) (by first | rfl | exact (sr_id _ _).symm | exact (srJ_id _ _).symm | (funext a; simp +decide only [sr, srJ]; (repeat' split) <;> first | rfl | (exfalso; omega) | (subst_vars; rfl)))) (lv_sub hl [0, 1, 2, 3, 4, 5] rfl)
    · refine lv_iconst (v := (-1 : Int32)) hx hb dX8_bridges_15 (by decide) ?_
      exact j_iret hC hB dX8_bridges_16 (⟨by simp [briA, c_5, c_12], ⟨SM.rf, SMJ.rf, rfl⟩⟩)
