set_option maxHeartbeats 4000000 in
set_option maxRecDepth 100000 in
theorem c_X1_isOpen (l_ : Launch) (G : jG) (I : Nat → Nat → Int32) (J : Nat → Nat → Int64) (O : Nat → Nat → Nat) (c d : Nat) (sh : Int32) (hc : c < 8) : jMi l_ G yX1_isOpen wsX1_isOpen ({ frames := 0, cells := 0, slots := 0, locals := 0 }) [.ref (G.2.2.1 (11, 0, 0)), .int (nI c), .int (nI d), .int sh] (I, J, O) (fun r u => r = b2 (ioB (I 27) c d sh) ∧ u = (I, J, O)) := by
  refine jMi_of (cc := cX1_isOpen) (maxL := 4) (ret := (some .boolean)) (lv0 := [(0, .ref (G.2.2.1 (11, 0, 0))), (1, .int (nI c)), (2, .int (nI d)), (3, .int sh)]) (by decide) rfl (Nat.le_of_ble_eq_true rfl) rfl ?_
  intro pg_ ev_ s_ mi_ below meth cd_ A ls hC hB hl
  obtain ⟨hx, hb, hr, hml, hown, hts, hlocks, hK, hA⟩ := id hC
  have lk_18 := hts (.fieldLink RX1 18 "RiddlePrison$Foresight" "open" "[I") (by decide +kernel)
  have in_X1 := (fun w h => List.mem_cons_of_mem _ (List.mem_append_right _ h) : ∀ w ∈ wsX10, w ∈ wsX1_isOpen)
  refine lv_aload_n hx hb dX1_isOpen_0 rfl (lv_at hl 0 rfl) ?_
  refine j_get (11, 0, 0) 3 (v := .ref (G.2.2.1 (21, 27, 0))) hC hB in_X1 lk_18 dX1_isOpen_1 jk11 rfl rfl (by decide) rfl ?_
  refine lv_iload_n hx hb dX1_isOpen_4 rfl (lv_at hl 1 rfl) ?_
  refine j_ild 27 c hC hB dX1_isOpen_5 (by decide) rfl (by simp only [lenI_27]; omega) ?_
  refine j_eqi (y := (I 27) c) rfl ?_
  refine lv_iload_n hx hb dX1_isOpen_6 rfl (lv_at hl 3 rfl) ?_
  refine lv_iconst (v := (-1 : Int32)) hx hb dX1_isOpen_7 (by decide) ?_
  refine lv_ixor hx hb dX1_isOpen_8 ?_
  refine lv_iand hx hb dX1_isOpen_9 ?_
  refine lv_iload_n hx hb dX1_isOpen_10 rfl (lv_at hl 2 rfl) ?_
  refine lv_ishr hx hb dX1_isOpen_11 ?_
  refine lv_iconst (v := nI 1) hx hb dX1_isOpen_12 (by decide) ?_
  refine lv_iand hx hb dX1_isOpen_13 ?_
  refine lv_iconst (v := nI 1) hx hb dX1_isOpen_14 (by decide) ?_
  refine lv_icmp_ne (tgt := 22) hx hb dX1_isOpen_15 (by decide) (fun c_15 => ?_) (fun c_15 => ?_)
  · refine lv_iconst (v := nI 0) hx hb dX1_isOpen_22 (by decide) ?_
    exact j_zret hC hB dX1_isOpen_23 (by decide) (⟨by rw [ioB, decide_eq_false c_15]; rfl, rfl⟩)
  · refine lv_iconst (v := nI 1) hx hb dX1_isOpen_18 (by decide) ?_
    refine lv_goto (tgt := 23) hx hb dX1_isOpen_19 (by decide) ?_
    exact j_zret hC hB dX1_isOpen_23 (by decide) (⟨by rw [ioB, decide_eq_true c_15]; rfl, rfl⟩)

set_option maxHeartbeats 4000000 in
set_option maxRecDepth 100000 in
theorem c_X1_beyond (l_ : Launch) (G : jG) (I : Nat → Nat → Int32) (J : Nat → Nat → Int64) (O : Nat → Nat → Nat) (c d : Nat) (hd10 : d < 10) : jMi l_ G yX1_beyond wsX1_beyond ({ frames := 1, cells := 0, slots := 0, locals := 21 }) [.ref (G.2.2.1 (11, 0, 0)), .int (nI c), .int (nI d)] (I, J, O) (fun r u => r = beF (I 0) d (nI c) ∧ u = (I, J, O)) := by
  refine jMi_of (cc := cX1_beyond) (maxL := 3) (ret := (some .int)) (lv0 := [(0, .ref (G.2.2.1 (11, 0, 0))), (1, .int (nI c)), (2, .int (nI d))]) (by decide) rfl (Nat.le_of_ble_eq_true rfl) rfl ?_
  intro pg_ ev_ s_ mi_ below meth cd_ A ls hC hB hl
  obtain ⟨hx, hb, hr, hml, hown, hts, hlocks, hK, hA⟩ := id hC
  have lk_44 := hts (.fieldLink RX1 44 "RiddlePrison$Foresight" "prison" "LRiddlePrison$Prison;") (by decide +kernel)
  have ln_79 := (by decide +kernel : Cond.fieldLinkNest RX1 79 "RiddlePrison$Prison" "doors" "[LRiddlePrison$Door;" "RiddlePrison" ∈ nsW)
  have in_X1 := (fun w h => List.mem_cons_of_mem _ (List.mem_append_left _ (List.mem_append_left _ (List.mem_append_right _ h))) : ∀ w ∈ wsX10, w ∈ wsX1_beyond)
  have in_X4 := (fun w h => List.mem_cons_of_mem _ (List.mem_append_left _ (List.mem_append_right _ h)) : ∀ w ∈ wsX40, w ∈ wsX1_beyond)
  refine lv_aload_n hx hb dX1_beyond_0 rfl (lv_at hl 0 rfl) ?_
  refine j_get (11, 0, 0) 0 (v := .ref (G.2.2.1 (1, 0, 0))) hC hB in_X1 lk_44 dX1_beyond_1 jk11 rfl rfl (by decide) rfl ?_
  refine j_getN (1, 0, 0) 0 (v := .ref (G.2.2.1 (2, 0, 0))) hC hB in_X4 ln_79 dX1_beyond_4 (jk1 (by omega)) rfl rfl (by decide) rfl ?_
  refine lv_iload_n hx hb dX1_beyond_7 rfl (lv_at hl 2 rfl) ?_
  refine j_ald (2, 0, 0) (4, 0, d) 3 d hC hB dX1_beyond_8 (jk2 (by omega)) rfl rfl rfl (by omega) (by decide) rfl ?_
  refine lv_iload_n hx hb dX1_beyond_9 rfl (lv_at hl 1 rfl) ?_
  refine j_cvi (4, 0, d) [.int (nI c)] hC hB hl.1 (c_X0_beyond l_ G I J O 0 d (nI c) ((jk4 (by omega) (by omega)))) (cwV 1 hts gX1_beyond_X0_beyond rfl rfl rfl (by decide +kernel) ⟨by decide, by decide⟩) dX1_beyond_10 (jk4 (by omega) (by omega)) rfl rfl rfl rfl (Nat.le_of_ble_eq_true rfl) (fun r_10 u_10 H locs hp_10 hB => ?_)
  obtain ⟨rfl, rfl⟩ := hp_10
  exact j_iret hC hB dX1_beyond_13 (⟨rfl, rfl⟩)

set_option maxHeartbeats 4000000 in
set_option maxRecDepth 100000 in
theorem c_X1_spread (l_ : Launch) (G : jG) (I : Nat → Nat → Int32) (J : Nat → Nat → Int64) (O : Nat → Nat → Nat) (fr : Nat) (sh : Int32) (hfr : fr < 8) {nd : Nat} (hnd : nd ≤ 10) (hD : I 0 0 = nI nd) (hW : wfD (I 0) nd) : jMv l_ G yX1_spread wsX1_spread ({ frames := 2, cells := 0, slots := 0, locals := 43 }) [.ref (G.2.2.1 (11, 0, 0)), .int (nI fr), .int sh] (I, J, O) (fun u => u = (sr (sr (sr I 28 ((spF (I 0) (I 27) (I 28) (I 29) (I 31) sh fr nd).1)) 29 ((spF (I 0) (I 27) (I 28) (I 29) (I 31) sh fr nd).2.1)) 31 ((spF (I 0) (I 27) (I 28) (I 29) (I 31) sh fr nd).2.2.1), J, O)) := by
  refine jMv_of (cc := cX1_spread) (maxL := 8) (ret := none) (lv0 := [(0, .ref (G.2.2.1 (11, 0, 0))), (1, .int (nI fr)), (2, .int sh)]) (by decide) rfl (Nat.le_of_ble_eq_true rfl) rfl ?_
  intro pg_ ev_ s_ mi_ below meth cd_ A ls hC hB hl
  obtain ⟨hx, hb, hr, hml, hown, hts, hlocks, hK, hA⟩ := id hC
  have lk_22 := hts (.fieldLink RX1 22 "RiddlePrison$Foresight" "far" "[I") (by decide +kernel)
  have lk_25 := hts (.fieldLink RX1 25 "RiddlePrison$Foresight" "rows" "[I") (by decide +kernel)
  have lk_31 := hts (.fieldLink RX1 31 "RiddlePrison$Foresight" "queue" "[I") (by decide +kernel)
  have lk_44 := hts (.fieldLink RX1 44 "RiddlePrison$Foresight" "prison" "LRiddlePrison$Prison;") (by decide +kernel)
  have ln_95 := (by decide +kernel : Cond.fieldLinkNest RX1 95 "RiddlePrison$Prison" "doorCount" "I" "RiddlePrison" ∈ nsW)
  have in_X1 := (fun w h => List.mem_cons_of_mem _ (List.mem_append_left _ (List.mem_append_left _ (List.mem_append_right _ h))) : ∀ w ∈ wsX10, w ∈ wsX1_spread)
  have in_X4 := (fun w h => List.mem_cons_of_mem _ (List.mem_append_left _ (List.mem_append_right _ h)) : ∀ w ∈ wsX40, w ∈ wsX1_spread)
  refine lv_aload_n hx hb dX1_spread_0 rfl (lv_at hl 0 rfl) ?_
  refine j_get (11, 0, 0) 4 (v := .ref (G.2.2.1 (21, 28, 0))) hC hB in_X1 lk_22 dX1_spread_1 jk11 rfl rfl (by decide) rfl ?_
  refine lv_bipush (v := (-4 : Int32)) hx hb dX1_spread_4 (by decide) ?_
  refine j_csv [.ref (G.2.2.1 (21, 28, 0)), .int ((-4 : Int32))] hC hB hl.1 (c_J7_fill_53178 l_ G I J O 28 ((-4 : Int32)) (by omega)) (va_cwS 2 hts gX1_spread_J7_fill_53178 rfl rfl rfl (by decide +kernel) ⟨by decide, by decide⟩) dX1_spread_6 rfl rfl (Nat.le_of_ble_eq_true rfl) (fun u_6 H locs hp_6 hB => ?_)
  obtain rfl := hp_6
  have hB : jB G A s_.heap (sr I 28 (filI (I 28) ((-4 : Int32)) (lenI 28)), J, O) H locs := hB
  refine lv_aload_n hx hb dX1_spread_9 rfl (lv_at hl 0 rfl) ?_
  refine j_get (11, 0, 0) 5 (v := .ref (G.2.2.1 (21, 29, 0))) hC hB in_X1 lk_25 dX1_spread_10 jk11 rfl rfl (by decide) rfl ?_
  refine lv_iconst (v := nI 0) hx hb dX1_spread_13 (by decide) ?_
  refine j_csv [.ref (G.2.2.1 (21, 29, 0)), .int (nI 0)] hC hB hl.1 (c_J7_fill_53178 l_ G (sr I 28 (filI (I 28) ((-4 : Int32)) (lenI 28))) J O 29 (nI 0) (by omega)) (va_cwS 2 hts gX1_spread_J7_fill_53178 rfl rfl rfl (by decide +kernel) ⟨by decide, by decide⟩) dX1_spread_14 rfl rfl (Nat.le_of_ble_eq_true rfl) (fun u_14 H locs hp_14 hB => ?_)
  obtain rfl := hp_14
  have hB : jB G A s_.heap (sr (sr I 28 (filI (I 28) ((-4 : Int32)) (lenI 28))) 29 (filI (I 29) (nI 0) (lenI 29)), J, O) H locs := hB
  refine lv_aload_n hx hb dX1_spread_17 rfl (lv_at hl 0 rfl) ?_
  refine j_get (11, 0, 0) 4 (v := .ref (G.2.2.1 (21, 28, 0))) hC hB in_X1 lk_22 dX1_spread_18 jk11 rfl rfl (by decide) rfl ?_
  refine lv_iload_n hx hb dX1_spread_21 rfl (lv_at hl 1 rfl) ?_
  refine lv_iconst (v := nI 0) hx hb dX1_spread_22 (by decide) ?_
  refine j_ist 28 fr hC hB dX1_spread_23 (by decide) rfl (by simp only [lenI_28]; omega) (fun H locs hB => ?_)
  have hB : jB G A s_.heap (sr (sr I 29 (filI (I 29) (nI 0) (lenI 29))) 28 (upd (filI (I 28) ((-4 : Int32)) (lenI 28)) fr (nI 0)), J, O) H locs := by rw [show sr (sr I 29 (filI (I 29) (nI 0) (lenI 29))) 28 (upd (filI (I 28) ((-4 : Int32)) (lenI 28)) fr (nI 0)) = u2 (sr (sr I 28 (filI (I 28) ((-4 : Int32)) (lenI 28))) 29 (filI (I 29) (nI 0) (lenI 29))) 28 fr (nI 0) from (u2_sr2 (show (28 : Nat) ≠ 29 by omega)).symm]; exact hB
  refine lv_aload_n hx hb dX1_spread_24 rfl (lv_at hl 0 rfl) ?_
  refine j_get (11, 0, 0) 5 (v := .ref (G.2.2.1 (21, 29, 0))) hC hB in_X1 lk_25 dX1_spread_25 jk11 rfl rfl (by decide) rfl ?_
  refine lv_iload_n hx hb dX1_spread_28 rfl (lv_at hl 1 rfl) ?_
  refine lv_iconst (v := nI 1) hx hb dX1_spread_29 (by decide) ?_
  refine j_ist 29 fr hC hB dX1_spread_30 (by decide) rfl (by simp only [lenI_29]; omega) (fun H locs hB => ?_)
  have hB : jB G A s_.heap (sr (sr I 28 (upd (filI (I 28) ((-4 : Int32)) (lenI 28)) fr (nI 0))) 29 (upd (filI (I 29) (nI 0) (lenI 29)) fr (nI 1)), J, O) H locs := by rw [show sr (sr I 28 (upd (filI (I 28) ((-4 : Int32)) (lenI 28)) fr (nI 0))) 29 (upd (filI (I 29) (nI 0) (lenI 29)) fr (nI 1)) = u2 (sr (sr I 29 (filI (I 29) (nI 0) (lenI 29))) 28 (upd (filI (I 28) ((-4 : Int32)) (lenI 28)) fr (nI 0))) 29 fr (nI 1) from (u2_sr2 (show (29 : Nat) ≠ 28 by omega)).symm]; exact hB
  refine lv_aload_n hx hb dX1_spread_31 rfl (lv_at hl 0 rfl) ?_
  refine j_get (11, 0, 0) 7 (v := .ref (G.2.2.1 (21, 31, 0))) hC hB in_X1 lk_31 dX1_spread_32 jk11 rfl rfl (by decide) rfl ?_
  refine lv_iconst (v := nI 0) hx hb dX1_spread_35 (by decide) ?_
  refine lv_iload_n hx hb dX1_spread_36 rfl (lv_at hl 1 rfl) ?_
  refine j_ist 31 0 hC hB dX1_spread_37 (by decide) rfl (by simp only [lenI_31]; omega) (fun H locs hB => ?_)
  have hB : jB G A s_.heap (sr (sr (sr I 28 (upd (filI (I 28) ((-4 : Int32)) (lenI 28)) fr (nI 0))) 29 (upd (filI (I 29) (nI 0) (lenI 29)) fr (nI 1))) 31 (upd (I 31) 0 (nI fr)), J, O) H locs := by rw [show sr (sr (sr I 28 (upd (filI (I 28) ((-4 : Int32)) (lenI 28)) fr (nI 0))) 29 (upd (filI (I 29) (nI 0) (lenI 29)) fr (nI 1))) 31 (upd (I 31) 0 (nI fr)) = u2 (sr (sr I 28 (upd (filI (I 28) ((-4 : Int32)) (lenI 28)) fr (nI 0))) 29 (upd (filI (I 29) (nI 0) (lenI 29)) fr (nI 1))) 31 0 (nI fr) from by rw [u2_eq, show (sr (sr I 28 (upd (filI (I 28) ((-4 : Int32)) (lenI 28)) fr (nI 0))) 29 (upd (filI (I 29) (nI 0) (lenI 29)) fr (nI 1))) 31 = I 31 from (sr_ne (show (31 : Nat) ≠ 29 by omega)).trans ((sr_ne (show (31 : Nat) ≠ 28 by omega)))]]; exact hB
  refine lv_iconst (v := nI 1) hx hb dX1_spread_38 (by decide) ?_
  refine lv_istore_n (lv' := [(3, .int (nI 1)), (0, .ref (G.2.2.1 (11, 0, 0))), (1, .int (nI fr)), (2, .int sh)]) hx hb dX1_spread_39 rfl hl (by decide) rfl (fun ls hl => ?_)
  refine lv_iconst (v := nI 0) hx hb dX1_spread_40 (by decide) ?_
  refine lv_istore (lv' := [(4, .int (nI 0)), (3, .int (nI 1)), (0, .ref (G.2.2.1 (11, 0, 0))), (1, .int (nI fr)), (2, .int sh)]) hx hb dX1_spread_41 hl (by decide) rfl (fun ls hl => ?_)
  have lp_43 : ∀ (fu : Nat) (f1 : Nat → Int32) (h1 : Nat → Int32) (q1 : Nat → Int32) (fo1 : Nat) (k : Nat), 8 - k < fu → (k ≤ 8) → (fo1 ≤ 1 + 10 * k) → (∀ j, j < fo1 → ∃ c, c < 8 ∧ q1 j = nI c) → ((f1, h1, q1, fo1) = it (spK (I 0) (I 27) sh nd) k (spI (I 28) (I 29) (I 31) fr)) → ∀ H locs ls, jB G A s_.heap (sr (sr (sr I 28 (f1)) 29 (h1)) 31 (q1), J, O) H locs → lv_has ls 8 [(4, .int (nI k)), (3, .int (nI fo1)), (0, .ref (G.2.2.1 (11, 0, 0))), (1, .int (nI fr)), (2, .int sh)] → W pg_ l_ ev_ ({ frames := 2, cells := 0, slots := 0, locals := 43 }) s_ mi_ ([.ref (G.2.2.1 (11, 0, 0)), .int (nI fr), .int sh]).toArray below meth cd_ H locs 0 0 (jQv G A below [.ref (G.2.2.1 (11, 0, 0)), .int (nI fr), .int sh] s_ (fun u => u = (sr (sr (sr I 28 ((spF (I 0) (I 27) (I 28) (I 29) (I 31) sh fr nd).1)) 29 ((spF (I 0) (I 27) (I 28) (I 29) (I 31) sh fr nd).2.1)) 31 ((spF (I 0) (I 27) (I 28) (I 29) (I 31) sh fr nd).2.2.1), J, O))) (F0 mi_ 43 ls []) := by
    intro fu
    induction fu with
    | zero => intro f1 h1 q1 fo1 k hf; exact absurd hf (Nat.not_lt_zero _)
    | succ fu ih_43 =>
      intro f1 h1 q1 fo1 k hf_43 hk8 hfo hq1 he1 H locs ls hB hl
      refine lv_iload hx hb dX1_spread_43 (lv_at hl 0 rfl) ?_
      refine lv_iload_n hx hb dX1_spread_45 rfl (lv_at hl 1 rfl) ?_
      refine jn_icmp_ge (tgt := 198) hx hb dX1_spread_46 (by decide) (by omega) (by omega) (fun c_46 => ?_) (fun c_46 => ?_)
      · exact j_vret hC hB dX1_spread_198 (by rw [show spF (I 0) (I 27) (I 28) (I 29) (I 31) sh fr nd = (f1, h1, q1, fo1) from by rw [he1]; exact spK_ge (n := 8) (by rw [← he1]; exact c_46) 8 (by omega) (by omega)])
      · refine lv_iload hx hb dX1_spread_49 (lv_at hl 0 rfl) ?_
        refine lv_bipush (v := nI 8) hx hb dX1_spread_51 (by decide) ?_
        refine jn_icmp_ge (tgt := 198) hx hb dX1_spread_53 (by decide) (by omega) (by omega) (fun c_53 => ?_) (fun c_53 => ?_)
        · exact j_vret hC hB dX1_spread_198 (by rw [show spF (I 0) (I 27) (I 28) (I 29) (I 31) sh fr nd = (f1, h1, q1, fo1) from by rw [he1, show k = 8 by omega]; rfl])
        · refine lv_aload_n hx hb dX1_spread_56 rfl (lv_at hl 2 rfl) ?_
          refine j_get (11, 0, 0) 7 (v := .ref (G.2.2.1 (21, 31, 0))) hC hB in_X1 lk_31 dX1_spread_57 jk11 rfl rfl (by decide) rfl ?_
          refine lv_iload hx hb dX1_spread_60 (lv_at hl 0 rfl) ?_
          refine j_ild 31 k hC hB dX1_spread_62 (by decide) rfl (by simp only [lenI_31]; omega) ?_
          refine j_eqi (x := (sr (sr (sr I 28 (f1)) 29 (h1)) 31 (q1)) 31 k) (y := q1 k) ((congrFun sr_self _)) ?_
          obtain ⟨c, hc, ec⟩ := hq1 k (by omega)
          refine j_eqi (y := nI c) ec ?_
          refine lv_istore (lv' := [(5, .int (nI c)), (4, .int (nI k)), (3, .int (nI fo1)), (0, .ref (G.2.2.1 (11, 0, 0))), (1, .int (nI fr)), (2, .int sh)]) hx hb dX1_spread_63 hl (by decide) rfl (fun ls hl => ?_)
          refine lv_iconst (v := nI 0) hx hb dX1_spread_65 (by decide) ?_
          refine lv_istore (lv' := [(6, .int (nI 0)), (5, .int (nI c)), (4, .int (nI k)), (3, .int (nI fo1)), (0, .ref (G.2.2.1 (11, 0, 0))), (1, .int (nI fr)), (2, .int sh)]) hx hb dX1_spread_66 hl (by decide) rfl (fun ls hl => ?_)
          have lp_68 : ∀ (fu : Nat) (f2 : Nat → Int32) (h2 : Nat → Int32) (q2 : Nat → Int32) (fo2 : Nat) (d : Nat), nd - d < fu → (d ≤ nd) → (fo2 ≤ 1 + 10 * k + d) → (∀ j, j < fo2 → ∃ c, c < 8 ∧ q2 j = nI c) → ((f2, h2, q2, fo2) = it (spD (I 0) (I 27) sh c) d (f1, h1, q1, fo1)) → ∀ H locs ls, jB G A s_.heap (sr (sr (sr I 28 (f2)) 29 (h2)) 31 (q2), J, O) H locs → lv_has ls 8 [(6, .int (nI d)), (5, .int (nI c)), (4, .int (nI k)), (3, .int (nI fo2)), (0, .ref (G.2.2.1 (11, 0, 0))), (1, .int (nI fr)), (2, .int sh)] → W pg_ l_ ev_ ({ frames := 2, cells := 0, slots := 0, locals := 43 }) s_ mi_ ([.ref (G.2.2.1 (11, 0, 0)), .int (nI fr), .int sh]).toArray below meth cd_ H locs 0 0 (jQv G A below [.ref (G.2.2.1 (11, 0, 0)), .int (nI fr), .int sh] s_ (fun u => u = (sr (sr (sr I 28 ((spF (I 0) (I 27) (I 28) (I 29) (I 31) sh fr nd).1)) 29 ((spF (I 0) (I 27) (I 28) (I 29) (I 31) sh fr nd).2.1)) 31 ((spF (I 0) (I 27) (I 28) (I 29) (I 31) sh fr nd).2.2.1), J, O))) (F0 mi_ 68 ls []) := by
            intro fu
            induction fu with
            | zero => intro f2 h2 q2 fo2 d hf; exact absurd hf (Nat.not_lt_zero _)
            | succ fu ih_68 =>
              intro f2 h2 q2 fo2 d hf_68 hd hfo2 hq2 he2 H locs ls hB hl
              refine lv_iload hx hb dX1_spread_68 (lv_at hl 0 rfl) ?_
              refine lv_aload_n hx hb dX1_spread_70 rfl (lv_at hl 4 rfl) ?_
              refine j_get (11, 0, 0) 0 (v := .ref (G.2.2.1 (1, 0, 0))) hC hB in_X1 lk_44 dX1_spread_71 jk11 rfl rfl (by decide) rfl ?_
              refine j_getN (1, 0, 0) 2 (v := .int ((sr (sr (sr I 28 (f2)) 29 (h2)) 31 (q2)) 0 0)) hC hB in_X4 ln_95 dX1_spread_74 (jk1 (by omega)) rfl rfl (by decide) rfl ?_
              refine j_eqi (x := (sr (sr (sr I 28 (f2)) 29 (h2)) 31 (q2)) 0 0) (y := nI nd) ((congrFun (sr_ne (show (0 : Nat) ≠ 31 by omega)) _).trans ((congrFun (sr_ne (show (0 : Nat) ≠ 29 by omega)) _).trans ((congrFun (sr_ne (show (0 : Nat) ≠ 28 by omega)) _).trans (hD)))) ?_
              refine jn_icmp_ge (tgt := 192) hx hb dX1_spread_77 (by decide) (by omega) (by omega) (fun c_77 => ?_) (fun c_77 => ?_)
              · refine lv_iinc (v := nI (k + 1)) (lv' := [(4, .int (nI (k + 1))), (6, .int (nI d)), (5, .int (nI c)), (3, .int (nI fo2)), (0, .ref (G.2.2.1 (11, 0, 0))), (1, .int (nI fr)), (2, .int sh)]) hx hb dX1_spread_192 hl (k := 2) rfl (jn_inc _ 1) (by decide) rfl (fun ls hl => ?_)
                refine lv_goto (tgt := 43) hx hb dX1_spread_195 (by decide) ?_
                exact ih_43 f2 h2 q2 fo2 (k + 1) (by omega) (by omega) (by omega) (hq2) (by show _ = spK _ _ _ _ _ (it _ _ _); rw [← he1]; unfold spK; rw [if_pos (show k < fo1 by omega)]; show _ = it (spD (I 0) (I 27) sh (tN (q1 k))) nd _; rw [ec, show tN (nI c) = c from nIc (by omega), he2, show d = nd by omega]) _ _ _ (jB_cast2 hB (by first | rfl | exact (sr_id _ _).symm | exact (srJ_id _ _).symm | (funext a; simp +decide only [sr, srJ]; (repeat' split) <;> first | rfl | (exfalso; omega) | (subst_vars; rfl))) (by first | rfl | exact (sr_id _ _).symm | exact (srJ_id _ _).symm | (funext a; simp +decide only [sr, srJ]; (repeat' split) <;> first | rfl | (exfalso; omega) | (subst_vars; rfl)))) (lv_sub hl [0, 3, 4, 5, 6] rfl)
              · refine lv_aload_n hx hb dX1_spread_80 rfl (lv_at hl 4 rfl) ?_
                refine lv_iload hx hb dX1_spread_81 (lv_at hl 1 rfl) ?_
                refine lv_iload hx hb dX1_spread_83 (lv_at hl 0 rfl) ?_
                refine lv_iload_n hx hb dX1_spread_85 rfl (lv_at hl 6 rfl) ?_
                refine j_cvi (11, 0, 0) [.int (nI c), .int (nI d), .int sh] hC hB hl.1 (c_X1_isOpen l_ G (sr (sr (sr I 28 (f2)) 29 (h2)) 31 (q2)) J O c d sh (by omega)) (cwV 3 hts gX1_spread_X1_isOpen rfl rfl rfl (by decide +kernel) ⟨by decide, by decide⟩) dX1_spread_86 jk11 rfl rfl rfl rfl (Nat.le_of_ble_eq_true rfl) (fun r_86 u_86 H locs hp_86 hB => ?_)
                obtain ⟨rfl, rfl⟩ := hp_86
                refine j_eqi (y := b2 (ioB (I 27) c d sh)) (rfl) ?_
                refine jb_if_ne (tgt := 95) hx hb dX1_spread_89 (by decide) (fun c_89 => ?_) (fun c_89 => ?_)
                · refine lv_aload_n hx hb dX1_spread_95 rfl (lv_at hl 4 rfl) ?_
                  refine lv_iload hx hb dX1_spread_96 (lv_at hl 1 rfl) ?_
                  refine lv_iload hx hb dX1_spread_98 (lv_at hl 0 rfl) ?_
                  refine j_cvi (11, 0, 0) [.int (nI c), .int (nI d)] hC hB hl.1 (c_X1_beyond l_ G (sr (sr (sr I 28 (f2)) 29 (h2)) 31 (q2)) J O c d (by omega)) (cwV 2 hts gX1_spread_X1_beyond rfl rfl rfl (by decide +kernel) ⟨by decide, by decide⟩) dX1_spread_100 jk11 rfl rfl rfl rfl (Nat.le_of_ble_eq_true rfl) (fun r_100 u_100 H locs hp_100 hB => ?_)
                  obtain ⟨rfl, rfl⟩ := hp_100
                  refine j_eqi (y := beF (I 0) d (nI c)) (rfl) ?_
                  have hbe := be_ok (c := c) hW (show d < nd by omega)
                  refine j_eqi hbe.1 ?_
                  refine lv_istore (lv' := [(7, .int (nI (beN (I 0) d c))), (6, .int (nI d)), (5, .int (nI c)), (4, .int (nI k)), (3, .int (nI fo2)), (0, .ref (G.2.2.1 (11, 0, 0))), (1, .int (nI fr)), (2, .int sh)]) hx hb dX1_spread_103 hl (by decide) rfl (fun ls hl => ?_)
                  refine lv_aload_n hx hb dX1_spread_105 rfl (lv_at hl 5 rfl) ?_
                  refine j_get (11, 0, 0) 4 (v := .ref (G.2.2.1 (21, 28, 0))) hC hB in_X1 lk_22 dX1_spread_106 jk11 rfl rfl (by decide) rfl ?_
                  refine lv_iload hx hb dX1_spread_109 (lv_at hl 0 rfl) ?_
                  refine j_ild 28 (beN (I 0) d c) hC hB dX1_spread_111 (by decide) rfl (by simp only [lenI_28]; omega) ?_
                  refine j_eqi (x := (sr (sr (sr I 28 (f2)) 29 (h2)) 31 (q2)) 28 (beN (I 0) d c)) (y := f2 (beN (I 0) d c)) ((congrFun (sr_ne (show (28 : Nat) ≠ 31 by omega)) _).trans ((congrFun (sr_ne (show (28 : Nat) ≠ 29 by omega)) _).trans ((congrFun sr_self _)))) ?_
                  refine lv_if_ge (tgt := 142) hx hb dX1_spread_112 (by decide) (fun c_112 => ?_) (fun c_112 => ?_)
                  · refine lv_aload_n hx hb dX1_spread_142 rfl (lv_at hl 5 rfl) ?_
                    refine j_get (11, 0, 0) 4 (v := .ref (G.2.2.1 (21, 28, 0))) hC hB in_X1 lk_22 dX1_spread_143 jk11 rfl rfl (by decide) rfl ?_
                    refine lv_iload hx hb dX1_spread_146 (lv_at hl 0 rfl) ?_
                    refine j_ild 28 (beN (I 0) d c) hC hB dX1_spread_148 (by decide) rfl (by simp only [lenI_28]; omega) ?_
                    refine j_eqi (x := (sr (sr (sr I 28 (f2)) 29 (h2)) 31 (q2)) 28 (beN (I 0) d c)) (y := f2 (beN (I 0) d c)) ((congrFun (sr_ne (show (28 : Nat) ≠ 31 by omega)) _).trans ((congrFun (sr_ne (show (28 : Nat) ≠ 29 by omega)) _).trans ((congrFun sr_self _)))) ?_
                    refine lv_aload_n hx hb dX1_spread_149 rfl (lv_at hl 5 rfl) ?_
                    refine j_get (11, 0, 0) 4 (v := .ref (G.2.2.1 (21, 28, 0))) hC hB in_X1 lk_22 dX1_spread_150 jk11 rfl rfl (by decide) rfl ?_
                    refine lv_iload hx hb dX1_spread_153 (lv_at hl 2 rfl) ?_
                    refine j_ild 28 c hC hB dX1_spread_155 (by decide) rfl (by simp only [lenI_28]; omega) ?_
                    refine j_eqi (x := (sr (sr (sr I 28 (f2)) 29 (h2)) 31 (q2)) 28 c) (y := f2 c) ((congrFun (sr_ne (show (28 : Nat) ≠ 31 by omega)) _).trans ((congrFun (sr_ne (show (28 : Nat) ≠ 29 by omega)) _).trans ((congrFun sr_self _)))) ?_
                    refine lv_iconst (v := nI 1) hx hb dX1_spread_156 (by decide) ?_
                    refine lv_iadd hx hb dX1_spread_157 ?_
                    refine lv_icmp_ne (tgt := 186) hx hb dX1_spread_158 (by decide) (fun c_158 => ?_) (fun c_158 => ?_)
                    · refine lv_iinc (v := nI (d + 1)) (lv' := [(6, .int (nI (d + 1))), (7, .int (nI (beN (I 0) d c))), (5, .int (nI c)), (4, .int (nI k)), (3, .int (nI fo2)), (0, .ref (G.2.2.1 (11, 0, 0))), (1, .int (nI fr)), (2, .int sh)]) hx hb dX1_spread_186 hl (k := 1) rfl (jn_inc _ 1) (by decide) rfl (fun ls hl => ?_)
                      refine lv_goto (tgt := 68) hx hb dX1_spread_189 (by decide) ?_
                      exact ih_68 f2 h2 q2 fo2 (d + 1) (by omega) (by omega) (by omega) (hq2) (by show _ = spD _ _ _ _ _ (it _ _ _); rw [← he2]; simp [spD, rmF, pk_us, c_89, c_112, c_158]) _ _ _ (jB_cast2 hB (by first | rfl | exact (sr_id _ _).symm | exact (srJ_id _ _).symm | (funext a; simp +decide only [sr, srJ]; (repeat' split) <;> first | rfl | (exfalso; omega) | (subst_vars; rfl))) (by first | rfl | exact (sr_id _ _).symm | exact (srJ_id _ _).symm | (funext a; simp +decide only [sr, srJ]; (repeat' split) <;> first | rfl | (exfalso; omega) | (subst_vars; rfl)))) (lv_sub hl [0, 2, 3, 4, 5, 6, 7] rfl)
                    · refine lv_aload_n hx hb dX1_spread_161 rfl (lv_at hl 5 rfl) ?_
                      refine j_get (11, 0, 0) 5 (v := .ref (G.2.2.1 (21, 29, 0))) hC hB in_X1 lk_25 dX1_spread_162 jk11 rfl rfl (by decide) rfl ?_
                      refine lv_iload hx hb dX1_spread_165 (lv_at hl 0 rfl) ?_
                      refine lv_aload_n hx hb dX1_spread_167 rfl (lv_at hl 5 rfl) ?_
                      refine j_get (11, 0, 0) 5 (v := .ref (G.2.2.1 (21, 29, 0))) hC hB in_X1 lk_25 dX1_spread_168 jk11 rfl rfl (by decide) rfl ?_
                      refine lv_iload hx hb dX1_spread_171 (lv_at hl 0 rfl) ?_
                      refine j_ild 29 (beN (I 0) d c) hC hB dX1_spread_173 (by decide) rfl (by simp only [lenI_29]; omega) ?_
                      refine j_eqi (x := (sr (sr (sr I 28 (f2)) 29 (h2)) 31 (q2)) 29 (beN (I 0) d c)) (y := h2 (beN (I 0) d c)) ((congrFun (sr_ne (show (29 : Nat) ≠ 31 by omega)) _).trans ((congrFun sr_self _))) ?_
                      refine lv_aload_n hx hb dX1_spread_174 rfl (lv_at hl 5 rfl) ?_
                      refine j_get (11, 0, 0) 5 (v := .ref (G.2.2.1 (21, 29, 0))) hC hB in_X1 lk_25 dX1_spread_175 jk11 rfl rfl (by decide) rfl ?_
                      refine lv_iload hx hb dX1_spread_178 (lv_at hl 2 rfl) ?_
                      refine j_ild 29 c hC hB dX1_spread_180 (by decide) rfl (by simp only [lenI_29]; omega) ?_
                      refine j_eqi (x := (sr (sr (sr I 28 (f2)) 29 (h2)) 31 (q2)) 29 c) (y := h2 c) ((congrFun (sr_ne (show (29 : Nat) ≠ 31 by omega)) _).trans ((congrFun sr_self _))) ?_
                      refine lv_iadd hx hb dX1_spread_181 ?_
                      refine lv_ldc (v := 1000003) hx hb hown (hts (.constant RX1 105 (1000003)) (by decide +kernel)) dX1_spread_182 ?_
                      refine j_eqi (y := nI 1000003) rfl ?_
                      refine lv_irem hx hb dX1_spread_184 (by decide) ?_
                      refine j_ist 29 (beN (I 0) d c) hC hB dX1_spread_185 (by decide) rfl (by simp only [lenI_29]; omega) (fun H locs hB => ?_)
                      have hB : jB G A s_.heap (sr (sr (sr I 28 (f2)) 31 (q2)) 29 (upd (h2) (beN (I 0) d c) (((h2 (beN (I 0) d c)) + (h2 c)) - ((h2 (beN (I 0) d c)) + (h2 c)) / (nI 1000003) * (nI 1000003))), J, O) H locs := by rw [show sr (sr (sr I 28 (f2)) 31 (q2)) 29 (upd (h2) (beN (I 0) d c) (((h2 (beN (I 0) d c)) + (h2 c)) - ((h2 (beN (I 0) d c)) + (h2 c)) / (nI 1000003) * (nI 1000003))) = u2 (sr (sr (sr I 28 (f2)) 29 (h2)) 31 (q2)) 29 (beN (I 0) d c) (((h2 (beN (I 0) d c)) + (h2 c)) - ((h2 (beN (I 0) d c)) + (h2 c)) / (nI 1000003) * (nI 1000003)) from by (rw [u2_eq, show (sr (sr (sr I 28 (f2)) 29 (h2)) 31 (q2)) 29 = h2 from (sr_ne (show (29 : Nat) ≠ 31 by omega)).trans (sr_self)]; funext a_; by_cases ha_ : a_ = 29; (rw [ha_, sr_self, sr_self]); (rw [sr_ne ha_, sr_ne ha_]; simp only [sr, if_neg ha_]))]; exact hB
                      refine lv_iinc (v := nI (d + 1)) (lv' := [(6, .int (nI (d + 1))), (7, .int (nI (beN (I 0) d c))), (5, .int (nI c)), (4, .int (nI k)), (3, .int (nI fo2)), (0, .ref (G.2.2.1 (11, 0, 0))), (1, .int (nI fr)), (2, .int sh)]) hx hb dX1_spread_186 hl (k := 1) rfl (jn_inc _ 1) (by decide) rfl (fun ls hl => ?_)
                      refine lv_goto (tgt := 68) hx hb dX1_spread_189 (by decide) ?_
                      exact ih_68 f2 (upd (h2) (beN (I 0) d c) (((h2 (beN (I 0) d c)) + (h2 c)) - ((h2 (beN (I 0) d c)) + (h2 c)) / (nI 1000003) * (nI 1000003))) q2 fo2 (d + 1) (by omega) (by omega) (by omega) (hq2) (by show _ = spD _ _ _ _ _ (it _ _ _); rw [← he2]; simp [spD, rmF, pk_us, c_89, c_112, eq_true c_158]) _ _ _ (jB_cast2 hB (by first | rfl | exact (sr_id _ _).symm | exact (srJ_id _ _).symm | (funext a; simp +decide only [sr, srJ]; (repeat' split) <;> first | rfl | (exfalso; omega) | (subst_vars; rfl))) (by first | rfl | exact (sr_id _ _).symm | exact (srJ_id _ _).symm | (funext a; simp +decide only [sr, srJ]; (repeat' split) <;> first | rfl | (exfalso; omega) | (subst_vars; rfl)))) (lv_sub hl [0, 2, 3, 4, 5, 6, 7] rfl)
                  · refine lv_aload_n hx hb dX1_spread_115 rfl (lv_at hl 5 rfl) ?_
                    refine j_get (11, 0, 0) 4 (v := .ref (G.2.2.1 (21, 28, 0))) hC hB in_X1 lk_22 dX1_spread_116 jk11 rfl rfl (by decide) rfl ?_
                    refine lv_iload hx hb dX1_spread_119 (lv_at hl 0 rfl) ?_
                    refine lv_aload_n hx hb dX1_spread_121 rfl (lv_at hl 5 rfl) ?_
                    refine j_get (11, 0, 0) 4 (v := .ref (G.2.2.1 (21, 28, 0))) hC hB in_X1 lk_22 dX1_spread_122 jk11 rfl rfl (by decide) rfl ?_
                    refine lv_iload hx hb dX1_spread_125 (lv_at hl 2 rfl) ?_
                    refine j_ild 28 c hC hB dX1_spread_127 (by decide) rfl (by simp only [lenI_28]; omega) ?_
                    refine j_eqi (x := (sr (sr (sr I 28 (f2)) 29 (h2)) 31 (q2)) 28 c) (y := f2 c) ((congrFun (sr_ne (show (28 : Nat) ≠ 31 by omega)) _).trans ((congrFun (sr_ne (show (28 : Nat) ≠ 29 by omega)) _).trans ((congrFun sr_self _)))) ?_
                    refine lv_iconst (v := nI 1) hx hb dX1_spread_128 (by decide) ?_
                    refine lv_iadd hx hb dX1_spread_129 ?_
                    refine j_ist 28 (beN (I 0) d c) hC hB dX1_spread_130 (by decide) rfl (by simp only [lenI_28]; omega) (fun H locs hB => ?_)
                    have hB : jB G A s_.heap (sr (sr (sr I 29 (h2)) 31 (q2)) 28 (upd (f2) (beN (I 0) d c) ((f2 c) + (nI 1))), J, O) H locs := by rw [show sr (sr (sr I 29 (h2)) 31 (q2)) 28 (upd (f2) (beN (I 0) d c) ((f2 c) + (nI 1))) = u2 (sr (sr (sr I 28 (f2)) 29 (h2)) 31 (q2)) 28 (beN (I 0) d c) ((f2 c) + (nI 1)) from by (rw [u2_eq, show (sr (sr (sr I 28 (f2)) 29 (h2)) 31 (q2)) 28 = f2 from (sr_ne (show (28 : Nat) ≠ 31 by omega)).trans ((sr_ne (show (28 : Nat) ≠ 29 by omega)).trans (sr_self))]; funext a_; by_cases ha_ : a_ = 28; (rw [ha_, sr_self, sr_self]); (rw [sr_ne ha_, sr_ne ha_]; simp only [sr, if_neg ha_]))]; exact hB
                    refine lv_aload_n hx hb dX1_spread_131 rfl (lv_at hl 5 rfl) ?_
                    refine j_get (11, 0, 0) 7 (v := .ref (G.2.2.1 (21, 31, 0))) hC hB in_X1 lk_31 dX1_spread_132 jk11 rfl rfl (by decide) rfl ?_
                    refine lv_iload_n hx hb dX1_spread_135 rfl (lv_at hl 4 rfl) ?_
                    refine lv_iload hx hb dX1_spread_136 (lv_at hl 0 rfl) ?_
                    refine j_ist 31 fo2 hC hB dX1_spread_138 (by decide) rfl (by simp only [lenI_31]; omega) (fun H locs hB => ?_)
                    have hB : jB G A s_.heap (sr (sr (sr I 29 (h2)) 28 (upd (f2) (beN (I 0) d c) ((f2 c) + (nI 1)))) 31 (upd (q2) fo2 (nI (beN (I 0) d c))), J, O) H locs := by rw [show sr (sr (sr I 29 (h2)) 28 (upd (f2) (beN (I 0) d c) ((f2 c) + (nI 1)))) 31 (upd (q2) fo2 (nI (beN (I 0) d c))) = u2 (sr (sr (sr I 29 (h2)) 31 (q2)) 28 (upd (f2) (beN (I 0) d c) ((f2 c) + (nI 1)))) 31 fo2 (nI (beN (I 0) d c)) from by (rw [u2_eq, show (sr (sr (sr I 29 (h2)) 31 (q2)) 28 (upd (f2) (beN (I 0) d c) ((f2 c) + (nI 1)))) 31 = q2 from (sr_ne (show (31 : Nat) ≠ 28 by omega)).trans (sr_self)]; funext a_; by_cases ha_ : a_ = 31; (rw [ha_, sr_self, sr_self]); (rw [sr_ne ha_, sr_ne ha_]; simp only [sr, if_neg ha_]))]; exact hB
                    refine lv_iinc (v := nI (fo2 + 1)) (lv' := [(3, .int (nI (fo2 + 1))), (7, .int (nI (beN (I 0) d c))), (6, .int (nI d)), (5, .int (nI c)), (4, .int (nI k)), (0, .ref (G.2.2.1 (11, 0, 0))), (1, .int (nI fr)), (2, .int sh)]) hx hb dX1_spread_139 hl (k := 4) rfl (jn_inc _ 1) (by decide) rfl (fun ls hl => ?_)
                    refine lv_aload_n hx hb dX1_spread_142 rfl (lv_at hl 5 rfl) ?_
                    refine j_get (11, 0, 0) 4 (v := .ref (G.2.2.1 (21, 28, 0))) hC hB in_X1 lk_22 dX1_spread_143 jk11 rfl rfl (by decide) rfl ?_
                    refine lv_iload hx hb dX1_spread_146 (lv_at hl 1 rfl) ?_
                    refine j_ild 28 (beN (I 0) d c) hC hB dX1_spread_148 (by decide) rfl (by simp only [lenI_28]; omega) ?_
                    refine j_eqi (x := (sr (sr (sr I 29 (h2)) 28 (upd (f2) (beN (I 0) d c) ((f2 c) + (nI 1)))) 31 (upd (q2) fo2 (nI (beN (I 0) d c)))) 28 (beN (I 0) d c)) (y := (f2 c) + (nI 1)) ((congrFun (sr_ne (show (28 : Nat) ≠ 31 by omega)) _).trans ((congrFun sr_self _).trans (pk_us))) ?_
                    refine lv_aload_n hx hb dX1_spread_149 rfl (lv_at hl 5 rfl) ?_
                    refine j_get (11, 0, 0) 4 (v := .ref (G.2.2.1 (21, 28, 0))) hC hB in_X1 lk_22 dX1_spread_150 jk11 rfl rfl (by decide) rfl ?_
                    refine lv_iload hx hb dX1_spread_153 (lv_at hl 3 rfl) ?_
                    refine j_ild 28 c hC hB dX1_spread_155 (by decide) rfl (by simp only [lenI_28]; omega) ?_
                    refine j_eqi (x := (sr (sr (sr I 29 (h2)) 28 (upd (f2) (beN (I 0) d c) ((f2 c) + (nI 1)))) 31 (upd (q2) fo2 (nI (beN (I 0) d c)))) 28 c) (y := upd (f2) (beN (I 0) d c) ((f2 c) + (nI 1)) c) ((congrFun (sr_ne (show (28 : Nat) ≠ 31 by omega)) _).trans ((congrFun sr_self _))) ?_
                    refine lv_iconst (v := nI 1) hx hb dX1_spread_156 (by decide) ?_
                    refine lv_iadd hx hb dX1_spread_157 ?_
                    refine lv_icmp_ne (tgt := 186) hx hb dX1_spread_158 (by decide) (fun c_158 => ?_) (fun c_158 => ?_)
                    · refine lv_iinc (v := nI (d + 1)) (lv' := [(6, .int (nI (d + 1))), (3, .int (nI (fo2 + 1))), (7, .int (nI (beN (I 0) d c))), (5, .int (nI c)), (4, .int (nI k)), (0, .ref (G.2.2.1 (11, 0, 0))), (1, .int (nI fr)), (2, .int sh)]) hx hb dX1_spread_186 hl (k := 2) rfl (jn_inc _ 1) (by decide) rfl (fun ls hl => ?_)
                      refine lv_goto (tgt := 68) hx hb dX1_spread_189 (by decide) ?_
                      exact ih_68 (upd (f2) (beN (I 0) d c) ((f2 c) + (nI 1))) h2 (upd (q2) fo2 (nI (beN (I 0) d c))) (fo2 + 1) (d + 1) (by omega) (by omega) (by omega) (q_push hq2 hbe.2) (by show _ = spD _ _ _ _ _ (it _ _ _); rw [← he2]; simp [spD, rmF, pk_us, c_89, c_112, c_158]) _ _ _ (jB_cast2 hB (by first | rfl | exact (sr_id _ _).symm | exact (srJ_id _ _).symm | (funext a; simp +decide only [sr, srJ]; (repeat' split) <;> first | rfl | (exfalso; omega) | (subst_vars; rfl))) (by first | rfl | exact (sr_id _ _).symm | exact (srJ_id _ _).symm | (funext a; simp +decide only [sr, srJ]; (repeat' split) <;> first | rfl | (exfalso; omega) | (subst_vars; rfl)))) (lv_sub hl [0, 3, 4, 1, 5, 6, 7] rfl)
                    · refine lv_aload_n hx hb dX1_spread_161 rfl (lv_at hl 5 rfl) ?_
                      refine j_get (11, 0, 0) 5 (v := .ref (G.2.2.1 (21, 29, 0))) hC hB in_X1 lk_25 dX1_spread_162 jk11 rfl rfl (by decide) rfl ?_
                      refine lv_iload hx hb dX1_spread_165 (lv_at hl 1 rfl) ?_
                      refine lv_aload_n hx hb dX1_spread_167 rfl (lv_at hl 5 rfl) ?_
                      refine j_get (11, 0, 0) 5 (v := .ref (G.2.2.1 (21, 29, 0))) hC hB in_X1 lk_25 dX1_spread_168 jk11 rfl rfl (by decide) rfl ?_
                      refine lv_iload hx hb dX1_spread_171 (lv_at hl 1 rfl) ?_
                      refine j_ild 29 (beN (I 0) d c) hC hB dX1_spread_173 (by decide) rfl (by simp only [lenI_29]; omega) ?_
                      refine j_eqi (x := (sr (sr (sr I 29 (h2)) 28 (upd (f2) (beN (I 0) d c) ((f2 c) + (nI 1)))) 31 (upd (q2) fo2 (nI (beN (I 0) d c)))) 29 (beN (I 0) d c)) (y := h2 (beN (I 0) d c)) ((congrFun (sr_ne (show (29 : Nat) ≠ 31 by omega)) _).trans ((congrFun (sr_ne (show (29 : Nat) ≠ 28 by omega)) _).trans ((congrFun sr_self _)))) ?_
                      refine lv_aload_n hx hb dX1_spread_174 rfl (lv_at hl 5 rfl) ?_
                      refine j_get (11, 0, 0) 5 (v := .ref (G.2.2.1 (21, 29, 0))) hC hB in_X1 lk_25 dX1_spread_175 jk11 rfl rfl (by decide) rfl ?_
                      refine lv_iload hx hb dX1_spread_178 (lv_at hl 3 rfl) ?_
                      refine j_ild 29 c hC hB dX1_spread_180 (by decide) rfl (by simp only [lenI_29]; omega) ?_
                      refine j_eqi (x := (sr (sr (sr I 29 (h2)) 28 (upd (f2) (beN (I 0) d c) ((f2 c) + (nI 1)))) 31 (upd (q2) fo2 (nI (beN (I 0) d c)))) 29 c) (y := h2 c) ((congrFun (sr_ne (show (29 : Nat) ≠ 31 by omega)) _).trans ((congrFun (sr_ne (show (29 : Nat) ≠ 28 by omega)) _).trans ((congrFun sr_self _)))) ?_
                      refine lv_iadd hx hb dX1_spread_181 ?_
                      refine lv_ldc (v := 1000003) hx hb hown (hts (.constant RX1 105 (1000003)) (by decide +kernel)) dX1_spread_182 ?_
                      refine j_eqi (y := nI 1000003) rfl ?_
                      refine lv_irem hx hb dX1_spread_184 (by decide) ?_
                      refine j_ist 29 (beN (I 0) d c) hC hB dX1_spread_185 (by decide) rfl (by simp only [lenI_29]; omega) (fun H locs hB => ?_)
                      have hB : jB G A s_.heap (sr (sr (sr I 28 (upd (f2) (beN (I 0) d c) ((f2 c) + (nI 1)))) 31 (upd (q2) fo2 (nI (beN (I 0) d c)))) 29 (upd (h2) (beN (I 0) d c) (((h2 (beN (I 0) d c)) + (h2 c)) - ((h2 (beN (I 0) d c)) + (h2 c)) / (nI 1000003) * (nI 1000003))), J, O) H locs := by rw [show sr (sr (sr I 28 (upd (f2) (beN (I 0) d c) ((f2 c) + (nI 1)))) 31 (upd (q2) fo2 (nI (beN (I 0) d c)))) 29 (upd (h2) (beN (I 0) d c) (((h2 (beN (I 0) d c)) + (h2 c)) - ((h2 (beN (I 0) d c)) + (h2 c)) / (nI 1000003) * (nI 1000003))) = u2 (sr (sr (sr I 29 (h2)) 28 (upd (f2) (beN (I 0) d c) ((f2 c) + (nI 1)))) 31 (upd (q2) fo2 (nI (beN (I 0) d c)))) 29 (beN (I 0) d c) (((h2 (beN (I 0) d c)) + (h2 c)) - ((h2 (beN (I 0) d c)) + (h2 c)) / (nI 1000003) * (nI 1000003)) from by (rw [u2_eq, show (sr (sr (sr I 29 (h2)) 28 (upd (f2) (beN (I 0) d c) ((f2 c) + (nI 1)))) 31 (upd (q2) fo2 (nI (beN (I 0) d c)))) 29 = h2 from (sr_ne (show (29 : Nat) ≠ 31 by omega)).trans ((sr_ne (show (29 : Nat) ≠ 28 by omega)).trans (sr_self))]; funext a_; by_cases ha_ : a_ = 29; (rw [ha_, sr_self, sr_self]); (rw [sr_ne ha_, sr_ne ha_]; simp only [sr, if_neg ha_]))]; exact hB
                      refine lv_iinc (v := nI (d + 1)) (lv' := [(6, .int (nI (d + 1))), (3, .int (nI (fo2 + 1))), (7, .int (nI (beN (I 0) d c))), (5, .int (nI c)), (4, .int (nI k)), (0, .ref (G.2.2.1 (11, 0, 0))), (1, .int (nI fr)), (2, .int sh)]) hx hb dX1_spread_186 hl (k := 2) rfl (jn_inc _ 1) (by decide) rfl (fun ls hl => ?_)
                      refine lv_goto (tgt := 68) hx hb dX1_spread_189 (by decide) ?_
                      exact ih_68 (upd (f2) (beN (I 0) d c) ((f2 c) + (nI 1))) (upd (h2) (beN (I 0) d c) (((h2 (beN (I 0) d c)) + (h2 c)) - ((h2 (beN (I 0) d c)) + (h2 c)) / (nI 1000003) * (nI 1000003))) (upd (q2) fo2 (nI (beN (I 0) d c))) (fo2 + 1) (d + 1) (by omega) (by omega) (by omega) (q_push hq2 hbe.2) (by show _ = spD _ _ _ _ _ (it _ _ _); rw [← he2]; simp [spD, rmF, pk_us, c_89, c_112, eq_true c_158]) _ _ _ (jB_cast2 hB (by first | rfl | exact (sr_id _ _).symm | exact (srJ_id _ _).symm | (funext a; simp +decide only [sr, srJ]; (repeat' split) <;> first | rfl | (exfalso; omega) | (subst_vars; rfl))) (by first | rfl | exact (sr_id _ _).symm | exact (srJ_id _ _).symm | (funext a; simp +decide only [sr, srJ]; (repeat' split) <;> first | rfl | (exfalso; omega) | (subst_vars; rfl)))) (lv_sub hl [0, 3, 4, 1, 5, 6, 7] rfl)
                · refine lv_goto (tgt := 186) hx hb dX1_spread_92 (by decide) ?_
                  refine lv_iinc (v := nI (d + 1)) (lv' := [(6, .int (nI (d + 1))), (5, .int (nI c)), (4, .int (nI k)), (3, .int (nI fo2)), (0, .ref (G.2.2.1 (11, 0, 0))), (1, .int (nI fr)), (2, .int sh)]) hx hb dX1_spread_186 hl (k := 0) rfl (jn_inc _ 1) (by decide) rfl (fun ls hl => ?_)
                  refine lv_goto (tgt := 68) hx hb dX1_spread_189 (by decide) ?_
                  exact ih_68 f2 h2 q2 fo2 (d + 1) (by omega) (by omega) (by omega) (hq2) (by show _ = spD _ _ _ _ _ (it _ _ _); rw [← he2]; simp [spD, rmF, pk_us, c_89]) _ _ _ (jB_cast2 hB (by first | rfl | exact (sr_id _ _).symm | exact (srJ_id _ _).symm | (funext a; simp +decide only [sr, srJ]; (repeat' split) <;> first | rfl | (exfalso; omega) | (subst_vars; rfl))) (by first | rfl | exact (sr_id _ _).symm | exact (srJ_id _ _).symm | (funext a; simp +decide only [sr, srJ]; (repeat' split) <;> first | rfl | (exfalso; omega) | (subst_vars; rfl)))) (lv_sub hl [0, 1, 2, 3, 4, 5, 6] rfl)
          exact lp_68 _ f1 h1 q1 fo1 0 (Nat.lt_succ_self _) (by omega) (by omega) (hq1) (rfl) _ _ _ (jB_cast2 hB (by first | rfl | exact (sr_id _ _).symm | exact (srJ_id _ _).symm | (funext a; simp +decide only [sr, srJ]; (repeat' split) <;> first | rfl | (exfalso; omega) | (subst_vars; rfl))) (by first | rfl | exact (sr_id _ _).symm | exact (srJ_id _ _).symm | (funext a; simp +decide only [sr, srJ]; (repeat' split) <;> first | rfl | (exfalso; omega) | (subst_vars; rfl)))) (lv_sub hl [0, 1, 2, 3, 4, 5, 6] rfl)
  exact lp_43 _ (upd (filI (I 28) ((-4 : Int32)) (lenI 28)) fr (nI 0)) (upd (filI (I 29) (nI 0) (lenI 29)) fr (nI 1)) (upd (I 31) 0 (nI fr)) 1 0 (Nat.lt_succ_self _) (by omega) (by omega) (fun j hj => ⟨fr, hfr, by rw [show j = 0 by omega, pk_us]⟩) (rfl) _ _ _ (jB_cast2 hB (by first | rfl | exact (sr_id _ _).symm | exact (srJ_id _ _).symm | (funext a; simp +decide only [sr, srJ]; (repeat' split) <;> first | rfl | (exfalso; omega) | (subst_vars; rfl))) (by first | rfl | exact (sr_id _ _).symm | exact (srJ_id _ _).symm | (funext a; simp +decide only [sr, srJ]; (repeat' split) <;> first | rfl | (exfalso; omega) | (subst_vars; rfl)))) (lv_sub hl [0, 1, 2, 3, 4] rfl)
