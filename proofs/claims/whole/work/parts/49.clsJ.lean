set_option maxHeartbeats 4000000 in
set_option maxRecDepth 100000 in
theorem c_X1_isOpen (l_ : Launch) (G : jG) (I : Nat → Nat → Int32) (J : Nat → Nat → Int64) (O : Nat → Nat → Nat) (c d : Nat) (sh : Int32) (hc : c < 8) : jMi l_ G yX1_isOpen wsX1_isOpen ({ frames := 0, cells := 0, slots := 0, locals := 0 }) [.ref (G.2.2.1 (11, 0, 0)), .int (nI c), .int (nI d), .int sh] (I, J, O) (fun r u => r = b2 (ioB (I 27) c d sh) ∧ u = (I, J, O)) := by
  refine jMi_of (cc := cX1_isOpen) (maxL := 4) (ret := (some .boolean)) (lv0 := [(0, .ref (G.2.2.1 (11, 0, 0))), (1, .int (nI c)), (2, .int (nI d)), (3, .int sh)]) (by decide) rfl (Nat.le_of_ble_eq_true rfl) rfl ?_
  intro pg_ ev_ s_ mi_ below meth cd_ A ls hC hB hl
  obtain ⟨hx, hb, hr, hml, hown, hts, hlocks, hK, hA⟩ := id hC
  have lk_18 := hts (.fieldLink RX1 18 "RiddlePrison$Foresight" "open" "[I") (by decide +kernel)
  have in_X1 := (fun w h => List.mem_cons_of_mem _ (List.mem_append_right _ h) : ∀ w ∈ wsX10, w ∈ wsX1_isOpen)
  refine lv_aload_n hx hb dX1_isOpen_0 rfl (lv_at hl 0 rfl) ?_
  refine j_get (11, 0, 0) 3 (v := .ref (G.2.2.1 (21, 27, 0))) hC hB in_X1 lk_18 dX1_isOpen_1 jk11 rfl rfl (by decide) rfl ?_
  refine lv_iload_n hx hb dX1_isOpen_4 rfl (lv_at hl 1 rfl) ?_
  refine j_iLd 27 c hC hB dX1_isOpen_5 (by decide) rfl (by simp only [lenI_27]; omega) ?_
  refine j_eqi (y := (I 27) c) rfl ?_
  refine lv_iload_n hx hb dX1_isOpen_6 rfl (lv_at hl 3 rfl) ?_
  refine lv_iconst (v := (-1 : Int32)) hx hb dX1_isOpen_7 (by decide) ?_
  refine lv_ixor hx hb dX1_isOpen_8 ?_
  refine lv_iand hx hb dX1_isOpen_9 ?_
  refine lv_iload_n hx hb dX1_isOpen_10 rfl (lv_at hl 2 rfl) ?_
  refine lv_ishr hx hb dX1_isOpen_11 ?_
  refine lv_iconst (v := nI 1) hx hb dX1_isOpen_12 (by decide) ?_
  refine lv_iand hx hb dX1_isOpen_13 ?_
  refine lv_iconst (v := nI 1) hx hb dX1_isOpen_14 (by decide) ?_
  refine lv_icmp_ne (tgt := 22) hx hb dX1_isOpen_15 (by decide) (fun c_15 => ?_) (fun c_15 => ?_)
  · refine lv_iconst (v := nI 0) hx hb dX1_isOpen_22 (by decide) ?_
    exact j_zret hC hB dX1_isOpen_23 (by decide) (⟨by rw [ioB, decide_eq_false c_15]; rfl, rfl⟩)
  · refine lv_iconst (v := nI 1) hx hb dX1_isOpen_18 (by decide) ?_
    refine lv_goto (tgt := 23) hx hb dX1_isOpen_19 (by decide) ?_
    exact j_zret hC hB dX1_isOpen_23 (by decide) (⟨by rw [ioB, decide_eq_true c_15]; rfl, rfl⟩)

set_option maxHeartbeats 4000000 in
set_option maxRecDepth 100000 in
theorem c_X1_spreadOn (l_ : Launch) (G : jG) (I : Nat → Nat → Int32) (J : Nat → Nat → Int64) (O : Nat → Nat → Nat) (c : Nat) (sh : Int32) (hc : c < 8) {nd : Nat} (hnd : nd ≤ 10) (hD : I 0 0 = nI nd) (hW : wfD (I 0) nd) : jMv l_ G yX1_spreadOn wsX1_spreadOn ({ frames := 1, cells := 0, slots := 0, locals := 23 }) [.ref (G.2.2.1 (11, 0, 0)), .int (nI c), .int sh] (I, J, O) (fun u => u = (sr (sr I 28 ((it (spD (I 0) (I 27) sh c (I 28 c + nI 1)) nd (I 28, I 29)).1)) 29 ((it (spD (I 0) (I 27) sh c (I 28 c + nI 1)) nd (I 28, I 29)).2), J, O)) := by
  refine jMv_of (cc := cX1_spreadOn) (maxL := 6) (ret := none) (lv0 := [(0, .ref (G.2.2.1 (11, 0, 0))), (1, .int (nI c)), (2, .int sh)]) (by decide) rfl (Nat.le_of_ble_eq_true rfl) rfl ?_
  intro pg_ ev_ s_ mi_ below meth cd_ A ls hC hB hl
  obtain ⟨hx, hb, hr, hml, hown, hts, hlocks, hK, hA⟩ := id hC
  have lk_22 := hts (.fieldLink RX1 22 "RiddlePrison$Foresight" "far" "[I") (by decide +kernel)
  have lk_41 := hts (.fieldLink RX1 41 "RiddlePrison$Foresight" "prison" "LRiddlePrison$Prison;") (by decide +kernel)
  have ln_85 := (by decide +kernel : Cond.fieldLinkNest RX1 85 "RiddlePrison$Prison" "doorCount" "I" "RiddlePrison" ∈ nsW)
  have ln_92 := (by decide +kernel : Cond.fieldLinkNest RX1 92 "RiddlePrison$Prison" "doors" "[LRiddlePrison$Door;" "RiddlePrison" ∈ nsW)
  have lk_25 := hts (.fieldLink RX1 25 "RiddlePrison$Foresight" "rows" "[I") (by decide +kernel)
  have in_X1 := (fun w h => List.mem_cons_of_mem _ (List.mem_append_left _ (List.mem_append_left _ (List.mem_append_right _ h))) : ∀ w ∈ wsX10, w ∈ wsX1_spreadOn)
  have in_X4 := (fun w h => List.mem_cons_of_mem _ (List.mem_append_left _ (List.mem_append_right _ h)) : ∀ w ∈ wsX40, w ∈ wsX1_spreadOn)
  refine lv_aload_n hx hb dX1_spreadOn_0 rfl (lv_at hl 0 rfl) ?_
  refine j_get (11, 0, 0) 4 (v := .ref (G.2.2.1 (21, 28, 0))) hC hB in_X1 lk_22 dX1_spreadOn_1 jk11 rfl rfl (by decide) rfl ?_
  refine lv_iload_n hx hb dX1_spreadOn_4 rfl (lv_at hl 1 rfl) ?_
  refine j_iLd 28 c hC hB dX1_spreadOn_5 (by decide) rfl (by simp only [lenI_28]; omega) ?_
  refine j_eqi (y := (I 28) c) rfl ?_
  refine lv_iconst (v := nI 1) hx hb dX1_spreadOn_6 (by decide) ?_
  refine lv_iadd hx hb dX1_spreadOn_7 ?_
  refine lv_istore_n (lv' := [(3, .int (((I 28) c) + (nI 1))), (0, .ref (G.2.2.1 (11, 0, 0))), (1, .int (nI c)), (2, .int sh)]) hx hb dX1_spreadOn_8 rfl hl (by decide) rfl (fun ls hl => ?_)
  refine lv_iconst (v := nI 0) hx hb dX1_spreadOn_9 (by decide) ?_
  refine lv_istore (lv' := [(4, .int (nI 0)), (3, .int (((I 28) c) + (nI 1))), (0, .ref (G.2.2.1 (11, 0, 0))), (1, .int (nI c)), (2, .int sh)]) hx hb dX1_spreadOn_10 hl (by decide) rfl (fun ls hl => ?_)
  have lp_12 : ∀ (fu : Nat) (f2 : Nat → Int32) (h2 : Nat → Int32) (d : Nat), nd - d < fu → (d ≤ nd) → ((f2, h2) = it (spD (I 0) (I 27) sh c (I 28 c + nI 1)) d (I 28, I 29)) → ∀ H locs ls, jB G A s_.heap (sr (sr I 28 (f2)) 29 (h2), J, O) H locs → lv_has ls 6 [(4, .int (nI d)), (3, .int (((I 28) c) + (nI 1))), (0, .ref (G.2.2.1 (11, 0, 0))), (1, .int (nI c)), (2, .int sh)] → W pg_ l_ ev_ ({ frames := 1, cells := 0, slots := 0, locals := 23 }) s_ mi_ ([.ref (G.2.2.1 (11, 0, 0)), .int (nI c), .int sh]).toArray below meth cd_ H locs 0 0 (jQv G A below [.ref (G.2.2.1 (11, 0, 0)), .int (nI c), .int sh] s_ (fun u => u = (sr (sr I 28 ((it (spD (I 0) (I 27) sh c (I 28 c + nI 1)) nd (I 28, I 29)).1)) 29 ((it (spD (I 0) (I 27) sh c (I 28 c + nI 1)) nd (I 28, I 29)).2), J, O))) (F0 mi_ 12 ls []) := by
    intro fu
    induction fu with
    | zero => intro f2 h2 d hf; exact absurd hf (Nat.not_lt_zero _)
    | succ fu ih_12 =>
      intro f2 h2 d hf_12 hd he2 H locs ls hB hl
      refine lv_iload hx hb dX1_spreadOn_12 (lv_at hl 0 rfl) ?_
      refine lv_aload_n hx hb dX1_spreadOn_14 rfl (lv_at hl 2 rfl) ?_
      refine j_get (11, 0, 0) 0 (v := .ref (G.2.2.1 (1, 0, 0))) hC hB in_X1 lk_41 dX1_spreadOn_15 jk11 rfl rfl (by decide) rfl ?_
      refine j_getN (1, 0, 0) 2 (v := .int ((sr (sr I 28 (f2)) 29 (h2)) 0 0)) hC hB in_X4 ln_85 dX1_spreadOn_18 (jk1 (by omega)) rfl rfl (by decide) rfl ?_
      refine j_eqi (x := (sr (sr I 28 (f2)) 29 (h2)) 0 0) (y := nI nd) ((sr_nj (show (0 : Nat) ≠ 29 by omega)).trans ((sr_nj (show (0 : Nat) ≠ 28 by omega)).trans (hD))) ?_
      refine jn_icmp_ge (tgt := 113) hx hb dX1_spreadOn_21 (by decide) (by omega) (by omega) (fun c_21 => ?_) (fun c_21 => ?_)
      · exact j_vret hC hB dX1_spreadOn_113 (by rw [show it (spD (I 0) (I 27) sh c (I 28 c + nI 1)) nd (I 28, I 29) = (f2, h2) from by rw [he2, show d = nd by omega]])
      · refine lv_aload_n hx hb dX1_spreadOn_24 rfl (lv_at hl 2 rfl) ?_
        refine lv_iload_n hx hb dX1_spreadOn_25 rfl (lv_at hl 3 rfl) ?_
        refine lv_iload hx hb dX1_spreadOn_26 (lv_at hl 0 rfl) ?_
        refine lv_iload_n hx hb dX1_spreadOn_28 rfl (lv_at hl 4 rfl) ?_
        refine j_cvi (11, 0, 0) [.int (nI c), .int (nI d), .int sh] hC hB hl.1 (c_X1_isOpen l_ G (sr (sr I 28 (f2)) 29 (h2)) J O c d sh (by omega)) (cwV 3 hts gX1_spreadOn_X1_isOpen rfl rfl rfl (by decide +kernel) ⟨by decide, by decide⟩) dX1_spreadOn_29 jk11 rfl rfl rfl rfl (Nat.le_of_ble_eq_true rfl) (fun r_29 u_29 H locs hp_29 hB => ?_)
        obtain ⟨rfl, rfl⟩ := hp_29
        refine j_eqi (y := b2 (ioB (I 27) c d sh)) (rfl) ?_
        refine jb_if_ne (tgt := 38) hx hb dX1_spreadOn_32 (by decide) (fun c_32 => ?_) (fun c_32 => ?_)
        · refine lv_aload_n hx hb dX1_spreadOn_38 rfl (lv_at hl 2 rfl) ?_
          refine j_get (11, 0, 0) 0 (v := .ref (G.2.2.1 (1, 0, 0))) hC hB in_X1 lk_41 dX1_spreadOn_39 jk11 rfl rfl (by decide) rfl ?_
          refine j_getN (1, 0, 0) 0 (v := .ref (G.2.2.1 (2, 0, 0))) hC hB in_X4 ln_92 dX1_spreadOn_42 (jk1 (by omega)) rfl rfl (by decide) rfl ?_
          refine lv_iload hx hb dX1_spreadOn_45 (lv_at hl 0 rfl) ?_
          refine j_ald (2, 0, 0) (4, 0, d) 3 d hC hB dX1_spreadOn_47 (jk2 (by omega)) rfl rfl rfl (by omega) (by decide) rfl ?_
          refine lv_iload_n hx hb dX1_spreadOn_48 rfl (lv_at hl 3 rfl) ?_
          refine j_cvi (4, 0, d) [.int (nI c)] hC hB hl.1 (c_X0_beyond l_ G (sr (sr I 28 (f2)) 29 (h2)) J O 0 d (nI c) ((jk4 (by omega) (by omega)))) (cwV 1 hts gX1_spreadOn_X0_beyond rfl rfl rfl (by decide +kernel) ⟨by decide, by decide⟩) dX1_spreadOn_49 (jk4 (by omega) (by omega)) rfl rfl rfl rfl (Nat.le_of_ble_eq_true rfl) (fun r_49 u_49 H locs hp_49 hB => ?_)
          obtain ⟨rfl, rfl⟩ := hp_49
          refine j_eqi (y := beF (I 0) d (nI c)) (rfl) ?_
          have hbe := be_ok (c := c) hW (show d < nd by omega)
          refine j_eqi hbe.1 ?_
          refine lv_istore (lv' := [(5, .int (nI (beN (I 0) d c))), (4, .int (nI d)), (3, .int (((I 28) c) + (nI 1))), (0, .ref (G.2.2.1 (11, 0, 0))), (1, .int (nI c)), (2, .int sh)]) hx hb dX1_spreadOn_52 hl (by decide) rfl (fun ls hl => ?_)
          refine lv_aload_n hx hb dX1_spreadOn_54 rfl (lv_at hl 3 rfl) ?_
          refine j_get (11, 0, 0) 4 (v := .ref (G.2.2.1 (21, 28, 0))) hC hB in_X1 lk_22 dX1_spreadOn_55 jk11 rfl rfl (by decide) rfl ?_
          refine lv_iload hx hb dX1_spreadOn_58 (lv_at hl 0 rfl) ?_
          refine j_iLd 28 (beN (I 0) d c) hC hB dX1_spreadOn_60 (by decide) rfl (by simp only [lenI_28]; omega) ?_
          refine j_eqi (x := (sr (sr I 28 (f2)) 29 (h2)) 28 (beN (I 0) d c)) (y := f2 (beN (I 0) d c)) ((sr_nj (show (28 : Nat) ≠ 29 by omega)).trans (sr_sj)) ?_
          refine lv_if_ge (tgt := 72) hx hb dX1_spreadOn_61 (by decide) (fun c_61 => ?_) (fun c_61 => ?_)
          · refine lv_aload_n hx hb dX1_spreadOn_72 rfl (lv_at hl 3 rfl) ?_
            refine j_get (11, 0, 0) 4 (v := .ref (G.2.2.1 (21, 28, 0))) hC hB in_X1 lk_22 dX1_spreadOn_73 jk11 rfl rfl (by decide) rfl ?_
            refine lv_iload hx hb dX1_spreadOn_76 (lv_at hl 0 rfl) ?_
            refine j_iLd 28 (beN (I 0) d c) hC hB dX1_spreadOn_78 (by decide) rfl (by simp only [lenI_28]; omega) ?_
            refine j_eqi (x := (sr (sr I 28 (f2)) 29 (h2)) 28 (beN (I 0) d c)) (y := f2 (beN (I 0) d c)) ((sr_nj (show (28 : Nat) ≠ 29 by omega)).trans (sr_sj)) ?_
            refine lv_iload_n hx hb dX1_spreadOn_79 rfl (lv_at hl 2 rfl) ?_
            refine lv_icmp_ne (tgt := 107) hx hb dX1_spreadOn_80 (by decide) (fun c_80 => ?_) (fun c_80 => ?_)
            · refine lv_iinc (v := nI (d + 1)) (lv' := [(4, .int (nI (d + 1))), (5, .int (nI (beN (I 0) d c))), (3, .int (((I 28) c) + (nI 1))), (0, .ref (G.2.2.1 (11, 0, 0))), (1, .int (nI c)), (2, .int sh)]) hx hb dX1_spreadOn_107 hl (k := 1) rfl (jn_inc _ 1) (by decide) rfl (fun ls hl => ?_)
              refine lv_goto (tgt := 12) hx hb dX1_spreadOn_110 (by decide) ?_
              exact ih_12 f2 h2 (d + 1) (by omega) (by omega) (by rw [it_s, ← he2]; simp [spD, rmF, c_32, c_61, c_80]) _ _ _ hB (lv_sub hl [0, 2, 3, 4, 5] rfl)
            · refine lv_aload_n hx hb dX1_spreadOn_83 rfl (lv_at hl 3 rfl) ?_
              refine j_get (11, 0, 0) 5 (v := .ref (G.2.2.1 (21, 29, 0))) hC hB in_X1 lk_25 dX1_spreadOn_84 jk11 rfl rfl (by decide) rfl ?_
              refine lv_iload hx hb dX1_spreadOn_87 (lv_at hl 0 rfl) ?_
              refine lv_aload_n hx hb dX1_spreadOn_89 rfl (lv_at hl 3 rfl) ?_
              refine j_get (11, 0, 0) 5 (v := .ref (G.2.2.1 (21, 29, 0))) hC hB in_X1 lk_25 dX1_spreadOn_90 jk11 rfl rfl (by decide) rfl ?_
              refine lv_iload hx hb dX1_spreadOn_93 (lv_at hl 0 rfl) ?_
              refine j_iLd 29 (beN (I 0) d c) hC hB dX1_spreadOn_95 (by decide) rfl (by simp only [lenI_29]; omega) ?_
              refine j_eqi (x := (sr (sr I 28 (f2)) 29 (h2)) 29 (beN (I 0) d c)) (y := h2 (beN (I 0) d c)) (sr_sj) ?_
              refine lv_aload_n hx hb dX1_spreadOn_96 rfl (lv_at hl 3 rfl) ?_
              refine j_get (11, 0, 0) 5 (v := .ref (G.2.2.1 (21, 29, 0))) hC hB in_X1 lk_25 dX1_spreadOn_97 jk11 rfl rfl (by decide) rfl ?_
              refine lv_iload_n hx hb dX1_spreadOn_100 rfl (lv_at hl 4 rfl) ?_
              refine j_iLd 29 c hC hB dX1_spreadOn_101 (by decide) rfl (by simp only [lenI_29]; omega) ?_
              refine j_eqi (x := (sr (sr I 28 (f2)) 29 (h2)) 29 c) (y := h2 c) (sr_sj) ?_
              refine lv_iadd hx hb dX1_spreadOn_102 ?_
              refine lv_ldc (v := 1000003) hx hb hown (hts (.constant RX1 102 (1000003)) (by decide +kernel)) dX1_spreadOn_103 ?_
              refine j_eqi (y := nI 1000003) rfl ?_
              refine lv_irem hx hb dX1_spreadOn_105 (by decide) ?_
              refine j_iSt 29 (beN (I 0) d c) hC hB dX1_spreadOn_106 (by decide) rfl (by simp only [lenI_29]; omega) (fun H locs hB => ?_)
              have hB : jB G A s_.heap (sr (sr I 28 (f2)) 29 (upd (h2) (beN (I 0) d c) (((h2 (beN (I 0) d c)) + (h2 c)) - ((h2 (beN (I 0) d c)) + (h2 c)) / (nI 1000003) * (nI 1000003))), J, O) H locs := by rw [show sr (sr I 28 (f2)) 29 (upd (h2) (beN (I 0) d c) (((h2 (beN (I 0) d c)) + (h2 c)) - ((h2 (beN (I 0) d c)) + (h2 c)) / (nI 1000003) * (nI 1000003))) = u2 (sr (sr I 28 (f2)) 29 (h2)) 29 (beN (I 0) d c) (((h2 (beN (I 0) d c)) + (h2 c)) - ((h2 (beN (I 0) d c)) + (h2 c)) / (nI 1000003) * (nI 1000003)) from (u2_sr _ _ _ _ _).symm]; exact hB
              refine lv_iinc (v := nI (d + 1)) (lv' := [(4, .int (nI (d + 1))), (5, .int (nI (beN (I 0) d c))), (3, .int (((I 28) c) + (nI 1))), (0, .ref (G.2.2.1 (11, 0, 0))), (1, .int (nI c)), (2, .int sh)]) hx hb dX1_spreadOn_107 hl (k := 1) rfl (jn_inc _ 1) (by decide) rfl (fun ls hl => ?_)
              refine lv_goto (tgt := 12) hx hb dX1_spreadOn_110 (by decide) ?_
              exact ih_12 f2 (upd (h2) (beN (I 0) d c) (((h2 (beN (I 0) d c)) + (h2 c)) - ((h2 (beN (I 0) d c)) + (h2 c)) / (nI 1000003) * (nI 1000003))) (d + 1) (by omega) (by omega) (by rw [it_s, ← he2]; simp [spD, rmF, c_32, c_61, eq_true c_80]) _ _ _ hB (lv_sub hl [0, 2, 3, 4, 5] rfl)
          · refine lv_aload_n hx hb dX1_spreadOn_64 rfl (lv_at hl 3 rfl) ?_
            refine j_get (11, 0, 0) 4 (v := .ref (G.2.2.1 (21, 28, 0))) hC hB in_X1 lk_22 dX1_spreadOn_65 jk11 rfl rfl (by decide) rfl ?_
            refine lv_iload hx hb dX1_spreadOn_68 (lv_at hl 0 rfl) ?_
            refine lv_iload_n hx hb dX1_spreadOn_70 rfl (lv_at hl 2 rfl) ?_
            refine j_iSt 28 (beN (I 0) d c) hC hB dX1_spreadOn_71 (by decide) rfl (by simp only [lenI_28]; omega) (fun H locs hB => ?_)
            have hB : jB G A s_.heap (sr (sr I 29 (h2)) 28 (upd (f2) (beN (I 0) d c) (((I 28) c) + (nI 1))), J, O) H locs := by rw [show sr (sr I 29 (h2)) 28 (upd (f2) (beN (I 0) d c) (((I 28) c) + (nI 1))) = u2 (sr (sr I 28 (f2)) 29 (h2)) 28 (beN (I 0) d c) (((I 28) c) + (nI 1)) from (u2_sr2 (show (28 : Nat) ≠ 29 by omega)).symm]; exact hB
            refine lv_aload_n hx hb dX1_spreadOn_72 rfl (lv_at hl 3 rfl) ?_
            refine j_get (11, 0, 0) 4 (v := .ref (G.2.2.1 (21, 28, 0))) hC hB in_X1 lk_22 dX1_spreadOn_73 jk11 rfl rfl (by decide) rfl ?_
            refine lv_iload hx hb dX1_spreadOn_76 (lv_at hl 0 rfl) ?_
            refine j_iLd 28 (beN (I 0) d c) hC hB dX1_spreadOn_78 (by decide) rfl (by simp only [lenI_28]; omega) ?_
            refine j_eqi (x := (sr (sr I 29 (h2)) 28 (upd (f2) (beN (I 0) d c) (((I 28) c) + (nI 1)))) 28 (beN (I 0) d c)) (y := ((I 28) c) + (nI 1)) (sr_sj.trans (pk_us)) ?_
            refine lv_iload_n hx hb dX1_spreadOn_79 rfl (lv_at hl 2 rfl) ?_
            refine lv_icmp_ne (tgt := 107) hx hb dX1_spreadOn_80 (by decide) (fun c_80 => ?_) (fun c_80 => ?_)
            · exact absurd rfl c_80
            · refine lv_aload_n hx hb dX1_spreadOn_83 rfl (lv_at hl 3 rfl) ?_
              refine j_get (11, 0, 0) 5 (v := .ref (G.2.2.1 (21, 29, 0))) hC hB in_X1 lk_25 dX1_spreadOn_84 jk11 rfl rfl (by decide) rfl ?_
              refine lv_iload hx hb dX1_spreadOn_87 (lv_at hl 0 rfl) ?_
              refine lv_aload_n hx hb dX1_spreadOn_89 rfl (lv_at hl 3 rfl) ?_
              refine j_get (11, 0, 0) 5 (v := .ref (G.2.2.1 (21, 29, 0))) hC hB in_X1 lk_25 dX1_spreadOn_90 jk11 rfl rfl (by decide) rfl ?_
              refine lv_iload hx hb dX1_spreadOn_93 (lv_at hl 0 rfl) ?_
              refine j_iLd 29 (beN (I 0) d c) hC hB dX1_spreadOn_95 (by decide) rfl (by simp only [lenI_29]; omega) ?_
              refine j_eqi (x := (sr (sr I 29 (h2)) 28 (upd (f2) (beN (I 0) d c) (((I 28) c) + (nI 1)))) 29 (beN (I 0) d c)) (y := h2 (beN (I 0) d c)) ((sr_nj (show (29 : Nat) ≠ 28 by omega)).trans (sr_sj)) ?_
              refine lv_aload_n hx hb dX1_spreadOn_96 rfl (lv_at hl 3 rfl) ?_
              refine j_get (11, 0, 0) 5 (v := .ref (G.2.2.1 (21, 29, 0))) hC hB in_X1 lk_25 dX1_spreadOn_97 jk11 rfl rfl (by decide) rfl ?_
              refine lv_iload_n hx hb dX1_spreadOn_100 rfl (lv_at hl 4 rfl) ?_
              refine j_iLd 29 c hC hB dX1_spreadOn_101 (by decide) rfl (by simp only [lenI_29]; omega) ?_
              refine j_eqi (x := (sr (sr I 29 (h2)) 28 (upd (f2) (beN (I 0) d c) (((I 28) c) + (nI 1)))) 29 c) (y := h2 c) ((sr_nj (show (29 : Nat) ≠ 28 by omega)).trans (sr_sj)) ?_
              refine lv_iadd hx hb dX1_spreadOn_102 ?_
              refine lv_ldc (v := 1000003) hx hb hown (hts (.constant RX1 102 (1000003)) (by decide +kernel)) dX1_spreadOn_103 ?_
              refine j_eqi (y := nI 1000003) rfl ?_
              refine lv_irem hx hb dX1_spreadOn_105 (by decide) ?_
              refine j_iSt 29 (beN (I 0) d c) hC hB dX1_spreadOn_106 (by decide) rfl (by simp only [lenI_29]; omega) (fun H locs hB => ?_)
              have hB : jB G A s_.heap (sr (sr I 28 (upd (f2) (beN (I 0) d c) (((I 28) c) + (nI 1)))) 29 (upd (h2) (beN (I 0) d c) (((h2 (beN (I 0) d c)) + (h2 c)) - ((h2 (beN (I 0) d c)) + (h2 c)) / (nI 1000003) * (nI 1000003))), J, O) H locs := by rw [show sr (sr I 28 (upd (f2) (beN (I 0) d c) (((I 28) c) + (nI 1)))) 29 (upd (h2) (beN (I 0) d c) (((h2 (beN (I 0) d c)) + (h2 c)) - ((h2 (beN (I 0) d c)) + (h2 c)) / (nI 1000003) * (nI 1000003))) = u2 (sr (sr I 29 (h2)) 28 (upd (f2) (beN (I 0) d c) (((I 28) c) + (nI 1)))) 29 (beN (I 0) d c) (((h2 (beN (I 0) d c)) + (h2 c)) - ((h2 (beN (I 0) d c)) + (h2 c)) / (nI 1000003) * (nI 1000003)) from (u2_sr2 (show (29 : Nat) ≠ 28 by omega)).symm]; exact hB
              refine lv_iinc (v := nI (d + 1)) (lv' := [(4, .int (nI (d + 1))), (5, .int (nI (beN (I 0) d c))), (3, .int (((I 28) c) + (nI 1))), (0, .ref (G.2.2.1 (11, 0, 0))), (1, .int (nI c)), (2, .int sh)]) hx hb dX1_spreadOn_107 hl (k := 1) rfl (jn_inc _ 1) (by decide) rfl (fun ls hl => ?_)
              refine lv_goto (tgt := 12) hx hb dX1_spreadOn_110 (by decide) ?_
              exact ih_12 (upd (f2) (beN (I 0) d c) (((I 28) c) + (nI 1))) (upd (h2) (beN (I 0) d c) (((h2 (beN (I 0) d c)) + (h2 c)) - ((h2 (beN (I 0) d c)) + (h2 c)) / (nI 1000003) * (nI 1000003))) (d + 1) (by omega) (by omega) (by rw [it_s, ← he2]; simp [spD, rmF, c_32, c_61]) _ _ _ hB (lv_sub hl [0, 2, 3, 4, 5] rfl)
        · refine lv_goto (tgt := 107) hx hb dX1_spreadOn_35 (by decide) ?_
          refine lv_iinc (v := nI (d + 1)) (lv' := [(4, .int (nI (d + 1))), (3, .int (((I 28) c) + (nI 1))), (0, .ref (G.2.2.1 (11, 0, 0))), (1, .int (nI c)), (2, .int sh)]) hx hb dX1_spreadOn_107 hl (k := 0) rfl (jn_inc _ 1) (by decide) rfl (fun ls hl => ?_)
          refine lv_goto (tgt := 12) hx hb dX1_spreadOn_110 (by decide) ?_
          exact ih_12 f2 h2 (d + 1) (by omega) (by omega) (by rw [it_s, ← he2]; simp [spD, rmF, c_32]) _ _ _ hB (lv_sub hl [0, 1, 2, 3, 4] rfl)
  exact lp_12 _ (I 28) (I 29) 0 (Nat.lt_succ_self _) (by omega) (rfl) _ _ _ (jB_cast2 hB (by first | exact (sr_id _ _).symm | (funext a_; simp +decide only [sr]; (repeat' split) <;> first | rfl | (exfalso; omega) | (subst_vars; rfl))) rfl) (lv_sub hl [0, 1, 2, 3, 4] rfl)

set_option maxHeartbeats 4000000 in
set_option maxRecDepth 100000 in
theorem c_X1_spread (l_ : Launch) (G : jG) (I : Nat → Nat → Int32) (J : Nat → Nat → Int64) (O : Nat → Nat → Nat) (fr : Nat) (sh : Int32) (hfr : fr < 8) {nd : Nat} (hnd : nd ≤ 10) (hD : I 0 0 = nI nd) (hW : wfD (I 0) nd) : jMv l_ G yX1_spread wsX1_spread ({ frames := 2, cells := 0, slots := 0, locals := 48 }) [.ref (G.2.2.1 (11, 0, 0)), .int (nI fr), .int sh] (I, J, O) (fun u => u = (sr (sr I 28 ((spF (I 0) (I 27) (I 28) (I 29) sh fr nd).1)) 29 ((spF (I 0) (I 27) (I 28) (I 29) sh fr nd).2), J, O)) := by
  refine jMv_of (cc := cX1_spread) (maxL := 5) (ret := none) (lv0 := [(0, .ref (G.2.2.1 (11, 0, 0))), (1, .int (nI fr)), (2, .int sh)]) (by decide) rfl (Nat.le_of_ble_eq_true rfl) rfl ?_
  intro pg_ ev_ s_ mi_ below meth cd_ A ls hC hB hl
  obtain ⟨hx, hb, hr, hml, hown, hts, hlocks, hK, hA⟩ := id hC
  have lk_22 := hts (.fieldLink RX1 22 "RiddlePrison$Foresight" "far" "[I") (by decide +kernel)
  have lk_25 := hts (.fieldLink RX1 25 "RiddlePrison$Foresight" "rows" "[I") (by decide +kernel)
  have in_X1 := (fun w h => List.mem_cons_of_mem _ (List.mem_append_left _ (List.mem_append_left _ (List.mem_append_right _ h))) : ∀ w ∈ wsX10, w ∈ wsX1_spread)
  refine lv_aload_n hx hb dX1_spread_0 rfl (lv_at hl 0 rfl) ?_
  refine j_get (11, 0, 0) 4 (v := .ref (G.2.2.1 (21, 28, 0))) hC hB in_X1 lk_22 dX1_spread_1 jk11 rfl rfl (by decide) rfl ?_
  refine lv_bipush (v := (-4 : Int32)) hx hb dX1_spread_4 (by decide) ?_
  refine j_csv [.ref (G.2.2.1 (21, 28, 0)), .int ((-4 : Int32))] hC hB hl.1 (c_J7_fill_53178 l_ G I J O 28 ((-4 : Int32)) (by omega)) (va_cwS 2 hts gX1_spread_J7_fill_53178 rfl rfl rfl (by decide +kernel) ⟨by decide, by decide⟩) dX1_spread_6 rfl rfl (Nat.le_of_ble_eq_true rfl) (fun u_6 H locs hp_6 hB => ?_)
  obtain rfl := hp_6
  have hB : jB G A s_.heap (sr I 28 (filI (I 28) ((-4 : Int32)) (lenI 28)), J, O) H locs := hB
  refine lv_aload_n hx hb dX1_spread_9 rfl (lv_at hl 0 rfl) ?_
  refine j_get (11, 0, 0) 5 (v := .ref (G.2.2.1 (21, 29, 0))) hC hB in_X1 lk_25 dX1_spread_10 jk11 rfl rfl (by decide) rfl ?_
  refine lv_iconst (v := nI 0) hx hb dX1_spread_13 (by decide) ?_
  refine j_csv [.ref (G.2.2.1 (21, 29, 0)), .int (nI 0)] hC hB hl.1 (c_J7_fill_53178 l_ G (sr I 28 (filI (I 28) ((-4 : Int32)) (lenI 28))) J O 29 (nI 0) (by omega)) (va_cwS 2 hts gX1_spread_J7_fill_53178 rfl rfl rfl (by decide +kernel) ⟨by decide, by decide⟩) dX1_spread_14 rfl rfl (Nat.le_of_ble_eq_true rfl) (fun u_14 H locs hp_14 hB => ?_)
  obtain rfl := hp_14
  have hB : jB G A s_.heap (sr (sr I 28 (filI (I 28) ((-4 : Int32)) (lenI 28))) 29 (filI (I 29) (nI 0) (lenI 29)), J, O) H locs := hB
  refine lv_aload_n hx hb dX1_spread_17 rfl (lv_at hl 0 rfl) ?_
  refine j_get (11, 0, 0) 4 (v := .ref (G.2.2.1 (21, 28, 0))) hC hB in_X1 lk_22 dX1_spread_18 jk11 rfl rfl (by decide) rfl ?_
  refine lv_iload_n hx hb dX1_spread_21 rfl (lv_at hl 1 rfl) ?_
  refine lv_iconst (v := nI 0) hx hb dX1_spread_22 (by decide) ?_
  refine j_iSt 28 fr hC hB dX1_spread_23 (by decide) rfl (by simp only [lenI_28]; omega) (fun H locs hB => ?_)
  have hB : jB G A s_.heap (sr (sr I 29 (filI (I 29) (nI 0) (lenI 29))) 28 (upd (filI (I 28) ((-4 : Int32)) (lenI 28)) fr (nI 0)), J, O) H locs := by rw [show sr (sr I 29 (filI (I 29) (nI 0) (lenI 29))) 28 (upd (filI (I 28) ((-4 : Int32)) (lenI 28)) fr (nI 0)) = u2 (sr (sr I 28 (filI (I 28) ((-4 : Int32)) (lenI 28))) 29 (filI (I 29) (nI 0) (lenI 29))) 28 fr (nI 0) from (u2_sr2 (show (28 : Nat) ≠ 29 by omega)).symm]; exact hB
  refine lv_aload_n hx hb dX1_spread_24 rfl (lv_at hl 0 rfl) ?_
  refine j_get (11, 0, 0) 5 (v := .ref (G.2.2.1 (21, 29, 0))) hC hB in_X1 lk_25 dX1_spread_25 jk11 rfl rfl (by decide) rfl ?_
  refine lv_iload_n hx hb dX1_spread_28 rfl (lv_at hl 1 rfl) ?_
  refine lv_iconst (v := nI 1) hx hb dX1_spread_29 (by decide) ?_
  refine j_iSt 29 fr hC hB dX1_spread_30 (by decide) rfl (by simp only [lenI_29]; omega) (fun H locs hB => ?_)
  have hB : jB G A s_.heap (sr (sr I 28 (upd (filI (I 28) ((-4 : Int32)) (lenI 28)) fr (nI 0))) 29 (upd (filI (I 29) (nI 0) (lenI 29)) fr (nI 1)), J, O) H locs := by rw [show sr (sr I 28 (upd (filI (I 28) ((-4 : Int32)) (lenI 28)) fr (nI 0))) 29 (upd (filI (I 29) (nI 0) (lenI 29)) fr (nI 1)) = u2 (sr (sr I 29 (filI (I 29) (nI 0) (lenI 29))) 28 (upd (filI (I 28) ((-4 : Int32)) (lenI 28)) fr (nI 0))) 29 fr (nI 1) from (u2_sr2 (show (29 : Nat) ≠ 28 by omega)).symm]; exact hB
  refine lv_iconst (v := nI 0) hx hb dX1_spread_31 (by decide) ?_
  refine lv_istore_n (lv' := [(3, .int (nI 0)), (0, .ref (G.2.2.1 (11, 0, 0))), (1, .int (nI fr)), (2, .int sh)]) hx hb dX1_spread_32 rfl hl (by decide) rfl (fun ls hl => ?_)
  have lp_33 : ∀ (fu : Nat) (f1 : Nat → Int32) (h1 : Nat → Int32) (n : Nat), 8 - n < fu → (n ≤ 8) → ((f1, h1) = it (spK (I 0) (I 27) sh nd) n (spI (I 28) (I 29) fr)) → ∀ H locs ls, jB G A s_.heap (sr (sr I 28 (f1)) 29 (h1), J, O) H locs → lv_has ls 5 [(3, .int (nI n)), (0, .ref (G.2.2.1 (11, 0, 0))), (1, .int (nI fr)), (2, .int sh)] → W pg_ l_ ev_ ({ frames := 2, cells := 0, slots := 0, locals := 48 }) s_ mi_ ([.ref (G.2.2.1 (11, 0, 0)), .int (nI fr), .int sh]).toArray below meth cd_ H locs 0 0 (jQv G A below [.ref (G.2.2.1 (11, 0, 0)), .int (nI fr), .int sh] s_ (fun u => u = (sr (sr I 28 ((spF (I 0) (I 27) (I 28) (I 29) sh fr nd).1)) 29 ((spF (I 0) (I 27) (I 28) (I 29) sh fr nd).2), J, O))) (F0 mi_ 33 ls []) := by
    intro fu
    induction fu with
    | zero => intro f1 h1 n hf; exact absurd hf (Nat.not_lt_zero _)
    | succ fu ih_33 =>
      intro f1 h1 n hf_33 hn8 he1 H locs ls hB hl
      refine lv_iload_n hx hb dX1_spread_33 rfl (lv_at hl 0 rfl) ?_
      refine lv_bipush (v := nI 8) hx hb dX1_spread_34 (by decide) ?_
      refine jn_icmp_ge (tgt := 79) hx hb dX1_spread_36 (by decide) (by omega) (by omega) (fun c_36 => ?_) (fun c_36 => ?_)
      · exact j_vret hC hB dX1_spread_79 (by rw [show spF (I 0) (I 27) (I 28) (I 29) sh fr nd = (f1, h1) from by rw [he1, show n = 8 by omega]; rfl])
      · refine lv_iconst (v := nI 0) hx hb dX1_spread_39 (by decide) ?_
        refine lv_istore (lv' := [(4, .int (nI 0)), (3, .int (nI n)), (0, .ref (G.2.2.1 (11, 0, 0))), (1, .int (nI fr)), (2, .int sh)]) hx hb dX1_spread_40 hl (by decide) rfl (fun ls hl => ?_)
        have lp_42 : ∀ (fu : Nat) (f2 : Nat → Int32) (h2 : Nat → Int32) (k : Nat), 8 - k < fu → (k ≤ 8) → ((f2, h2) = it (spC (I 0) (I 27) sh nd n) k (f1, h1)) → ∀ H locs ls, jB G A s_.heap (sr (sr I 28 (f2)) 29 (h2), J, O) H locs → lv_has ls 5 [(4, .int (nI k)), (3, .int (nI n)), (0, .ref (G.2.2.1 (11, 0, 0))), (1, .int (nI fr)), (2, .int sh)] → W pg_ l_ ev_ ({ frames := 2, cells := 0, slots := 0, locals := 48 }) s_ mi_ ([.ref (G.2.2.1 (11, 0, 0)), .int (nI fr), .int sh]).toArray below meth cd_ H locs 0 0 (jQv G A below [.ref (G.2.2.1 (11, 0, 0)), .int (nI fr), .int sh] s_ (fun u => u = (sr (sr I 28 ((spF (I 0) (I 27) (I 28) (I 29) sh fr nd).1)) 29 ((spF (I 0) (I 27) (I 28) (I 29) sh fr nd).2), J, O))) (F0 mi_ 42 ls []) := by
          intro fu
          induction fu with
          | zero => intro f2 h2 k hf; exact absurd hf (Nat.not_lt_zero _)
          | succ fu ih_42 =>
            intro f2 h2 k hf_42 hk8 he2 H locs ls hB hl
            refine lv_iload hx hb dX1_spread_42 (lv_at hl 0 rfl) ?_
            refine lv_bipush (v := nI 8) hx hb dX1_spread_44 (by decide) ?_
            refine jn_icmp_ge (tgt := 73) hx hb dX1_spread_46 (by decide) (by omega) (by omega) (fun c_46 => ?_) (fun c_46 => ?_)
            · refine lv_iinc (v := nI (n + 1)) (lv' := [(3, .int (nI (n + 1))), (4, .int (nI k)), (0, .ref (G.2.2.1 (11, 0, 0))), (1, .int (nI fr)), (2, .int sh)]) hx hb dX1_spread_73 hl (k := 1) rfl (jn_inc _ 1) (by decide) rfl (fun ls hl => ?_)
              refine lv_goto (tgt := 33) hx hb dX1_spread_76 (by decide) ?_
              exact ih_33 f2 h2 (n + 1) (by omega) (by omega) (by rw [it_s, ← he1, spK, he2, show k = 8 by omega]) _ _ _ hB (lv_sub hl [0, 2, 3, 4] rfl)
            · refine lv_aload_n hx hb dX1_spread_49 rfl (lv_at hl 2 rfl) ?_
              refine j_get (11, 0, 0) 4 (v := .ref (G.2.2.1 (21, 28, 0))) hC hB in_X1 lk_22 dX1_spread_50 jk11 rfl rfl (by decide) rfl ?_
              refine lv_iload hx hb dX1_spread_53 (lv_at hl 0 rfl) ?_
              refine j_iLd 28 k hC hB dX1_spread_55 (by decide) rfl (by simp only [lenI_28]; omega) ?_
              refine j_eqi (x := (sr (sr I 28 (f2)) 29 (h2)) 28 k) (y := f2 k) ((sr_nj (show (28 : Nat) ≠ 29 by omega)).trans (sr_sj)) ?_
              refine lv_iload_n hx hb dX1_spread_56 rfl (lv_at hl 1 rfl) ?_
              refine lv_icmp_ne (tgt := 67) hx hb dX1_spread_57 (by decide) (fun c_57 => ?_) (fun c_57 => ?_)
              · refine lv_iinc (v := nI (k + 1)) (lv' := [(4, .int (nI (k + 1))), (3, .int (nI n)), (0, .ref (G.2.2.1 (11, 0, 0))), (1, .int (nI fr)), (2, .int sh)]) hx hb dX1_spread_67 hl (k := 0) rfl (jn_inc _ 1) (by decide) rfl (fun ls hl => ?_)
                refine lv_goto (tgt := 42) hx hb dX1_spread_70 (by decide) ?_
                exact ih_42 f2 h2 (k + 1) (by omega) (by omega) (by rw [it_s, ← he2, spC, if_neg c_57]) _ _ _ hB (lv_sub hl [0, 1, 2, 3, 4] rfl)
              · refine lv_aload_n hx hb dX1_spread_60 rfl (lv_at hl 2 rfl) ?_
                refine lv_iload hx hb dX1_spread_61 (lv_at hl 0 rfl) ?_
                refine lv_iload_n hx hb dX1_spread_63 rfl (lv_at hl 4 rfl) ?_
                refine j_cvv (11, 0, 0) [.int (nI k), .int sh] hC hB hl.1 (c_X1_spreadOn l_ G (sr (sr I 28 (f2)) 29 (h2)) J O k sh (by omega) (by omega) ((sr_nj (show (0 : Nat) ≠ 29 by omega)).trans ((sr_nj (show (0 : Nat) ≠ 28 by omega)).trans (hD))) (hW)) (cwV 2 hts gX1_spread_X1_spreadOn rfl rfl rfl (by decide +kernel) ⟨by decide, by decide⟩) dX1_spread_64 jk11 rfl rfl rfl rfl (Nat.le_of_ble_eq_true rfl) (fun u_64 H locs hp_64 hB => ?_)
                obtain rfl := hp_64
                try simp only [show (sr (sr I 28 (f2)) 29 (h2)) 0 = I 0 from (sr_ne (show (0 : Nat) ≠ 29 by omega)).trans ((sr_ne (show (0 : Nat) ≠ 28 by omega))), show (sr (sr I 28 (f2)) 29 (h2)) 27 = I 27 from (sr_ne (show (27 : Nat) ≠ 29 by omega)).trans ((sr_ne (show (27 : Nat) ≠ 28 by omega))), show (sr (sr I 28 (f2)) 29 (h2)) 28 = f2 from (sr_ne (show (28 : Nat) ≠ 29 by omega)).trans (sr_self), show (sr (sr I 28 (f2)) 29 (h2)) 29 = h2 from sr_self] at hB
                have hB : jB G A s_.heap (sr (sr I 28 ((it (spD (I 0) (I 27) sh k (f2 k + nI 1)) nd (f2, h2)).1)) 29 ((it (spD (I 0) (I 27) sh k (f2 k + nI 1)) nd (f2, h2)).2), J, O) H locs := by (rw [show sr (sr I 28 ((it (spD (I 0) (I 27) sh k (f2 k + nI 1)) nd (f2, h2)).1)) 29 ((it (spD (I 0) (I 27) sh k (f2 k + nI 1)) nd (f2, h2)).2) = sr (sr (sr (sr I 28 (f2)) 29 (h2)) 28 ((it (spD (I 0) (I 27) sh k (f2 k + nI 1)) nd (f2, h2)).1)) 29 ((it (spD (I 0) (I 27) sh k (f2 k + nI 1)) nd (f2, h2)).2) from by funext a; simp +decide only [sr]; (repeat' split) <;> first | rfl | (exfalso; omega) | (subst_vars; rfl)]; exact hB)
                refine lv_iinc (v := nI (k + 1)) (lv' := [(4, .int (nI (k + 1))), (3, .int (nI n)), (0, .ref (G.2.2.1 (11, 0, 0))), (1, .int (nI fr)), (2, .int sh)]) hx hb dX1_spread_67 hl (k := 0) rfl (jn_inc _ 1) (by decide) rfl (fun ls hl => ?_)
                refine lv_goto (tgt := 42) hx hb dX1_spread_70 (by decide) ?_
                exact ih_42 ((it (spD (I 0) (I 27) sh k (f2 k + nI 1)) nd (f2, h2)).1) ((it (spD (I 0) (I 27) sh k (f2 k + nI 1)) nd (f2, h2)).2) (k + 1) (by omega) (by omega) (by rw [it_s, ← he2, spC, if_pos c_57]) _ _ _ hB (lv_sub hl [0, 1, 2, 3, 4] rfl)
        exact lp_42 _ f1 h1 0 (Nat.lt_succ_self _) (by omega) (rfl) _ _ _ hB (lv_sub hl [0, 1, 2, 3, 4] rfl)
  exact lp_33 _ (upd (filI (I 28) ((-4 : Int32)) (lenI 28)) fr (nI 0)) (upd (filI (I 29) (nI 0) (lenI 29)) fr (nI 1)) 0 (Nat.lt_succ_self _) (by omega) (rfl) _ _ _ hB (lv_sub hl [0, 1, 2, 3] rfl)
