set_option maxHeartbeats 4000000 in
set_option maxRecDepth 100000 in
theorem c_X1_firstDoorOfWay (l_ : Launch) (G : jG) (I : Nat → Nat → Int32) (J : Nat → Nat → Int64) (O : Nat → Nat → Nat) (here cell : Nat) (left : Int32) (op : Nat → Int32) (ho : ∀ j, j < 8 → I 27 j = op j) (hhe : here < 8) (hce : cell < 8) {nd : Nat} (hnd : nd ≤ 10) (hD : I 0 0 = nI nd) (hW : wfD (I 0) nd) : jMi l_ G yX1_firstDoorOfWay wsX1_firstDoorOfWay ({ frames := 4, cells := 0, slots := 0, locals := 95 }) [.ref (G.2.2.1 (11, 0, 0)), .int (nI here), .int (nI cell), .int left] (I, J, O) (fun r u => r = fdC (I 0) op nd here cell left ∧ ∃ (x28 x29 : Nat → Int32) , u = (sr (sr I 28 (x28)) 29 (x29), J, O)) := by
  refine jMi_of (cc := cX1_firstDoorOfWay) (maxL := 5) (ret := (some .int)) (lv0 := [(0, .ref (G.2.2.1 (11, 0, 0))), (1, .int (nI here)), (2, .int (nI cell)), (3, .int left)]) (by decide) rfl (Nat.le_of_ble_eq_true rfl) rfl ?_
  intro pg_ ev_ s_ mi_ below meth cd_ A ls hC hB hl
  obtain ⟨hx, hb, hr, hml, hown, hts, hlocks, hK, hA⟩ := id hC
  have lk_41 := hts (.fieldLink RX1 41 "RiddlePrison$Foresight" "prison" "LRiddlePrison$Prison;") (by decide +kernel)
  have ln_85 := (by decide +kernel : Cond.fieldLinkNest RX1 85 "RiddlePrison$Prison" "doorCount" "I" "RiddlePrison" ∈ nsW)
  have ln_92 := (by decide +kernel : Cond.fieldLinkNest RX1 92 "RiddlePrison$Prison" "doors" "[LRiddlePrison$Door;" "RiddlePrison" ∈ nsW)
  have in_X1 := (fun w h => List.mem_cons_of_mem _ (List.mem_append_left _ (List.mem_append_left _ (List.mem_append_right _ h))) : ∀ w ∈ wsX10, w ∈ wsX1_firstDoorOfWay)
  have in_X4 := (fun w h => List.mem_cons_of_mem _ (List.mem_append_left _ (List.mem_append_right _ h)) : ∀ w ∈ wsX40, w ∈ wsX1_firstDoorOfWay)
  refine lv_iconst (v := nI 0) hx hb dX1_firstDoorOfWay_0 (by decide) ?_
  refine lv_istore (lv' := [(4, .int (nI 0)), (0, .ref (G.2.2.1 (11, 0, 0))), (1, .int (nI here)), (2, .int (nI cell)), (3, .int left)]) hx hb dX1_firstDoorOfWay_1 hl (by decide) rfl (fun ls hl => ?_)
  have lp_3 : ∀ (fu : Nat) (f : Nat → Int32) (h : Nat → Int32) (d : Nat), nd - d < fu → (d ≤ nd) → (seI (fdP (I 0) op nd here cell left) (nd - d) d = fdC (I 0) op nd here cell left) → ∀ H locs ls, jB G A s_.heap (sr (sr I 28 (f)) 29 (h), J, O) H locs → lv_has ls 5 [(4, .int (nI d)), (0, .ref (G.2.2.1 (11, 0, 0))), (1, .int (nI here)), (2, .int (nI cell)), (3, .int left)] → W pg_ l_ ev_ ({ frames := 4, cells := 0, slots := 0, locals := 95 }) s_ mi_ ([.ref (G.2.2.1 (11, 0, 0)), .int (nI here), .int (nI cell), .int left]).toArray below meth cd_ H locs 0 0 (jQi G A below [.ref (G.2.2.1 (11, 0, 0)), .int (nI here), .int (nI cell), .int left] s_ (fun r u => r = fdC (I 0) op nd here cell left ∧ ∃ (x28 x29 : Nat → Int32) , u = (sr (sr I 28 (x28)) 29 (x29), J, O))) (F0 mi_ 3 ls []) := by
    intro fu
    induction fu with
    | zero => intro f h d hf; exact absurd hf (Nat.not_lt_zero _)
    | succ fu ih_3 =>
      intro f h d hf_3 hd hs H locs ls hB hl
      refine lv_iload hx hb dX1_firstDoorOfWay_3 (lv_at hl 0 rfl) ?_
      refine lv_aload_n hx hb dX1_firstDoorOfWay_5 rfl (lv_at hl 1 rfl) ?_
      refine j_get (11, 0, 0) 0 (v := .ref (G.2.2.1 (1, 0, 0))) hC hB in_X1 lk_41 dX1_firstDoorOfWay_6 jk11 rfl rfl (by decide) rfl ?_
      refine j_getN (1, 0, 0) 2 (v := .int ((sr (sr I 28 (f)) 29 (h)) 0 0)) hC hB in_X4 ln_85 dX1_firstDoorOfWay_9 (jk1 (by omega)) rfl rfl (by decide) rfl ?_
      refine j_eqi (x := (sr (sr I 28 (f)) 29 (h)) 0 0) (y := nI nd) ((sr_nj (show (0 : Nat) ≠ 29 by omega)).trans ((sr_nj (show (0 : Nat) ≠ 28 by omega)).trans (hD))) ?_
      refine jn_icmp_ge (tgt := 61) hx hb dX1_firstDoorOfWay_12 (by decide) (by omega) (by omega) (fun c_12 => ?_) (fun c_12 => ?_)
      · refine lv_bipush (v := (-4 : Int32)) hx hb dX1_firstDoorOfWay_61 (by decide) ?_
        exact j_iret hC hB dX1_firstDoorOfWay_63 (⟨by rw [← hs, show nd - d = 0 by omega]; rfl, _, _, rfl⟩)
      · refine lv_aload_n hx hb dX1_firstDoorOfWay_15 rfl (lv_at hl 1 rfl) ?_
        refine lv_iload_n hx hb dX1_firstDoorOfWay_16 rfl (lv_at hl 2 rfl) ?_
        refine lv_iload hx hb dX1_firstDoorOfWay_17 (lv_at hl 0 rfl) ?_
        refine lv_iconst (v := nI 0) hx hb dX1_firstDoorOfWay_19 (by decide) ?_
        refine j_cvi (11, 0, 0) [.int (nI here), .int (nI d), .int (nI 0)] hC hB hl.1 (c_X1_isOpen l_ G (sr (sr I 28 (f)) 29 (h)) J O here d (nI 0) (by omega)) (cwV 3 hts gX1_firstDoorOfWay_X1_isOpen rfl rfl rfl (by decide +kernel) ⟨by decide, by decide⟩) dX1_firstDoorOfWay_20 jk11 rfl rfl rfl rfl (Nat.le_of_ble_eq_true rfl) (fun r_20 u_20 H locs hp_20 hB => ?_)
        obtain ⟨rfl, rfl⟩ := hp_20
        refine j_eqi (y := b2 (ioB (I 27) here d (nI 0))) (rfl) ?_
        refine j_eqi (y := b2 (ioB op here d (nI 0))) (by rw [ioB_cong (ho _ hhe)]) ?_
        refine jb_if_eq (tgt := 55) hx hb dX1_firstDoorOfWay_23 (by decide) (fun c_23 => ?_) (fun c_23 => ?_)
        · refine lv_iinc (v := nI (d + 1)) (lv' := [(4, .int (nI (d + 1))), (0, .ref (G.2.2.1 (11, 0, 0))), (1, .int (nI here)), (2, .int (nI cell)), (3, .int left)]) hx hb dX1_firstDoorOfWay_55 hl (k := 0) rfl (jn_inc _ 1) (by decide) rfl (fun ls hl => ?_)
          refine lv_goto (tgt := 3) hx hb dX1_firstDoorOfWay_58 (by decide) ?_
          exact ih_3 f h (d + 1) (by omega) (by omega) (by rw [← hs]; exact (seI_no (by omega) (by simp [fdP, c_23])).symm) _ _ _ hB (lv_sub hl [0, 1, 2, 3, 4] rfl)
        · refine lv_aload_n hx hb dX1_firstDoorOfWay_26 rfl (lv_at hl 1 rfl) ?_
          refine lv_aload_n hx hb dX1_firstDoorOfWay_27 rfl (lv_at hl 1 rfl) ?_
          refine j_get (11, 0, 0) 0 (v := .ref (G.2.2.1 (1, 0, 0))) hC hB in_X1 lk_41 dX1_firstDoorOfWay_28 jk11 rfl rfl (by decide) rfl ?_
          refine j_getN (1, 0, 0) 0 (v := .ref (G.2.2.1 (2, 0, 0))) hC hB in_X4 ln_92 dX1_firstDoorOfWay_31 (jk1 (by omega)) rfl rfl (by decide) rfl ?_
          refine lv_iload hx hb dX1_firstDoorOfWay_34 (lv_at hl 0 rfl) ?_
          refine j_ald (2, 0, 0) (4, 0, d) 3 d hC hB dX1_firstDoorOfWay_36 (jk2 (by omega)) rfl rfl rfl (by omega) (by decide) rfl ?_
          refine lv_iload_n hx hb dX1_firstDoorOfWay_37 rfl (lv_at hl 2 rfl) ?_
          refine j_cvi (4, 0, d) [.int (nI here)] hC hB hl.1 (c_X0_beyond l_ G (sr (sr I 28 (f)) 29 (h)) J O 0 d (nI here) ((jk4 (by omega) (by omega)))) (cwV 1 hts gX1_firstDoorOfWay_X0_beyond rfl rfl rfl (by decide +kernel) ⟨by decide, by decide⟩) dX1_firstDoorOfWay_38 (jk4 (by omega) (by omega)) rfl rfl rfl rfl (Nat.le_of_ble_eq_true rfl) (fun r_38 u_38 H locs hp_38 hB => ?_)
          obtain ⟨rfl, rfl⟩ := hp_38
          refine j_eqi (y := beF (I 0) d (nI here)) (rfl) ?_
          have hbe := be_ok (c := here) hW (show d < nd by omega)
          refine j_eqi hbe.1 ?_
          refine lv_iload_n hx hb dX1_firstDoorOfWay_41 rfl (lv_at hl 3 rfl) ?_
          refine lv_iconst (v := nI 0) hx hb dX1_firstDoorOfWay_42 (by decide) ?_
          refine j_cvi (11, 0, 0) [.int (nI (beN (I 0) d here)), .int (nI cell), .int (nI 0)] hC hB hl.1 (c_X1_distance l_ G (sr (sr I 28 (f)) 29 (h)) J O (beN (I 0) d here) cell (nI 0) (op) (ho) (by omega) (by omega) (by omega) ((sr_nj (show (0 : Nat) ≠ 29 by omega)).trans ((sr_nj (show (0 : Nat) ≠ 28 by omega)).trans (hD))) (hW)) (cwV 3 hts gX1_firstDoorOfWay_X1_distance rfl rfl rfl (by decide +kernel) ⟨by decide, by decide⟩) dX1_firstDoorOfWay_43 jk11 rfl rfl rfl rfl (Nat.le_of_ble_eq_true rfl) (fun r_43 u_43 H locs hp_43 hB => ?_)
          obtain ⟨hr_43, x28_43, x29_43, rfl⟩ := hp_43
          try simp only [show (sr (sr I 28 (f)) 29 (h)) 0 = I 0 from (sr_ne (show (0 : Nat) ≠ 29 by omega)).trans ((sr_ne (show (0 : Nat) ≠ 28 by omega)))] at hr_43
          try simp only [show (sr (sr I 28 (f)) 29 (h)) 0 = I 0 from (sr_ne (show (0 : Nat) ≠ 29 by omega)).trans ((sr_ne (show (0 : Nat) ≠ 28 by omega)))] at hB
          have hB : jB G A s_.heap (sr (sr I 28 (x28_43)) 29 (x29_43), J, O) H locs := by (rw [show sr (sr I 28 (x28_43)) 29 (x29_43) = sr (sr (sr (sr I 28 (f)) 29 (h)) 28 (x28_43)) 29 (x29_43) from by funext a; simp +decide only [sr]; (repeat' split) <;> first | rfl | (exfalso; omega) | (subst_vars; rfl)]; exact hB)
          refine j_eqi (y := (spZ (I 0) op (nI 0) (beN (I 0) d here) nd).1 cell) hr_43 ?_
          refine lv_iload_n hx hb dX1_firstDoorOfWay_46 rfl (lv_at hl 4 rfl) ?_
          refine lv_iconst (v := nI 1) hx hb dX1_firstDoorOfWay_47 (by decide) ?_
          refine lv_isub hx hb dX1_firstDoorOfWay_48 ?_
          refine lv_icmp_ne (tgt := 55) hx hb dX1_firstDoorOfWay_49 (by decide) (fun c_49 => ?_) (fun c_49 => ?_)
          · refine lv_iinc (v := nI (d + 1)) (lv' := [(4, .int (nI (d + 1))), (0, .ref (G.2.2.1 (11, 0, 0))), (1, .int (nI here)), (2, .int (nI cell)), (3, .int left)]) hx hb dX1_firstDoorOfWay_55 hl (k := 0) rfl (jn_inc _ 1) (by decide) rfl (fun ls hl => ?_)
            refine lv_goto (tgt := 3) hx hb dX1_firstDoorOfWay_58 (by decide) ?_
            exact ih_3 x28_43 x29_43 (d + 1) (by omega) (by omega) (by rw [← hs]; exact (seI_no (by omega) (by simp [fdP, c_23, c_49])).symm) _ _ _ hB (lv_sub hl [0, 1, 2, 3, 4] rfl)
          · refine lv_iload hx hb dX1_firstDoorOfWay_52 (lv_at hl 0 rfl) ?_
            exact j_iret hC hB dX1_firstDoorOfWay_54 (⟨by rw [← hs]; exact (seI_yes (by omega) (by simp [fdP, c_23, c_49])).symm, _, _, rfl⟩)
  exact lp_3 _ (I 28) (I 29) 0 (Nat.lt_succ_self _) (by omega) (rfl) _ _ _ (jB_cast2 hB (by first | exact (sr_id _ _).symm | (funext a_; simp +decide only [sr]; (repeat' split) <;> first | rfl | (exfalso; omega) | (subst_vars; rfl))) rfl) (lv_sub hl [0, 1, 2, 3, 4] rfl)

set_option maxHeartbeats 4000000 in
set_option maxRecDepth 100000 in
theorem c_X1_doorOfWay (l_ : Launch) (G : jG) (I : Nat → Nat → Int32) (J : Nat → Nat → Int64) (O : Nat → Nat → Nat) (cell : Nat) (k : Int32) (op : Nat → Int32) (ho : ∀ j, j < 8 → I 27 j = op j) (hce : cell < 8) {L : Int32} {ln : Nat} (hL : I 28 cell = L ∧ (L = nI ln ∨ (L < 0 ∧ ln = 0))) (hln : ln < 2147483647) {st : Nat} (hst : st < 8) (hSt : I 26 0 = nI st) {nd : Nat} (hnd : nd ≤ 10) (hD : I 0 0 = nI nd) (hW : wfD (I 0) nd) : jMi l_ G yX1_doorOfWay wsX1_doorOfWay ({ frames := 5, cells := 0, slots := 0, locals := 119 }) [.ref (G.2.2.1 (11, 0, 0)), .int (nI cell), .int k] (I, J, O) (fun r u => r = dwC (I 0) op nd cell L k ln 0 st ∧ ∃ (x28 x29 : Nat → Int32) , u = (sr (sr I 28 (x28)) 29 (x29), J, O)) := by
  refine jMi_of (cc := cX1_doorOfWay) (maxL := 7) (ret := (some .int)) (lv0 := [(0, .ref (G.2.2.1 (11, 0, 0))), (1, .int (nI cell)), (2, .int k)]) (by decide) rfl (Nat.le_of_ble_eq_true rfl) rfl ?_
  intro pg_ ev_ s_ mi_ below meth cd_ A ls hC hB hl
  obtain ⟨hx, hb, hr, hml, hown, hts, hlocks, hK, hA⟩ := id hC
  have lk_63 := hts (.fieldLink RX1 63 "RiddlePrison$Foresight" "start" "I") (by decide +kernel)
  have lk_22 := hts (.fieldLink RX1 22 "RiddlePrison$Foresight" "far" "[I") (by decide +kernel)
  have lk_41 := hts (.fieldLink RX1 41 "RiddlePrison$Foresight" "prison" "LRiddlePrison$Prison;") (by decide +kernel)
  have ln_92 := (by decide +kernel : Cond.fieldLinkNest RX1 92 "RiddlePrison$Prison" "doors" "[LRiddlePrison$Door;" "RiddlePrison" ∈ nsW)
  have in_X1 := (fun w h => List.mem_cons_of_mem _ (List.mem_append_left _ (List.mem_append_left _ (List.mem_append_right _ h))) : ∀ w ∈ wsX10, w ∈ wsX1_doorOfWay)
  have in_X4 := (fun w h => List.mem_cons_of_mem _ (List.mem_append_left _ (List.mem_append_right _ h)) : ∀ w ∈ wsX40, w ∈ wsX1_doorOfWay)
  refine lv_aload_n hx hb dX1_doorOfWay_0 rfl (lv_at hl 0 rfl) ?_
  refine j_get (11, 0, 0) 2 (v := .int (I 26 0)) hC hB in_X1 lk_63 dX1_doorOfWay_1 jk11 rfl rfl (by decide) rfl ?_
  refine j_eqi (x := I 26 0) (y := nI st) (hSt) ?_
  refine lv_istore_n (lv' := [(3, .int (nI st)), (0, .ref (G.2.2.1 (11, 0, 0))), (1, .int (nI cell)), (2, .int k)]) hx hb dX1_doorOfWay_4 rfl hl (by decide) rfl (fun ls hl => ?_)
  refine lv_aload_n hx hb dX1_doorOfWay_5 rfl (lv_at hl 1 rfl) ?_
  refine j_get (11, 0, 0) 4 (v := .ref (G.2.2.1 (21, 28, 0))) hC hB in_X1 lk_22 dX1_doorOfWay_6 jk11 rfl rfl (by decide) rfl ?_
  refine lv_iload_n hx hb dX1_doorOfWay_9 rfl (lv_at hl 2 rfl) ?_
  refine j_iLd 28 cell hC hB dX1_doorOfWay_10 (by decide) rfl (by simp only [lenI_28]; omega) ?_
  refine j_eqi (x := I 28 cell) (y := L) (hL.1) ?_
  refine lv_istore (lv' := [(4, .int L), (3, .int (nI st)), (0, .ref (G.2.2.1 (11, 0, 0))), (1, .int (nI cell)), (2, .int k)]) hx hb dX1_doorOfWay_11 hl (by decide) rfl (fun ls hl => ?_)
  refine lv_iconst (v := nI 0) hx hb dX1_doorOfWay_13 (by decide) ?_
  refine lv_istore (lv' := [(5, .int (nI 0)), (4, .int L), (3, .int (nI st)), (0, .ref (G.2.2.1 (11, 0, 0))), (1, .int (nI cell)), (2, .int k)]) hx hb dX1_doorOfWay_14 hl (by decide) rfl (fun ls hl => ?_)
  have lp_16 : ∀ (fu : Nat) (f : Nat → Int32) (h : Nat → Int32) (here : Nat) (dn : Nat), ln - dn < fu → (here < 8) → (dn ≤ ln) → (dwC (I 0) op nd cell L k (ln - dn) dn here = dwC (I 0) op nd cell L k ln 0 st) → ∀ H locs ls, jB G A s_.heap (sr (sr I 28 (f)) 29 (h), J, O) H locs → lv_has ls 7 [(5, .int (nI dn)), (4, .int L), (3, .int (nI here)), (0, .ref (G.2.2.1 (11, 0, 0))), (1, .int (nI cell)), (2, .int k)] → W pg_ l_ ev_ ({ frames := 5, cells := 0, slots := 0, locals := 119 }) s_ mi_ ([.ref (G.2.2.1 (11, 0, 0)), .int (nI cell), .int k]).toArray below meth cd_ H locs 0 0 (jQi G A below [.ref (G.2.2.1 (11, 0, 0)), .int (nI cell), .int k] s_ (fun r u => r = dwC (I 0) op nd cell L k ln 0 st ∧ ∃ (x28 x29 : Nat → Int32) , u = (sr (sr I 28 (x28)) 29 (x29), J, O))) (F0 mi_ 16 ls []) := by
    intro fu
    induction fu with
    | zero => intro f h here dn hf; exact absurd hf (Nat.not_lt_zero _)
    | succ fu ih_16 =>
      intro f h here dn hf_16 hhe hdn hs H locs ls hB hl
      refine lv_iload hx hb dX1_doorOfWay_16 (lv_at hl 0 rfl) ?_
      refine lv_iload hx hb dX1_doorOfWay_18 (lv_at hl 1 rfl) ?_
      refine lv_icmp_ge (tgt := 71) hx hb dX1_doorOfWay_20 (by decide) (fun c_20 => ?_) (fun c_20 => ?_)
      · refine lv_bipush (v := (-4 : Int32)) hx hb dX1_doorOfWay_71 (by decide) ?_
        exact j_iret hC hB dX1_doorOfWay_73 (⟨by rw [← hs, show ln - dn = 0 by have := len_ge hL.2 (by omega) (by omega) c_20; omega]; rfl, _, _, rfl⟩)
      · refine lv_aload_n hx hb dX1_doorOfWay_23 rfl (lv_at hl 3 rfl) ?_
        refine lv_iload_n hx hb dX1_doorOfWay_24 rfl (lv_at hl 2 rfl) ?_
        refine lv_iload_n hx hb dX1_doorOfWay_25 rfl (lv_at hl 4 rfl) ?_
        refine lv_iload hx hb dX1_doorOfWay_26 (lv_at hl 1 rfl) ?_
        refine lv_iload hx hb dX1_doorOfWay_28 (lv_at hl 0 rfl) ?_
        refine lv_isub hx hb dX1_doorOfWay_30 ?_
        refine j_cvi (11, 0, 0) [.int (nI here), .int (nI cell), .int (L - (nI dn))] hC hB hl.1 (c_X1_firstDoorOfWay l_ G (sr (sr I 28 (f)) 29 (h)) J O here cell (L - (nI dn)) (op) (ho) (by omega) (by omega) (by omega) ((sr_nj (show (0 : Nat) ≠ 29 by omega)).trans ((sr_nj (show (0 : Nat) ≠ 28 by omega)).trans (hD))) (hW)) (cwV 3 hts gX1_doorOfWay_X1_firstDoorOfWay rfl rfl rfl (by decide +kernel) ⟨by decide, by decide⟩) dX1_doorOfWay_31 jk11 rfl rfl rfl rfl (Nat.le_of_ble_eq_true rfl) (fun r_31 u_31 H locs hp_31 hB => ?_)
        obtain ⟨hr_31, x28_31, x29_31, rfl⟩ := hp_31
        try simp only [show (sr (sr I 28 (f)) 29 (h)) 0 = I 0 from (sr_ne (show (0 : Nat) ≠ 29 by omega)).trans ((sr_ne (show (0 : Nat) ≠ 28 by omega)))] at hr_31
        try simp only [show (sr (sr I 28 (f)) 29 (h)) 0 = I 0 from (sr_ne (show (0 : Nat) ≠ 29 by omega)).trans ((sr_ne (show (0 : Nat) ≠ 28 by omega)))] at hB
        have hB : jB G A s_.heap (sr (sr I 28 (x28_31)) 29 (x29_31), J, O) H locs := by (rw [show sr (sr I 28 (x28_31)) 29 (x29_31) = sr (sr (sr (sr I 28 (f)) 29 (h)) 28 (x28_31)) 29 (x29_31) from by funext a; simp +decide only [sr]; (repeat' split) <;> first | rfl | (exfalso; omega) | (subst_vars; rfl)]; exact hB)
        refine j_eqi (y := fdC (I 0) op nd here cell (L - (nI dn))) hr_31 ?_
        refine lv_istore (lv' := [(6, .int (fdC (I 0) op nd here cell (L - (nI dn)))), (5, .int (nI dn)), (4, .int L), (3, .int (nI here)), (0, .ref (G.2.2.1 (11, 0, 0))), (1, .int (nI cell)), (2, .int k)]) hx hb dX1_doorOfWay_34 hl (by decide) rfl (fun ls hl => ?_)
        refine lv_iload hx hb dX1_doorOfWay_36 (lv_at hl 0 rfl) ?_
        refine lv_if_lt (tgt := 47) hx hb dX1_doorOfWay_38 (by decide) (fun c_38 => ?_) (fun c_38 => ?_)
        · refine lv_iload hx hb dX1_doorOfWay_47 (lv_at hl 0 rfl) ?_
          exact j_iret hC hB dX1_doorOfWay_49 (⟨by rw [← hs]; exact (dwC_end (len_lt hL.2 (by omega) (by omega) c_20) (Or.inl c_38)).symm, _, _, rfl⟩)
        · refine lv_iload hx hb dX1_doorOfWay_41 (lv_at hl 1 rfl) ?_
          refine lv_iload_n hx hb dX1_doorOfWay_43 rfl (lv_at hl 6 rfl) ?_
          refine lv_icmp_ne (tgt := 50) hx hb dX1_doorOfWay_44 (by decide) (fun c_44 => ?_) (fun c_44 => ?_)
          · refine lv_aload_n hx hb dX1_doorOfWay_50 rfl (lv_at hl 4 rfl) ?_
            refine j_get (11, 0, 0) 0 (v := .ref (G.2.2.1 (1, 0, 0))) hC hB in_X1 lk_41 dX1_doorOfWay_51 jk11 rfl rfl (by decide) rfl ?_
            refine j_getN (1, 0, 0) 0 (v := .ref (G.2.2.1 (2, 0, 0))) hC hB in_X4 ln_92 dX1_doorOfWay_54 (jk1 (by omega)) rfl rfl (by decide) rfl ?_
            refine lv_iload hx hb dX1_doorOfWay_57 (lv_at hl 0 rfl) ?_
            have hfd := fdC_ok hnd c_38
            refine j_eqi hfd.1 ?_
            refine j_ald (2, 0, 0) (4, 0, tN (fdC (I 0) op nd here cell (L - nI dn))) 3 (tN (fdC (I 0) op nd here cell (L - nI dn))) hC hB dX1_doorOfWay_59 (jk2 (by omega)) rfl rfl rfl (by omega) (by decide) rfl ?_
            refine lv_iload_n hx hb dX1_doorOfWay_60 rfl (lv_at hl 3 rfl) ?_
            refine j_cvi (4, 0, tN (fdC (I 0) op nd here cell (L - nI dn))) [.int (nI here)] hC hB hl.1 (c_X0_beyond l_ G (sr (sr I 28 (x28_31)) 29 (x29_31)) J O 0 (tN (fdC (I 0) op nd here cell (L - nI dn))) (nI here) ((jk4 (by omega) (by omega)))) (cwV 1 hts gX1_doorOfWay_X0_beyond rfl rfl rfl (by decide +kernel) ⟨by decide, by decide⟩) dX1_doorOfWay_61 (jk4 (by omega) (by omega)) rfl rfl rfl rfl (Nat.le_of_ble_eq_true rfl) (fun r_61 u_61 H locs hp_61 hB => ?_)
            obtain ⟨rfl, rfl⟩ := hp_61
            refine j_eqi (y := beF (I 0) (tN (fdC (I 0) op nd here cell (L - nI dn))) (nI here)) (rfl) ?_
            have hbe := be_ok (c := here) hW (show (tN (fdC (I 0) op nd here cell (L - nI dn))) < nd by omega)
            refine j_eqi hbe.1 ?_
            refine lv_istore_n (lv' := [(3, .int (nI (beN (I 0) (tN (fdC (I 0) op nd here cell (L - nI dn))) here))), (6, .int (fdC (I 0) op nd here cell (L - (nI dn)))), (5, .int (nI dn)), (4, .int L), (0, .ref (G.2.2.1 (11, 0, 0))), (1, .int (nI cell)), (2, .int k)]) hx hb dX1_doorOfWay_64 rfl hl (by decide) rfl (fun ls hl => ?_)
            refine lv_iinc (v := nI (dn + 1)) (lv' := [(5, .int (nI (dn + 1))), (3, .int (nI (beN (I 0) (tN (fdC (I 0) op nd here cell (L - nI dn))) here))), (6, .int (fdC (I 0) op nd here cell (L - (nI dn)))), (4, .int L), (0, .ref (G.2.2.1 (11, 0, 0))), (1, .int (nI cell)), (2, .int k)]) hx hb dX1_doorOfWay_65 hl (k := 2) rfl (jn_inc _ 1) (by decide) rfl (fun ls hl => ?_)
            refine lv_goto (tgt := 16) hx hb dX1_doorOfWay_68 (by decide) ?_
            exact ih_16 x28_31 x29_31 (beN (I 0) (tN (fdC (I 0) op nd here cell (L - nI dn))) here) (dn + 1) (by have := len_lt hL.2 (by omega) (by omega) c_20; omega) (hbe.2) (by have := len_lt hL.2 (by omega) (by omega) c_20; omega) (by rw [← hs]; exact (dwC_on (len_lt hL.2 (by omega) (by omega) c_20) c_38 c_44).symm) _ _ _ hB (lv_sub hl [0, 3, 1, 4, 5, 6] rfl)
          · refine lv_iload hx hb dX1_doorOfWay_47 (lv_at hl 0 rfl) ?_
            exact j_iret hC hB dX1_doorOfWay_49 (⟨by rw [← hs]; exact (dwC_end (len_lt hL.2 (by omega) (by omega) c_20) (Or.inr c_44)).symm, _, _, rfl⟩)
  exact lp_16 _ (I 28) (I 29) st 0 (Nat.lt_succ_self _) (by omega) (by omega) (rfl) _ _ _ (jB_cast2 hB (by first | exact (sr_id _ _).symm | (funext a_; simp +decide only [sr]; (repeat' split) <;> first | rfl | (exfalso; omega) | (subst_vars; rfl))) rfl) (lv_sub hl [0, 1, 2, 3, 4, 5] rfl)

set_option maxHeartbeats 4000000 in
set_option maxRecDepth 100000 in
theorem c_X1_leastCut (l_ : Launch) (G : jG) (I : Nat → Nat → Int32) (J : Nat → Nat → Int64) (O : Nat → Nat → Nat) (cell : Nat) (op : Nat → Int32) (ho : ∀ j, j < 8 → I 27 j = op j) (hce : cell < 8) {st : Nat} (hst : st < 8) (hSt : I 26 0 = nI st) {nd : Nat} (hnd : nd ≤ 10) (hD : I 0 0 = nI nd) (hW : wfD (I 0) nd) : jMi l_ G yX1_leastCut wsX1_leastCut ({ frames := 4, cells := 0, slots := 0, locals := 95 }) [.ref (G.2.2.1 (11, 0, 0)), .int (nI cell)] (I, J, O) (fun r u => r = lcC (I 0) op nd st cell ∧ ∃ (x28 x29 : Nat → Int32) , u = (sr (sr I 28 (x28)) 29 (x29), J, O)) := by
  refine jMi_of (cc := cX1_leastCut) (maxL := 4) (ret := (some .int)) (lv0 := [(0, .ref (G.2.2.1 (11, 0, 0))), (1, .int (nI cell))]) (by decide) rfl (Nat.le_of_ble_eq_true rfl) rfl ?_
  intro pg_ ev_ s_ mi_ below meth cd_ A ls hC hB hl
  obtain ⟨hx, hb, hr, hml, hown, hts, hlocks, hK, hA⟩ := id hC
  have lk_63 := hts (.fieldLink RX1 63 "RiddlePrison$Foresight" "start" "I") (by decide +kernel)
  have lk_41 := hts (.fieldLink RX1 41 "RiddlePrison$Foresight" "prison" "LRiddlePrison$Prison;") (by decide +kernel)
  have ln_85 := (by decide +kernel : Cond.fieldLinkNest RX1 85 "RiddlePrison$Prison" "doorCount" "I" "RiddlePrison" ∈ nsW)
  have in_X1 := (fun w h => List.mem_cons_of_mem _ (List.mem_append_left _ (List.mem_append_left _ (List.mem_append_right _ h))) : ∀ w ∈ wsX10, w ∈ wsX1_leastCut)
  have in_X4 := (fun w h => List.mem_cons_of_mem _ (List.mem_append_left _ (List.mem_append_right _ h)) : ∀ w ∈ wsX40, w ∈ wsX1_leastCut)
  have h2n := two_le nd hnd
  refine lv_iload_n hx hb dX1_leastCut_0 rfl (lv_at hl 1 rfl) ?_
  refine lv_aload_n hx hb dX1_leastCut_1 rfl (lv_at hl 0 rfl) ?_
  refine j_get (11, 0, 0) 2 (v := .int (I 26 0)) hC hB in_X1 lk_63 dX1_leastCut_2 jk11 rfl rfl (by decide) rfl ?_
  refine j_eqi (x := I 26 0) (y := nI st) (hSt) ?_
  refine jn_icmp_ne (tgt := 11) hx hb dX1_leastCut_5 (by decide) (by omega) (by omega) (fun c_5 => ?_) (fun c_5 => ?_)
  · refine lv_iconst (v := nI 0) hx hb dX1_leastCut_11 (by decide) ?_
    refine lv_istore_n (lv' := [(2, .int (nI 0)), (0, .ref (G.2.2.1 (11, 0, 0))), (1, .int (nI cell))]) hx hb dX1_leastCut_12 rfl hl (by decide) rfl (fun ls hl => ?_)
    have lp_13 : ∀ (fu : Nat) (f : Nat → Int32) (h : Nat → Int32) (size : Nat), nd + 1 - size < fu → (size ≤ nd + 1) → (lcO (I 0) op nd st cell (nd + 1 - size) size = lcC (I 0) op nd st cell) → ∀ H locs ls, jB G A s_.heap (sr (sr I 28 (f)) 29 (h), J, O) H locs → lv_has ls 4 [(2, .int (nI size)), (0, .ref (G.2.2.1 (11, 0, 0))), (1, .int (nI cell))] → W pg_ l_ ev_ ({ frames := 4, cells := 0, slots := 0, locals := 95 }) s_ mi_ ([.ref (G.2.2.1 (11, 0, 0)), .int (nI cell)]).toArray below meth cd_ H locs 0 0 (jQi G A below [.ref (G.2.2.1 (11, 0, 0)), .int (nI cell)] s_ (fun r u => r = lcC (I 0) op nd st cell ∧ ∃ (x28 x29 : Nat → Int32) , u = (sr (sr I 28 (x28)) 29 (x29), J, O))) (F0 mi_ 13 ls []) := by
      intro fu
      induction fu with
      | zero => intro f h size hf; exact absurd hf (Nat.not_lt_zero _)
      | succ fu ih_13 =>
        intro f h size hf_13 hsz hs H locs ls hB hl
        refine lv_iload_n hx hb dX1_leastCut_13 rfl (lv_at hl 0 rfl) ?_
        refine lv_aload_n hx hb dX1_leastCut_14 rfl (lv_at hl 1 rfl) ?_
        refine j_get (11, 0, 0) 0 (v := .ref (G.2.2.1 (1, 0, 0))) hC hB in_X1 lk_41 dX1_leastCut_15 jk11 rfl rfl (by decide) rfl ?_
        refine j_getN (1, 0, 0) 2 (v := .int ((sr (sr I 28 (f)) 29 (h)) 0 0)) hC hB in_X4 ln_85 dX1_leastCut_18 (jk1 (by omega)) rfl rfl (by decide) rfl ?_
        refine j_eqi (x := (sr (sr I 28 (f)) 29 (h)) 0 0) (y := nI nd) ((sr_nj (show (0 : Nat) ≠ 29 by omega)).trans ((sr_nj (show (0 : Nat) ≠ 28 by omega)).trans (hD))) ?_
        refine jn_icmp_gt (tgt := 74) hx hb dX1_leastCut_21 (by decide) (by omega) (by omega) (fun c_21 => ?_) (fun c_21 => ?_)
        · refine lv_bipush (v := (-4 : Int32)) hx hb dX1_leastCut_74 (by decide) ?_
          exact j_iret hC hB dX1_leastCut_76 (⟨by rw [← hs, show nd + 1 - size = 0 by omega]; rfl, _, _, rfl⟩)
        · refine lv_iconst (v := nI 0) hx hb dX1_leastCut_24 (by decide) ?_
          refine lv_istore_n (lv' := [(3, .int (nI 0)), (2, .int (nI size)), (0, .ref (G.2.2.1 (11, 0, 0))), (1, .int (nI cell))]) hx hb dX1_leastCut_25 rfl hl (by decide) rfl (fun ls hl => ?_)
          have lp_26 : ∀ (fu : Nat) (f2 : Nat → Int32) (h2 : Nat → Int32) (s : Nat), 2 ^ nd - s < fu → (s ≤ 2 ^ nd) → (seI (lcP (I 0) op nd st cell size) (2 ^ nd - s) s = seI (lcP (I 0) op nd st cell size) (2 ^ nd) 0) → ∀ H locs ls, jB G A s_.heap (sr (sr I 28 (f2)) 29 (h2), J, O) H locs → lv_has ls 4 [(3, .int (nI s)), (2, .int (nI size)), (0, .ref (G.2.2.1 (11, 0, 0))), (1, .int (nI cell))] → W pg_ l_ ev_ ({ frames := 4, cells := 0, slots := 0, locals := 95 }) s_ mi_ ([.ref (G.2.2.1 (11, 0, 0)), .int (nI cell)]).toArray below meth cd_ H locs 0 0 (jQi G A below [.ref (G.2.2.1 (11, 0, 0)), .int (nI cell)] s_ (fun r u => r = lcC (I 0) op nd st cell ∧ ∃ (x28 x29 : Nat → Int32) , u = (sr (sr I 28 (x28)) 29 (x29), J, O))) (F0 mi_ 26 ls []) := by
            intro fu
            induction fu with
            | zero => intro f2 h2 s hf; exact absurd hf (Nat.not_lt_zero _)
            | succ fu ih_26 =>
              intro f2 h2 s hf_26 hsl hs2 H locs ls hB hl
              refine lv_iload_n hx hb dX1_leastCut_26 rfl (lv_at hl 0 rfl) ?_
              refine lv_iconst (v := nI 1) hx hb dX1_leastCut_27 (by decide) ?_
              refine lv_aload_n hx hb dX1_leastCut_28 rfl (lv_at hl 2 rfl) ?_
              refine j_get (11, 0, 0) 0 (v := .ref (G.2.2.1 (1, 0, 0))) hC hB in_X1 lk_41 dX1_leastCut_29 jk11 rfl rfl (by decide) rfl ?_
              refine j_getN (1, 0, 0) 2 (v := .int ((sr (sr I 28 (f2)) 29 (h2)) 0 0)) hC hB in_X4 ln_85 dX1_leastCut_32 (jk1 (by omega)) rfl rfl (by decide) rfl ?_
              refine j_eqi (x := (sr (sr I 28 (f2)) 29 (h2)) 0 0) (y := nI nd) ((sr_nj (show (0 : Nat) ≠ 29 by omega)).trans ((sr_nj (show (0 : Nat) ≠ 28 by omega)).trans (hD))) ?_
              refine lv_ishl hx hb dX1_leastCut_35 ?_
              refine j_eqi (y := nI (2 ^ nd)) (shl1 nd hnd) ?_
              refine jn_icmp_ge (tgt := 68) hx hb dX1_leastCut_36 (by decide) (by omega) (by omega) (fun c_36 => ?_) (fun c_36 => ?_)
              · refine lv_iinc (v := nI (size + 1)) (lv' := [(2, .int (nI (size + 1))), (3, .int (nI s)), (0, .ref (G.2.2.1 (11, 0, 0))), (1, .int (nI cell))]) hx hb dX1_leastCut_68 hl (k := 1) rfl (jn_inc _ 1) (by decide) rfl (fun ls hl => ?_)
                refine lv_goto (tgt := 13) hx hb dX1_leastCut_71 (by decide) ?_
                exact ih_13 f2 h2 (size + 1) (by omega) (by omega) (by rw [← hs]; exact (lcO_on (by omega) (by rw [← hs2, show 2 ^ nd - s = 0 by omega]; rfl)).symm) _ _ _ hB (lv_sub hl [0, 2, 3] rfl)
              · refine lv_iload_n hx hb dX1_leastCut_39 rfl (lv_at hl 0 rfl) ?_
                refine j_csi [.int (nI s)] hC hB hl.1 (c_J6_bitCount_0f7a4 l_ G (sr (sr I 28 (f2)) 29 (h2)) J O (nI s)) (va_cwS 1 hts gX1_leastCut_J6_bitCount_0f7a4 rfl rfl rfl (by decide +kernel) ⟨by decide, by decide⟩) dX1_leastCut_40 rfl rfl (Nat.le_of_ble_eq_true rfl) (fun r_40 u_40 H locs hp_40 hB => ?_)
                obtain ⟨rfl, rfl⟩ := hp_40
                refine j_eqi (y := bcJ (nI s)) (rfl) ?_
                refine lv_iload_n hx hb dX1_leastCut_43 rfl (lv_at hl 1 rfl) ?_
                refine lv_icmp_ne (tgt := 62) hx hb dX1_leastCut_44 (by decide) (fun c_44 => ?_) (fun c_44 => ?_)
                · refine lv_iinc (v := nI (s + 1)) (lv' := [(3, .int (nI (s + 1))), (2, .int (nI size)), (0, .ref (G.2.2.1 (11, 0, 0))), (1, .int (nI cell))]) hx hb dX1_leastCut_62 hl (k := 0) rfl (jn_inc _ 1) (by decide) rfl (fun ls hl => ?_)
                  refine lv_goto (tgt := 26) hx hb dX1_leastCut_65 (by decide) ?_
                  exact ih_26 f2 h2 (s + 1) (by omega) (by omega) (by rw [← hs2]; exact (seI_no (by omega) (by simp [lcP, c_44])).symm) _ _ _ hB (lv_sub hl [0, 1, 2, 3] rfl)
                · refine lv_aload_n hx hb dX1_leastCut_47 rfl (lv_at hl 2 rfl) ?_
                  refine lv_aload_n hx hb dX1_leastCut_48 rfl (lv_at hl 2 rfl) ?_
                  refine j_get (11, 0, 0) 2 (v := .int ((sr (sr I 28 (f2)) 29 (h2)) 26 0)) hC hB in_X1 lk_63 dX1_leastCut_49 jk11 rfl rfl (by decide) rfl ?_
                  refine j_eqi (x := (sr (sr I 28 (f2)) 29 (h2)) 26 0) (y := nI st) ((sr_nj (show (26 : Nat) ≠ 29 by omega)).trans ((sr_nj (show (26 : Nat) ≠ 28 by omega)).trans (hSt))) ?_
                  refine lv_iload_n hx hb dX1_leastCut_52 rfl (lv_at hl 3 rfl) ?_
                  refine lv_iload_n hx hb dX1_leastCut_53 rfl (lv_at hl 0 rfl) ?_
                  refine j_cvi (11, 0, 0) [.int (nI st), .int (nI cell), .int (nI s)] hC hB hl.1 (c_X1_distance l_ G (sr (sr I 28 (f2)) 29 (h2)) J O st cell (nI s) (op) (ho) (by omega) (by omega) (by omega) ((sr_nj (show (0 : Nat) ≠ 29 by omega)).trans ((sr_nj (show (0 : Nat) ≠ 28 by omega)).trans (hD))) (hW)) (cwV 3 hts gX1_leastCut_X1_distance rfl rfl rfl (by decide +kernel) ⟨by decide, by decide⟩) dX1_leastCut_54 jk11 rfl rfl rfl rfl (Nat.le_of_ble_eq_true rfl) (fun r_54 u_54 H locs hp_54 hB => ?_)
                  obtain ⟨hr_54, x28_54, x29_54, rfl⟩ := hp_54
                  try simp only [show (sr (sr I 28 (f2)) 29 (h2)) 0 = I 0 from (sr_ne (show (0 : Nat) ≠ 29 by omega)).trans ((sr_ne (show (0 : Nat) ≠ 28 by omega)))] at hr_54
                  try simp only [show (sr (sr I 28 (f2)) 29 (h2)) 0 = I 0 from (sr_ne (show (0 : Nat) ≠ 29 by omega)).trans ((sr_ne (show (0 : Nat) ≠ 28 by omega)))] at hB
                  have hB : jB G A s_.heap (sr (sr I 28 (x28_54)) 29 (x29_54), J, O) H locs := by (rw [show sr (sr I 28 (x28_54)) 29 (x29_54) = sr (sr (sr (sr I 28 (f2)) 29 (h2)) 28 (x28_54)) 29 (x29_54) from by funext a; simp +decide only [sr]; (repeat' split) <;> first | rfl | (exfalso; omega) | (subst_vars; rfl)]; exact hB)
                  refine j_eqi (y := (spZ (I 0) op (nI s) st nd).1 cell) hr_54 ?_
                  refine lv_if_ge (tgt := 62) hx hb dX1_leastCut_57 (by decide) (fun c_57 => ?_) (fun c_57 => ?_)
                  · refine lv_iinc (v := nI (s + 1)) (lv' := [(3, .int (nI (s + 1))), (2, .int (nI size)), (0, .ref (G.2.2.1 (11, 0, 0))), (1, .int (nI cell))]) hx hb dX1_leastCut_62 hl (k := 0) rfl (jn_inc _ 1) (by decide) rfl (fun ls hl => ?_)
                    refine lv_goto (tgt := 26) hx hb dX1_leastCut_65 (by decide) ?_
                    exact ih_26 x28_54 x29_54 (s + 1) (by omega) (by omega) (by rw [← hs2]; exact (seI_no (by omega) (by simp [lcP, eq_true c_44, Int32.not_lt.mpr c_57])).symm) _ _ _ hB (lv_sub hl [0, 1, 2, 3] rfl)
                  · refine lv_iload_n hx hb dX1_leastCut_60 rfl (lv_at hl 0 rfl) ?_
                    exact j_iret hC hB dX1_leastCut_61 (⟨by rw [← hs]; exact (lcO_end (by omega) (by omega) (by rw [← hs2]; exact seI_yes (by omega) (by simp [lcP, c_44, Int32.not_le.mp c_57]))).symm, _, _, rfl⟩)
          exact lp_26 _ f h 0 (Nat.lt_succ_self _) (Nat.zero_le _) (rfl) _ _ _ hB (lv_sub hl [0, 1, 2, 3] rfl)
    exact lp_13 _ (I 28) (I 29) 0 (Nat.lt_succ_self _) (by omega) (by rw [lcC, if_neg c_5]; rfl) _ _ _ (jB_cast2 hB (by first | exact (sr_id _ _).symm | (funext a_; simp +decide only [sr]; (repeat' split) <;> first | rfl | (exfalso; omega) | (subst_vars; rfl))) rfl) (lv_sub hl [0, 1, 2] rfl)
  · refine lv_bipush (v := (-4 : Int32)) hx hb dX1_leastCut_8 (by decide) ?_
    exact j_iret hC hB dX1_leastCut_10 (⟨by rw [lcC, if_pos c_5], I 28, I 29, by rw [sr_id, sr_id]⟩)

set_option maxHeartbeats 4000000 in
set_option maxRecDepth 100000 in
theorem c_X1_bridgesTo (l_ : Launch) (G : jG) (I : Nat → Nat → Int32) (J : Nat → Nat → Int64) (O : Nat → Nat → Nat) (cell : Nat) (op : Nat → Int32) (ho : ∀ j, j < 8 → I 27 j = op j) (hce : cell < 8) {st : Nat} (hst : st < 8) (hSt : I 26 0 = nI st) {nd : Nat} (hnd : nd ≤ 10) (hD : I 0 0 = nI nd) (hW : wfD (I 0) nd) : jMi l_ G yX1_bridgesTo wsX1_bridgesTo ({ frames := 4, cells := 0, slots := 0, locals := 95 }) [.ref (G.2.2.1 (11, 0, 0)), .int (nI cell)] (I, J, O) (fun r u => r = brC (I 0) op nd st cell (I 28 cell) ∧ ∃ (x28 x29 : Nat → Int32) , u = (sr (sr I 28 (x28)) 29 (x29), J, O)) := by
  refine jMi_of (cc := cX1_bridgesTo) (maxL := 4) (ret := (some .int)) (lv0 := [(0, .ref (G.2.2.1 (11, 0, 0))), (1, .int (nI cell))]) (by decide) rfl (Nat.le_of_ble_eq_true rfl) rfl ?_
  intro pg_ ev_ s_ mi_ below meth cd_ A ls hC hB hl
  obtain ⟨hx, hb, hr, hml, hown, hts, hlocks, hK, hA⟩ := id hC
  have lk_22 := hts (.fieldLink RX1 22 "RiddlePrison$Foresight" "far" "[I") (by decide +kernel)
  have lk_41 := hts (.fieldLink RX1 41 "RiddlePrison$Foresight" "prison" "LRiddlePrison$Prison;") (by decide +kernel)
  have ln_85 := (by decide +kernel : Cond.fieldLinkNest RX1 85 "RiddlePrison$Prison" "doorCount" "I" "RiddlePrison" ∈ nsW)
  have lk_63 := hts (.fieldLink RX1 63 "RiddlePrison$Foresight" "start" "I") (by decide +kernel)
  have in_X1 := (fun w h => List.mem_cons_of_mem _ (List.mem_append_left _ (List.mem_append_left _ (List.mem_append_right _ h))) : ∀ w ∈ wsX10, w ∈ wsX1_bridgesTo)
  have in_X4 := (fun w h => List.mem_cons_of_mem _ (List.mem_append_left _ (List.mem_append_right _ h)) : ∀ w ∈ wsX40, w ∈ wsX1_bridgesTo)
  refine lv_iconst (v := nI 0) hx hb dX1_bridgesTo_0 (by decide) ?_
  refine lv_istore_n (lv' := [(2, .int (nI 0)), (0, .ref (G.2.2.1 (11, 0, 0))), (1, .int (nI cell))]) hx hb dX1_bridgesTo_1 rfl hl (by decide) rfl (fun ls hl => ?_)
  refine lv_aload_n hx hb dX1_bridgesTo_2 rfl (lv_at hl 1 rfl) ?_
  refine j_get (11, 0, 0) 4 (v := .ref (G.2.2.1 (21, 28, 0))) hC hB in_X1 lk_22 dX1_bridgesTo_3 jk11 rfl rfl (by decide) rfl ?_
  refine lv_iload_n hx hb dX1_bridgesTo_6 rfl (lv_at hl 2 rfl) ?_
  refine j_iLd 28 cell hC hB dX1_bridgesTo_7 (by decide) rfl (by simp only [lenI_28]; omega) ?_
  refine j_eqi (y := (I 28) cell) rfl ?_
  refine lv_if_ge (tgt := 13) hx hb dX1_bridgesTo_8 (by decide) (fun c_8 => ?_) (fun c_8 => ?_)
  · refine lv_iconst (v := nI 0) hx hb dX1_bridgesTo_13 (by decide) ?_
    refine lv_istore_n (lv' := [(3, .int (nI 0)), (2, .int (nI 0)), (0, .ref (G.2.2.1 (11, 0, 0))), (1, .int (nI cell))]) hx hb dX1_bridgesTo_14 rfl hl (by decide) rfl (fun ls hl => ?_)
    have lp_15 : ∀ (fu : Nat) (f : Nat → Int32) (h : Nat → Int32) (b : Int32) (d : Nat), nd - d < fu → (d ≤ nd) → (b = it (brS (I 0) op nd st cell) d (nI 0)) → ∀ H locs ls, jB G A s_.heap (sr (sr I 28 (f)) 29 (h), J, O) H locs → lv_has ls 4 [(3, .int (nI d)), (2, .int b), (0, .ref (G.2.2.1 (11, 0, 0))), (1, .int (nI cell))] → W pg_ l_ ev_ ({ frames := 4, cells := 0, slots := 0, locals := 95 }) s_ mi_ ([.ref (G.2.2.1 (11, 0, 0)), .int (nI cell)]).toArray below meth cd_ H locs 0 0 (jQi G A below [.ref (G.2.2.1 (11, 0, 0)), .int (nI cell)] s_ (fun r u => r = brC (I 0) op nd st cell (I 28 cell) ∧ ∃ (x28 x29 : Nat → Int32) , u = (sr (sr I 28 (x28)) 29 (x29), J, O))) (F0 mi_ 15 ls []) := by
      intro fu
      induction fu with
      | zero => intro f h b d hf; exact absurd hf (Nat.not_lt_zero _)
      | succ fu ih_15 =>
        intro f h b d hf_15 hd hs H locs ls hB hl
        refine lv_iload_n hx hb dX1_bridgesTo_15 rfl (lv_at hl 0 rfl) ?_
        refine lv_aload_n hx hb dX1_bridgesTo_16 rfl (lv_at hl 2 rfl) ?_
        refine j_get (11, 0, 0) 0 (v := .ref (G.2.2.1 (1, 0, 0))) hC hB in_X1 lk_41 dX1_bridgesTo_17 jk11 rfl rfl (by decide) rfl ?_
        refine j_getN (1, 0, 0) 2 (v := .int ((sr (sr I 28 (f)) 29 (h)) 0 0)) hC hB in_X4 ln_85 dX1_bridgesTo_20 (jk1 (by omega)) rfl rfl (by decide) rfl ?_
        refine j_eqi (x := (sr (sr I 28 (f)) 29 (h)) 0 0) (y := nI nd) ((sr_nj (show (0 : Nat) ≠ 29 by omega)).trans ((sr_nj (show (0 : Nat) ≠ 28 by omega)).trans (hD))) ?_
        refine jn_icmp_ge (tgt := 53) hx hb dX1_bridgesTo_23 (by decide) (by omega) (by omega) (fun c_23 => ?_) (fun c_23 => ?_)
        · refine lv_iload_n hx hb dX1_bridgesTo_53 rfl (lv_at hl 1 rfl) ?_
          exact j_iret hC hB dX1_bridgesTo_54 (⟨by rw [brC, if_pos c_8, hs, show d = nd by omega], _, _, rfl⟩)
        · refine lv_aload_n hx hb dX1_bridgesTo_26 rfl (lv_at hl 2 rfl) ?_
          refine lv_aload_n hx hb dX1_bridgesTo_27 rfl (lv_at hl 2 rfl) ?_
          refine j_get (11, 0, 0) 2 (v := .int ((sr (sr I 28 (f)) 29 (h)) 26 0)) hC hB in_X1 lk_63 dX1_bridgesTo_28 jk11 rfl rfl (by decide) rfl ?_
          refine j_eqi (x := (sr (sr I 28 (f)) 29 (h)) 26 0) (y := nI st) ((sr_nj (show (26 : Nat) ≠ 29 by omega)).trans ((sr_nj (show (26 : Nat) ≠ 28 by omega)).trans (hSt))) ?_
          refine lv_iload_n hx hb dX1_bridgesTo_31 rfl (lv_at hl 3 rfl) ?_
          refine lv_iconst (v := nI 1) hx hb dX1_bridgesTo_32 (by decide) ?_
          refine lv_iload_n hx hb dX1_bridgesTo_33 rfl (lv_at hl 0 rfl) ?_
          refine lv_ishl hx hb dX1_bridgesTo_34 ?_
          refine j_cvi (11, 0, 0) [.int (nI st), .int (nI cell), .int ((nI 1) <<< ((nI d) &&& 31))] hC hB hl.1 (c_X1_distance l_ G (sr (sr I 28 (f)) 29 (h)) J O st cell ((nI 1) <<< ((nI d) &&& 31)) (op) (ho) (by omega) (by omega) (by omega) ((sr_nj (show (0 : Nat) ≠ 29 by omega)).trans ((sr_nj (show (0 : Nat) ≠ 28 by omega)).trans (hD))) (hW)) (cwV 3 hts gX1_bridgesTo_X1_distance rfl rfl rfl (by decide +kernel) ⟨by decide, by decide⟩) dX1_bridgesTo_35 jk11 rfl rfl rfl rfl (Nat.le_of_ble_eq_true rfl) (fun r_35 u_35 H locs hp_35 hB => ?_)
          obtain ⟨hr_35, x28_35, x29_35, rfl⟩ := hp_35
          try simp only [show (sr (sr I 28 (f)) 29 (h)) 0 = I 0 from (sr_ne (show (0 : Nat) ≠ 29 by omega)).trans ((sr_ne (show (0 : Nat) ≠ 28 by omega)))] at hr_35
          try simp only [show (sr (sr I 28 (f)) 29 (h)) 0 = I 0 from (sr_ne (show (0 : Nat) ≠ 29 by omega)).trans ((sr_ne (show (0 : Nat) ≠ 28 by omega)))] at hB
          have hB : jB G A s_.heap (sr (sr I 28 (x28_35)) 29 (x29_35), J, O) H locs := by (rw [show sr (sr I 28 (x28_35)) 29 (x29_35) = sr (sr (sr (sr I 28 (f)) 29 (h)) 28 (x28_35)) 29 (x29_35) from by funext a; simp +decide only [sr]; (repeat' split) <;> first | rfl | (exfalso; omega) | (subst_vars; rfl)]; exact hB)
          refine j_eqi (y := (spZ (I 0) op ((nI 1) <<< ((nI d) &&& 31)) st nd).1 cell) hr_35 ?_
          refine lv_if_ge (tgt := 47) hx hb dX1_bridgesTo_38 (by decide) (fun c_38 => ?_) (fun c_38 => ?_)
          · refine lv_iinc (v := nI (d + 1)) (lv' := [(3, .int (nI (d + 1))), (2, .int b), (0, .ref (G.2.2.1 (11, 0, 0))), (1, .int (nI cell))]) hx hb dX1_bridgesTo_47 hl (k := 0) rfl (jn_inc _ 1) (by decide) rfl (fun ls hl => ?_)
            refine lv_goto (tgt := 15) hx hb dX1_bridgesTo_50 (by decide) ?_
            exact ih_15 x28_35 x29_35 b (d + 1) (by omega) (by omega) (by rw [it_s, ← hs, brS, bitI, if_pos c_38]) _ _ _ hB (lv_sub hl [0, 1, 2, 3] rfl)
          · refine lv_iload_n hx hb dX1_bridgesTo_41 rfl (lv_at hl 1 rfl) ?_
            refine lv_iconst (v := nI 1) hx hb dX1_bridgesTo_42 (by decide) ?_
            refine lv_iload_n hx hb dX1_bridgesTo_43 rfl (lv_at hl 0 rfl) ?_
            refine lv_ishl hx hb dX1_bridgesTo_44 ?_
            refine lv_ior hx hb dX1_bridgesTo_45 ?_
            refine lv_istore_n (lv' := [(2, .int (b ||| ((nI 1) <<< ((nI d) &&& 31)))), (3, .int (nI d)), (0, .ref (G.2.2.1 (11, 0, 0))), (1, .int (nI cell))]) hx hb dX1_bridgesTo_46 rfl hl (by decide) rfl (fun ls hl => ?_)
            refine lv_iinc (v := nI (d + 1)) (lv' := [(3, .int (nI (d + 1))), (2, .int (b ||| ((nI 1) <<< ((nI d) &&& 31)))), (0, .ref (G.2.2.1 (11, 0, 0))), (1, .int (nI cell))]) hx hb dX1_bridgesTo_47 hl (k := 1) rfl (jn_inc _ 1) (by decide) rfl (fun ls hl => ?_)
            refine lv_goto (tgt := 15) hx hb dX1_bridgesTo_50 (by decide) ?_
            exact ih_15 x28_35 x29_35 (b ||| ((nI 1) <<< ((nI d) &&& 31))) (d + 1) (by omega) (by omega) (by rw [it_s, ← hs, brS, bitI, if_neg c_38]) _ _ _ hB (lv_sub hl [0, 1, 2, 3] rfl)
    exact lp_15 _ (I 28) (I 29) (nI 0) 0 (Nat.lt_succ_self _) (by omega) (rfl) _ _ _ (jB_cast2 hB (by first | exact (sr_id _ _).symm | (funext a_; simp +decide only [sr]; (repeat' split) <;> first | rfl | (exfalso; omega) | (subst_vars; rfl))) rfl) (lv_sub hl [0, 1, 2, 3] rfl)
  · refine lv_iload_n hx hb dX1_bridgesTo_11 rfl (lv_at hl 0 rfl) ?_
    exact j_iret hC hB dX1_bridgesTo_12 (⟨by rw [brC, if_neg c_8], I 28, I 29, by rw [sr_id, sr_id]⟩)

set_option maxHeartbeats 4000000 in
set_option maxRecDepth 100000 in
theorem c_X1_setAsideDistances (l_ : Launch) (G : jG) (I : Nat → Nat → Int32) (J : Nat → Nat → Int64) (O : Nat → Nat → Nat)  : jMv l_ G yX1_setAsideDistances wsX1_setAsideDistances ({ frames := 1, cells := 0, slots := 0, locals := 60 }) [.ref (G.2.2.1 (11, 0, 0))] (I, J, O) (fun u => u = (sr I 30 (va_cpy (I 28) (I 30) 0 0 8), J, O)) := by
  refine jMv_of (cc := cX1_setAsideDistances) (maxL := 1) (ret := none) (lv0 := [(0, .ref (G.2.2.1 (11, 0, 0)))]) (by decide) rfl (Nat.le_of_ble_eq_true rfl) rfl ?_
  intro pg_ ev_ s_ mi_ below meth cd_ A ls hC hB hl
  obtain ⟨hx, hb, hr, hml, hown, hts, hlocks, hK, hA⟩ := id hC
  have lk_22 := hts (.fieldLink RX1 22 "RiddlePrison$Foresight" "far" "[I") (by decide +kernel)
  have lk_28 := hts (.fieldLink RX1 28 "RiddlePrison$Foresight" "farAside" "[I") (by decide +kernel)
  have in_X1 := (fun w h => List.mem_cons_of_mem _ (List.mem_append_right _ h) : ∀ w ∈ wsX10, w ∈ wsX1_setAsideDistances)
  refine lv_aload_n hx hb dX1_setAsideDistances_0 rfl (lv_at hl 0 rfl) ?_
  refine j_get (11, 0, 0) 4 (v := .ref (G.2.2.1 (21, 28, 0))) hC hB in_X1 lk_22 dX1_setAsideDistances_1 jk11 rfl rfl (by decide) rfl ?_
  refine lv_iconst (v := nI 0) hx hb dX1_setAsideDistances_4 (by decide) ?_
  refine lv_aload_n hx hb dX1_setAsideDistances_5 rfl (lv_at hl 0 rfl) ?_
  refine j_get (11, 0, 0) 6 (v := .ref (G.2.2.1 (21, 30, 0))) hC hB in_X1 lk_28 dX1_setAsideDistances_6 jk11 rfl rfl (by decide) rfl ?_
  refine lv_iconst (v := nI 0) hx hb dX1_setAsideDistances_9 (by decide) ?_
  refine lv_bipush (v := nI 8) hx hb dX1_setAsideDistances_10 (by decide) ?_
  refine j_cpI 28 30 0 0 8 hC hB hl.1 (hts (.methodLink RX1 121 arraycopyName) (by decide +kernel)) (hts (.native arraycopyName) (by decide +kernel)) (hts (.static arraycopyName) (by decide +kernel)) (hts (.initialized "java/lang/System") (by decide +kernel)) dX1_setAsideDistances_12 (by decide) (by decide) (by decide) (by decide) (by decide) (Nat.le_of_ble_eq_true rfl) (fun H locs hB => ?_)
  have hB : jB G A s_.heap (sr I 30 (va_cpy (I 28) (I 30) 0 0 8), J, O) H locs := hB
  exact j_vret hC hB dX1_setAsideDistances_15 (rfl)

set_option maxHeartbeats 4000000 in
set_option maxRecDepth 100000 in
theorem c_X1_longerWay (l_ : Launch) (G : jG) (I : Nat → Nat → Int32) (J : Nat → Nat → Int64) (O : Nat → Nat → Nat) (c : Nat) (hc : c < 8) : jMi l_ G yX1_longerWay wsX1_longerWay ({ frames := 1, cells := 0, slots := 0, locals := 30 }) [.ref (G.2.2.1 (11, 0, 0)), .int (nI c)] (I, J, O) (fun r u => r = lwF (I 28) (I 30) c ∧ u = (I, J, O)) := by
  refine jMi_of (cc := cX1_longerWay) (maxL := 2) (ret := (some .int)) (lv0 := [(0, .ref (G.2.2.1 (11, 0, 0))), (1, .int (nI c))]) (by decide) rfl (Nat.le_of_ble_eq_true rfl) rfl ?_
  intro pg_ ev_ s_ mi_ below meth cd_ A ls hC hB hl
  obtain ⟨hx, hb, hr, hml, hown, hts, hlocks, hK, hA⟩ := id hC
  have lk_22 := hts (.fieldLink RX1 22 "RiddlePrison$Foresight" "far" "[I") (by decide +kernel)
  have lk_28 := hts (.fieldLink RX1 28 "RiddlePrison$Foresight" "farAside" "[I") (by decide +kernel)
  have in_X1 := (fun w h => List.mem_cons_of_mem _ (List.mem_append_right _ h) : ∀ w ∈ wsX10, w ∈ wsX1_longerWay)
  refine lv_aload_n hx hb dX1_longerWay_0 rfl (lv_at hl 0 rfl) ?_
  refine j_get (11, 0, 0) 4 (v := .ref (G.2.2.1 (21, 28, 0))) hC hB in_X1 lk_22 dX1_longerWay_1 jk11 rfl rfl (by decide) rfl ?_
  refine lv_iload_n hx hb dX1_longerWay_4 rfl (lv_at hl 1 rfl) ?_
  refine j_iLd 28 c hC hB dX1_longerWay_5 (by decide) rfl (by simp only [lenI_28]; omega) ?_
  refine j_eqi (y := (I 28) c) rfl ?_
  refine lv_if_lt (tgt := 18) hx hb dX1_longerWay_6 (by decide) (fun c_6 => ?_) (fun c_6 => ?_)
  · refine lv_bipush (v := (-4 : Int32)) hx hb dX1_longerWay_18 (by decide) ?_
    refine lv_goto (tgt := 38) hx hb dX1_longerWay_20 (by decide) ?_
    exact j_iret hC hB dX1_longerWay_38 (⟨by simp [lwF, c_6], rfl⟩)
  · refine lv_aload_n hx hb dX1_longerWay_9 rfl (lv_at hl 0 rfl) ?_
    refine j_get (11, 0, 0) 6 (v := .ref (G.2.2.1 (21, 30, 0))) hC hB in_X1 lk_28 dX1_longerWay_10 jk11 rfl rfl (by decide) rfl ?_
    refine lv_iload_n hx hb dX1_longerWay_13 rfl (lv_at hl 1 rfl) ?_
    refine j_iLd 30 c hC hB dX1_longerWay_14 (by decide) rfl (by simp only [lenI_30]; omega) ?_
    refine j_eqi (y := (I 30) c) rfl ?_
    refine lv_if_ge (tgt := 23) hx hb dX1_longerWay_15 (by decide) (fun c_15 => ?_) (fun c_15 => ?_)
    · refine lv_aload_n hx hb dX1_longerWay_23 rfl (lv_at hl 0 rfl) ?_
      refine j_get (11, 0, 0) 4 (v := .ref (G.2.2.1 (21, 28, 0))) hC hB in_X1 lk_22 dX1_longerWay_24 jk11 rfl rfl (by decide) rfl ?_
      refine lv_iload_n hx hb dX1_longerWay_27 rfl (lv_at hl 1 rfl) ?_
      refine j_iLd 28 c hC hB dX1_longerWay_28 (by decide) rfl (by simp only [lenI_28]; omega) ?_
      refine j_eqi (y := (I 28) c) rfl ?_
      refine lv_aload_n hx hb dX1_longerWay_29 rfl (lv_at hl 0 rfl) ?_
      refine j_get (11, 0, 0) 6 (v := .ref (G.2.2.1 (21, 30, 0))) hC hB in_X1 lk_28 dX1_longerWay_30 jk11 rfl rfl (by decide) rfl ?_
      refine lv_iload_n hx hb dX1_longerWay_33 rfl (lv_at hl 1 rfl) ?_
      refine j_iLd 30 c hC hB dX1_longerWay_34 (by decide) rfl (by simp only [lenI_30]; omega) ?_
      refine j_eqi (y := (I 30) c) rfl ?_
      refine va_mmax hx hb (by rw [hml]; exact hl.1.symm) hown (hts (.methodLink RX1 127 Lib.Math.max.name) (by decide +kernel)) (hts (.static Lib.Math.max.name) (by decide +kernel)) (hts (.initialized "java/lang/Math") (by decide +kernel)) (hts (.code Lib.Math.max.name Lib.Math.max.code 2 (some .int)) (by decide +kernel)) (by decide) (Nat.le_of_ble_eq_true rfl) (Nat.zero_le _) (Nat.zero_le _) dX1_longerWay_35 ?_
      exact j_iret hC hB dX1_longerWay_38 (⟨by simp [lwF, c_6, c_15], rfl⟩)
    · refine lv_bipush (v := (-4 : Int32)) hx hb dX1_longerWay_18 (by decide) ?_
      refine lv_goto (tgt := 38) hx hb dX1_longerWay_20 (by decide) ?_
      exact j_iret hC hB dX1_longerWay_38 (⟨by simp [lwF, c_6, c_15], rfl⟩)

set_option maxHeartbeats 4000000 in
set_option maxRecDepth 100000 in
theorem c_X1_meetingCell (l_ : Launch) (G : jG) (I : Nat → Nat → Int32) (J : Nat → Nat → Int64) (O : Nat → Nat → Nat)  : jMi l_ G yX1_meetingCell wsX1_meetingCell ({ frames := 2, cells := 0, slots := 0, locals := 51 }) [.ref (G.2.2.1 (11, 0, 0))] (I, J, O) (fun r u => r = (mcF (I 28) (I 30)).1 ∧ u = (I, J, O)) := by
  refine jMi_of (cc := cX1_meetingCell) (maxL := 5) (ret := (some .int)) (lv0 := [(0, .ref (G.2.2.1 (11, 0, 0)))]) (by decide) rfl (Nat.le_of_ble_eq_true rfl) rfl ?_
  intro pg_ ev_ s_ mi_ below meth cd_ A ls hC hB hl
  obtain ⟨hx, hb, hr, hml, hown, hts, hlocks, hK, hA⟩ := id hC
  refine lv_bipush (v := (-4 : Int32)) hx hb dX1_meetingCell_0 (by decide) ?_
  refine lv_istore_n (lv' := [(1, .int ((-4 : Int32))), (0, .ref (G.2.2.1 (11, 0, 0)))]) hx hb dX1_meetingCell_2 rfl hl (by decide) rfl (fun ls hl => ?_)
  refine lv_bipush (v := nI 8) hx hb dX1_meetingCell_3 (by decide) ?_
  refine lv_istore_n (lv' := [(2, .int (nI 8)), (1, .int ((-4 : Int32))), (0, .ref (G.2.2.1 (11, 0, 0)))]) hx hb dX1_meetingCell_5 rfl hl (by decide) rfl (fun ls hl => ?_)
  refine lv_iconst (v := nI 0) hx hb dX1_meetingCell_6 (by decide) ?_
  refine lv_istore_n (lv' := [(3, .int (nI 0)), (2, .int (nI 8)), (1, .int ((-4 : Int32))), (0, .ref (G.2.2.1 (11, 0, 0)))]) hx hb dX1_meetingCell_7 rfl hl (by decide) rfl (fun ls hl => ?_)
  have lp_8 : ∀ (fu : Nat) (best : Int32) (least : Int32) (c : Nat), 8 - c < fu → (c ≤ 8) → ((best, least) = it (mcS (I 28) (I 30)) c (-4, nI 8)) → ∀ H locs ls, jB G A s_.heap (I, J, O) H locs → lv_has ls 5 [(3, .int (nI c)), (2, .int least), (1, .int best), (0, .ref (G.2.2.1 (11, 0, 0)))] → W pg_ l_ ev_ ({ frames := 2, cells := 0, slots := 0, locals := 51 }) s_ mi_ ([.ref (G.2.2.1 (11, 0, 0))]).toArray below meth cd_ H locs 0 0 (jQi G A below [.ref (G.2.2.1 (11, 0, 0))] s_ (fun r u => r = (mcF (I 28) (I 30)).1 ∧ u = (I, J, O))) (F0 mi_ 8 ls []) := by
    intro fu
    induction fu with
    | zero => intro best least c hf; exact absurd hf (Nat.not_lt_zero _)
    | succ fu ih_8 =>
      intro best least c hf_8 hc8 hs H locs ls hB hl
      refine lv_iload_n hx hb dX1_meetingCell_8 rfl (lv_at hl 0 rfl) ?_
      refine lv_bipush (v := nI 8) hx hb dX1_meetingCell_9 (by decide) ?_
      refine jn_icmp_ge (tgt := 43) hx hb dX1_meetingCell_11 (by decide) (by omega) (by omega) (fun c_11 => ?_) (fun c_11 => ?_)
      · refine lv_iload_n hx hb dX1_meetingCell_43 rfl (lv_at hl 2 rfl) ?_
        exact j_iret hC hB dX1_meetingCell_44 (⟨by rw [show mcF (I 28) (I 30) = (best, least) from by rw [hs, show c = 8 by omega]; rfl], rfl⟩)
      · refine lv_aload_n hx hb dX1_meetingCell_14 rfl (lv_at hl 3 rfl) ?_
        refine lv_iload_n hx hb dX1_meetingCell_15 rfl (lv_at hl 0 rfl) ?_
        refine j_cvi (11, 0, 0) [.int (nI c)] hC hB hl.1 (c_X1_longerWay l_ G I J O c (by omega)) (cwV 1 hts gX1_meetingCell_X1_longerWay rfl rfl rfl (by decide +kernel) ⟨by decide, by decide⟩) dX1_meetingCell_16 jk11 rfl rfl rfl rfl (Nat.le_of_ble_eq_true rfl) (fun r_16 u_16 H locs hp_16 hB => ?_)
        obtain ⟨rfl, rfl⟩ := hp_16
        refine lv_istore (lv' := [(4, .int (lwF (I 28) (I 30) c)), (3, .int (nI c)), (2, .int least), (1, .int best), (0, .ref (G.2.2.1 (11, 0, 0)))]) hx hb dX1_meetingCell_19 hl (by decide) rfl (fun ls hl => ?_)
        refine lv_iload hx hb dX1_meetingCell_21 (lv_at hl 0 rfl) ?_
        refine lv_if_lt (tgt := 37) hx hb dX1_meetingCell_23 (by decide) (fun c_23 => ?_) (fun c_23 => ?_)
        · refine lv_iinc (v := nI (c + 1)) (lv' := [(3, .int (nI (c + 1))), (4, .int (lwF (I 28) (I 30) c)), (2, .int least), (1, .int best), (0, .ref (G.2.2.1 (11, 0, 0)))]) hx hb dX1_meetingCell_37 hl (k := 1) rfl (jn_inc _ 1) (by decide) rfl (fun ls hl => ?_)
          refine lv_goto (tgt := 8) hx hb dX1_meetingCell_40 (by decide) ?_
          exact ih_8 best least (c + 1) (by omega) (by omega) (by rw [it_s, ← hs]; simp [mcS, c_23]) _ _ _ hB (lv_sub hl [0, 2, 3, 4] rfl)
        · refine lv_iload hx hb dX1_meetingCell_26 (lv_at hl 0 rfl) ?_
          refine lv_iload_n hx hb dX1_meetingCell_28 rfl (lv_at hl 2 rfl) ?_
          refine lv_icmp_ge (tgt := 37) hx hb dX1_meetingCell_29 (by decide) (fun c_29 => ?_) (fun c_29 => ?_)
          · refine lv_iinc (v := nI (c + 1)) (lv' := [(3, .int (nI (c + 1))), (4, .int (lwF (I 28) (I 30) c)), (2, .int least), (1, .int best), (0, .ref (G.2.2.1 (11, 0, 0)))]) hx hb dX1_meetingCell_37 hl (k := 1) rfl (jn_inc _ 1) (by decide) rfl (fun ls hl => ?_)
            refine lv_goto (tgt := 8) hx hb dX1_meetingCell_40 (by decide) ?_
            exact ih_8 best least (c + 1) (by omega) (by omega) (by rw [it_s, ← hs]; simp [mcS, c_23, c_29]) _ _ _ hB (lv_sub hl [0, 2, 3, 4] rfl)
          · refine lv_iload_n hx hb dX1_meetingCell_32 rfl (lv_at hl 1 rfl) ?_
            refine lv_istore_n (lv' := [(1, .int (nI c)), (4, .int (lwF (I 28) (I 30) c)), (3, .int (nI c)), (2, .int least), (0, .ref (G.2.2.1 (11, 0, 0)))]) hx hb dX1_meetingCell_33 rfl hl (by decide) rfl (fun ls hl => ?_)
            refine lv_iload hx hb dX1_meetingCell_34 (lv_at hl 1 rfl) ?_
            refine lv_istore_n (lv' := [(2, .int (lwF (I 28) (I 30) c)), (1, .int (nI c)), (4, .int (lwF (I 28) (I 30) c)), (3, .int (nI c)), (0, .ref (G.2.2.1 (11, 0, 0)))]) hx hb dX1_meetingCell_36 rfl hl (by decide) rfl (fun ls hl => ?_)
            refine lv_iinc (v := nI (c + 1)) (lv' := [(3, .int (nI (c + 1))), (2, .int (lwF (I 28) (I 30) c)), (1, .int (nI c)), (4, .int (lwF (I 28) (I 30) c)), (0, .ref (G.2.2.1 (11, 0, 0)))]) hx hb dX1_meetingCell_37 hl (k := 3) rfl (jn_inc _ 1) (by decide) rfl (fun ls hl => ?_)
            refine lv_goto (tgt := 8) hx hb dX1_meetingCell_40 (by decide) ?_
            exact ih_8 (nI c) (lwF (I 28) (I 30) c) (c + 1) (by omega) (by omega) (by rw [it_s, ← hs]; simp [mcS, c_23, c_29]) _ _ _ hB (lv_sub hl [0, 1, 2, 4] rfl)
  exact lp_8 _ ((-4 : Int32)) (nI 8) 0 (Nat.lt_succ_self _) (by omega) (rfl) _ _ _ hB (lv_sub hl [0, 1, 2, 3] rfl)

set_option maxHeartbeats 4000000 in
set_option maxRecDepth 100000 in
theorem c_X1_getsThere_0 (l_ : Launch) (G : jG) (I : Nat → Nat → Int32) (J : Nat → Nat → Int64) (O : Nat → Nat → Nat) (here cell : Nat) (sh : Int32) (op : Nat → Int32) (ho : ∀ j, j < 8 → I 27 j = op j) (hhe : here < 8) (hce : cell < 8) {nd : Nat} (hnd : nd ≤ 10) (hD : I 0 0 = nI nd) (hW : wfD (I 0) nd) : jMi l_ G yX1_getsThere wsX1_getsThere ({ frames := 0, cells := 0, slots := 0, locals := 0 }) [.ref (G.2.2.1 (11, 0, 0)), .int (nI here), .int (nI cell), .int sh, .int (nI 0)] (I, J, O) (fun r u => r = b2 (gtB (I 0) op nd cell 0 here sh) ∧ u = (I, J, O)) := by
  refine jMi_of (cc := cX1_getsThere) (maxL := 6) (ret := (some .boolean)) (lv0 := [(0, .ref (G.2.2.1 (11, 0, 0))), (1, .int (nI here)), (2, .int (nI cell)), (3, .int sh), (4, .int (nI 0))]) (by decide) rfl (Nat.le_of_ble_eq_true rfl) rfl ?_
  intro pg_ ev_ s_ mi_ below meth cd_ A ls hC hB hl
  obtain ⟨hx, hb, hr, hml, hown, hts, hlocks, hK, hA⟩ := id hC
  refine lv_iload_n hx hb dX1_getsThere_0 rfl (lv_at hl 1 rfl) ?_
  refine lv_iload_n hx hb dX1_getsThere_1 rfl (lv_at hl 2 rfl) ?_
  refine jn_icmp_ne (tgt := 7) hx hb dX1_getsThere_2 (by decide) (by omega) (by omega) (fun c_2 => ?_) (fun c_2 => ?_)
  · refine lv_iload hx hb dX1_getsThere_7 (lv_at hl 4 rfl) ?_
    refine jn_if_gt (tgt := 14) hx hb dX1_getsThere_9 (by decide) (by omega) (fun c_9 => ?_) (fun c_9 => ?_)
    · exact absurd c_9 (by omega)
    · refine lv_iconst (v := nI 0) hx hb dX1_getsThere_12 (by decide) ?_
      exact j_zret hC hB dX1_getsThere_13 (by decide) (⟨by simp [gtB, c_2, b2], rfl⟩)
  · refine lv_iconst (v := nI 1) hx hb dX1_getsThere_5 (by decide) ?_
    exact j_zret hC hB dX1_getsThere_6 (by decide) (⟨by rw [c_2]; simp [gtB, b2], rfl⟩)

set_option maxHeartbeats 4000000 in
set_option maxRecDepth 100000 in
theorem c_X1_getsThereStill_0 (l_ : Launch) (G : jG) (I : Nat → Nat → Int32) (J : Nat → Nat → Int64) (O : Nat → Nat → Nat) (here cell : Nat) (sh : Int32) (op : Nat → Int32) (ho : ∀ j, j < 8 → I 27 j = op j) (hhe : here < 8) (hce : cell < 8) {nd : Nat} (hnd : nd ≤ 10) (hD : I 0 0 = nI nd) (hW : wfD (I 0) nd) : jMi l_ G yX1_getsThereStill wsX1_getsThereStill ({ frames := 0, cells := 0, slots := 0, locals := 0 }) [.ref (G.2.2.1 (11, 0, 0)), .int (nI here), .int (nI cell), .int sh, .int (nI 0)] (I, J, O) (fun r u => r = b2 (gsB (I 0) op nd cell 0 here sh) ∧ u = (I, J, O)) := by
  refine jMi_of (cc := cX1_getsThereStill) (maxL := 6) (ret := (some .boolean)) (lv0 := [(0, .ref (G.2.2.1 (11, 0, 0))), (1, .int (nI here)), (2, .int (nI cell)), (3, .int sh), (4, .int (nI 0))]) (by decide) rfl (Nat.le_of_ble_eq_true rfl) rfl ?_
  intro pg_ ev_ s_ mi_ below meth cd_ A ls hC hB hl
  obtain ⟨hx, hb, hr, hml, hown, hts, hlocks, hK, hA⟩ := id hC
  refine lv_iload_n hx hb dX1_getsThereStill_0 rfl (lv_at hl 1 rfl) ?_
  refine lv_iload_n hx hb dX1_getsThereStill_1 rfl (lv_at hl 2 rfl) ?_
  refine jn_icmp_ne (tgt := 7) hx hb dX1_getsThereStill_2 (by decide) (by omega) (by omega) (fun c_2 => ?_) (fun c_2 => ?_)
  · refine lv_iload hx hb dX1_getsThereStill_7 (lv_at hl 4 rfl) ?_
    refine jn_if_gt (tgt := 14) hx hb dX1_getsThereStill_9 (by decide) (by omega) (fun c_9 => ?_) (fun c_9 => ?_)
    · exact absurd c_9 (by omega)
    · refine lv_iconst (v := nI 0) hx hb dX1_getsThereStill_12 (by decide) ?_
      exact j_zret hC hB dX1_getsThereStill_13 (by decide) (⟨by simp [gsB, c_2, b2], rfl⟩)
  · refine lv_iconst (v := nI 1) hx hb dX1_getsThereStill_5 (by decide) ?_
    exact j_zret hC hB dX1_getsThereStill_6 (by decide) (⟨by rw [c_2]; simp [gsB, b2], rfl⟩)

set_option maxHeartbeats 4000000 in
set_option maxRecDepth 100000 in
theorem c_X1_getsThere_1 (l_ : Launch) (G : jG) (I : Nat → Nat → Int32) (J : Nat → Nat → Int64) (O : Nat → Nat → Nat) (here cell : Nat) (sh : Int32) (op : Nat → Int32) (ho : ∀ j, j < 8 → I 27 j = op j) (hhe : here < 8) (hce : cell < 8) {nd : Nat} (hnd : nd ≤ 10) (hD : I 0 0 = nI nd) (hW : wfD (I 0) nd) : jMi l_ G yX1_getsThere wsX1_getsThere ({ frames := 1, cells := 0, slots := 0, locals := 25 }) [.ref (G.2.2.1 (11, 0, 0)), .int (nI here), .int (nI cell), .int sh, .int (nI 1)] (I, J, O) (fun r u => r = b2 (gtB (I 0) op nd cell 1 here sh) ∧ u = (I, J, O)) := by
  refine jMi_of (cc := cX1_getsThere) (maxL := 6) (ret := (some .boolean)) (lv0 := [(0, .ref (G.2.2.1 (11, 0, 0))), (1, .int (nI here)), (2, .int (nI cell)), (3, .int sh), (4, .int (nI 1))]) (by decide) rfl (Nat.le_of_ble_eq_true rfl) rfl ?_
  intro pg_ ev_ s_ mi_ below meth cd_ A ls hC hB hl
  obtain ⟨hx, hb, hr, hml, hown, hts, hlocks, hK, hA⟩ := id hC
  have lk_41 := hts (.fieldLink RX1 41 "RiddlePrison$Foresight" "prison" "LRiddlePrison$Prison;") (by decide +kernel)
  have ln_85 := (by decide +kernel : Cond.fieldLinkNest RX1 85 "RiddlePrison$Prison" "doorCount" "I" "RiddlePrison" ∈ nsW)
  have ln_92 := (by decide +kernel : Cond.fieldLinkNest RX1 92 "RiddlePrison$Prison" "doors" "[LRiddlePrison$Door;" "RiddlePrison" ∈ nsW)
  have in_X1 := (fun w h => List.mem_cons_of_mem _ (List.mem_append_left _ (List.mem_append_left _ (List.mem_append_right _ h))) : ∀ w ∈ wsX10, w ∈ wsX1_getsThere)
  have in_X4 := (fun w h => List.mem_cons_of_mem _ (List.mem_append_left _ (List.mem_append_right _ h)) : ∀ w ∈ wsX40, w ∈ wsX1_getsThere)
  refine lv_iload_n hx hb dX1_getsThere_0 rfl (lv_at hl 1 rfl) ?_
  refine lv_iload_n hx hb dX1_getsThere_1 rfl (lv_at hl 2 rfl) ?_
  refine jn_icmp_ne (tgt := 7) hx hb dX1_getsThere_2 (by decide) (by omega) (by omega) (fun c_2 => ?_) (fun c_2 => ?_)
  · refine lv_iload hx hb dX1_getsThere_7 (lv_at hl 4 rfl) ?_
    refine jn_if_gt (tgt := 14) hx hb dX1_getsThere_9 (by decide) (by omega) (fun c_9 => ?_) (fun c_9 => ?_)
    · refine lv_iconst (v := nI 0) hx hb dX1_getsThere_14 (by decide) ?_
      refine lv_istore (lv' := [(5, .int (nI 0)), (0, .ref (G.2.2.1 (11, 0, 0))), (1, .int (nI here)), (2, .int (nI cell)), (3, .int sh), (4, .int (nI 1))]) hx hb dX1_getsThere_15 hl (by decide) rfl (fun ls hl => ?_)
      have lp_17 : ∀ (fu : Nat) (d : Nat), nd - d < fu → (d ≤ nd) → (it (anyS (fun d => ioB op here d sh && gsB (I 0) op nd cell 0 (beN (I 0) d here) sh)) d false = false) → ∀ H locs ls, jB G A s_.heap (I, J, O) H locs → lv_has ls 6 [(5, .int (nI d)), (0, .ref (G.2.2.1 (11, 0, 0))), (1, .int (nI here)), (2, .int (nI cell)), (3, .int sh), (4, .int (nI 1))] → W pg_ l_ ev_ ({ frames := 1, cells := 0, slots := 0, locals := 25 }) s_ mi_ ([.ref (G.2.2.1 (11, 0, 0)), .int (nI here), .int (nI cell), .int sh, .int (nI 1)]).toArray below meth cd_ H locs 0 0 (jQi G A below [.ref (G.2.2.1 (11, 0, 0)), .int (nI here), .int (nI cell), .int sh, .int (nI 1)] s_ (fun r u => r = b2 (gtB (I 0) op nd cell 1 here sh) ∧ u = (I, J, O))) (F0 mi_ 17 ls []) := by
        intro fu
        induction fu with
        | zero => intro d hf; exact absurd hf (Nat.not_lt_zero _)
        | succ fu ih_17 =>
          intro d hf_17 hd hs H locs ls hB hl
          refine lv_iload hx hb dX1_getsThere_17 (lv_at hl 0 rfl) ?_
          refine lv_aload_n hx hb dX1_getsThere_19 rfl (lv_at hl 1 rfl) ?_
          refine j_get (11, 0, 0) 0 (v := .ref (G.2.2.1 (1, 0, 0))) hC hB in_X1 lk_41 dX1_getsThere_20 jk11 rfl rfl (by decide) rfl ?_
          refine j_getN (1, 0, 0) 2 (v := .int (I 0 0)) hC hB in_X4 ln_85 dX1_getsThere_23 (jk1 (by omega)) rfl rfl (by decide) rfl ?_
          refine j_eqi (x := I 0 0) (y := nI nd) (hD) ?_
          refine jn_icmp_ge (tgt := 75) hx hb dX1_getsThere_26 (by decide) (by omega) (by omega) (fun c_26 => ?_) (fun c_26 => ?_)
          · refine lv_iconst (v := nI 0) hx hb dX1_getsThere_75 (by decide) ?_
            exact j_zret hC hB dX1_getsThere_76 (by decide) (⟨by rw [show d = nd by omega] at hs; rw [gtB_s, hs]; simp [b2, c_2], rfl⟩)
          · refine lv_aload_n hx hb dX1_getsThere_29 rfl (lv_at hl 1 rfl) ?_
            refine lv_iload_n hx hb dX1_getsThere_30 rfl (lv_at hl 2 rfl) ?_
            refine lv_iload hx hb dX1_getsThere_31 (lv_at hl 0 rfl) ?_
            refine lv_iload_n hx hb dX1_getsThere_33 rfl (lv_at hl 4 rfl) ?_
            refine j_cvi (11, 0, 0) [.int (nI here), .int (nI d), .int sh] hC hB hl.1 (c_X1_isOpen l_ G I J O here d sh (by omega)) (cwV 3 hts gX1_getsThere_X1_isOpen rfl rfl rfl (by decide +kernel) ⟨by decide, by decide⟩) dX1_getsThere_34 jk11 rfl rfl rfl rfl (Nat.le_of_ble_eq_true rfl) (fun r_34 u_34 H locs hp_34 hB => ?_)
            obtain ⟨rfl, rfl⟩ := hp_34
            refine j_eqi (y := b2 (ioB op here d sh)) (by rw [ioB_cong (ho _ hhe)]) ?_
            refine jb_if_eq (tgt := 69) hx hb dX1_getsThere_37 (by decide) (fun c_37 => ?_) (fun c_37 => ?_)
            · refine lv_iinc (v := nI (d + 1)) (lv' := [(5, .int (nI (d + 1))), (0, .ref (G.2.2.1 (11, 0, 0))), (1, .int (nI here)), (2, .int (nI cell)), (3, .int sh), (4, .int (nI 1))]) hx hb dX1_getsThere_69 hl (k := 0) rfl (jn_inc _ 1) (by decide) rfl (fun ls hl => ?_)
              refine lv_goto (tgt := 17) hx hb dX1_getsThere_72 (by decide) ?_
              exact ih_17 (d + 1) (by omega) (by omega) (by rw [it_s, hs]; simp [anyS, c_37]) _ _ _ hB (lv_sub hl [0, 1, 2, 3, 4, 5] rfl)
            · refine lv_aload_n hx hb dX1_getsThere_40 rfl (lv_at hl 1 rfl) ?_
              refine lv_aload_n hx hb dX1_getsThere_41 rfl (lv_at hl 1 rfl) ?_
              refine j_get (11, 0, 0) 0 (v := .ref (G.2.2.1 (1, 0, 0))) hC hB in_X1 lk_41 dX1_getsThere_42 jk11 rfl rfl (by decide) rfl ?_
              refine j_getN (1, 0, 0) 0 (v := .ref (G.2.2.1 (2, 0, 0))) hC hB in_X4 ln_92 dX1_getsThere_45 (jk1 (by omega)) rfl rfl (by decide) rfl ?_
              refine lv_iload hx hb dX1_getsThere_48 (lv_at hl 0 rfl) ?_
              refine j_ald (2, 0, 0) (4, 0, d) 3 d hC hB dX1_getsThere_50 (jk2 (by omega)) rfl rfl rfl (by omega) (by decide) rfl ?_
              refine lv_iload_n hx hb dX1_getsThere_51 rfl (lv_at hl 2 rfl) ?_
              refine j_cvi (4, 0, d) [.int (nI here)] hC hB hl.1 (c_X0_beyond l_ G I J O 0 d (nI here) ((jk4 (by omega) (by omega)))) (cwV 1 hts gX1_getsThere_X0_beyond rfl rfl rfl (by decide +kernel) ⟨by decide, by decide⟩) dX1_getsThere_52 (jk4 (by omega) (by omega)) rfl rfl rfl rfl (Nat.le_of_ble_eq_true rfl) (fun r_52 u_52 H locs hp_52 hB => ?_)
              obtain ⟨rfl, rfl⟩ := hp_52
              have hbe := be_ok (c := here) hW (show d < nd by omega)
              refine j_eqi hbe.1 ?_
              refine lv_iload_n hx hb dX1_getsThere_55 rfl (lv_at hl 3 rfl) ?_
              refine lv_iload_n hx hb dX1_getsThere_56 rfl (lv_at hl 4 rfl) ?_
              refine lv_iload hx hb dX1_getsThere_57 (lv_at hl 5 rfl) ?_
              refine lv_iconst (v := nI 1) hx hb dX1_getsThere_59 (by decide) ?_
              refine jn_isub hx hb dX1_getsThere_60 (by omega) ?_
              refine j_eqi (y := nI 0) rfl ?_
              refine j_cvi (11, 0, 0) [.int (nI (beN (I 0) d here)), .int (nI cell), .int sh, .int (nI 0)] hC hB hl.1 (c_X1_getsThereStill_0 l_ G I J O (beN (I 0) d here) cell sh (op) (ho) (by omega) (by omega) (by omega) (hD) (hW)) (cwV 4 hts gX1_getsThere_X1_getsThereStill rfl rfl rfl (by decide +kernel) ⟨by decide, by decide⟩) dX1_getsThere_61 jk11 rfl rfl rfl rfl (Nat.le_of_ble_eq_true rfl) (fun r_61 u_61 H locs hp_61 hB => ?_)
              obtain ⟨rfl, rfl⟩ := hp_61
              refine jb_if_eq (tgt := 69) hx hb dX1_getsThere_64 (by decide) (fun c_64 => ?_) (fun c_64 => ?_)
              · refine lv_iinc (v := nI (d + 1)) (lv' := [(5, .int (nI (d + 1))), (0, .ref (G.2.2.1 (11, 0, 0))), (1, .int (nI here)), (2, .int (nI cell)), (3, .int sh), (4, .int (nI 1))]) hx hb dX1_getsThere_69 hl (k := 0) rfl (jn_inc _ 1) (by decide) rfl (fun ls hl => ?_)
                refine lv_goto (tgt := 17) hx hb dX1_getsThere_72 (by decide) ?_
                exact ih_17 (d + 1) (by omega) (by omega) (by rw [it_s, hs]; simp [anyS, c_37, c_64]) _ _ _ hB (lv_sub hl [0, 1, 2, 3, 4, 5] rfl)
              · refine lv_iconst (v := nI 1) hx hb dX1_getsThere_67 (by decide) ?_
                exact j_zret hC hB dX1_getsThere_68 (by decide) (⟨by rw [gtB_s, any_stop (d := d + 1) (by omega) (by rw [it_s, hs]; simp [anyS, c_37, c_64])]; simp [b2], rfl⟩)
      exact lp_17 _ 0 (Nat.lt_succ_self _) (by omega) (rfl) _ _ _ hB (lv_sub hl [0, 1, 2, 3, 4, 5] rfl)
    · exact absurd c_9 (by omega)
  · refine lv_iconst (v := nI 1) hx hb dX1_getsThere_5 (by decide) ?_
    exact j_zret hC hB dX1_getsThere_6 (by decide) (⟨by rw [c_2]; rw [gtB_s]; simp [b2], rfl⟩)

set_option maxHeartbeats 4000000 in
set_option maxRecDepth 100000 in
theorem c_X1_getsThereStill_1 (l_ : Launch) (G : jG) (I : Nat → Nat → Int32) (J : Nat → Nat → Int64) (O : Nat → Nat → Nat) (here cell : Nat) (sh : Int32) (op : Nat → Int32) (ho : ∀ j, j < 8 → I 27 j = op j) (hhe : here < 8) (hce : cell < 8) {nd : Nat} (hnd : nd ≤ 10) (hD : I 0 0 = nI nd) (hW : wfD (I 0) nd) : jMi l_ G yX1_getsThereStill wsX1_getsThereStill ({ frames := 2, cells := 0, slots := 0, locals := 50 }) [.ref (G.2.2.1 (11, 0, 0)), .int (nI here), .int (nI cell), .int sh, .int (nI 1)] (I, J, O) (fun r u => r = b2 (gsB (I 0) op nd cell 1 here sh) ∧ u = (I, J, O)) := by
  refine jMi_of (cc := cX1_getsThereStill) (maxL := 6) (ret := (some .boolean)) (lv0 := [(0, .ref (G.2.2.1 (11, 0, 0))), (1, .int (nI here)), (2, .int (nI cell)), (3, .int sh), (4, .int (nI 1))]) (by decide) rfl (Nat.le_of_ble_eq_true rfl) rfl ?_
  intro pg_ ev_ s_ mi_ below meth cd_ A ls hC hB hl
  obtain ⟨hx, hb, hr, hml, hown, hts, hlocks, hK, hA⟩ := id hC
  have lk_41 := hts (.fieldLink RX1 41 "RiddlePrison$Foresight" "prison" "LRiddlePrison$Prison;") (by decide +kernel)
  have ln_85 := (by decide +kernel : Cond.fieldLinkNest RX1 85 "RiddlePrison$Prison" "doorCount" "I" "RiddlePrison" ∈ nsW)
  have in_X1 := (fun w h => List.mem_cons_of_mem _ (List.mem_append_left _ (List.mem_append_left _ (List.mem_append_right _ h))) : ∀ w ∈ wsX10, w ∈ wsX1_getsThereStill)
  have in_X4 := (fun w h => List.mem_cons_of_mem _ (List.mem_append_left _ (List.mem_append_right _ h)) : ∀ w ∈ wsX40, w ∈ wsX1_getsThereStill)
  refine lv_iload_n hx hb dX1_getsThereStill_0 rfl (lv_at hl 1 rfl) ?_
  refine lv_iload_n hx hb dX1_getsThereStill_1 rfl (lv_at hl 2 rfl) ?_
  refine jn_icmp_ne (tgt := 7) hx hb dX1_getsThereStill_2 (by decide) (by omega) (by omega) (fun c_2 => ?_) (fun c_2 => ?_)
  · refine lv_iload hx hb dX1_getsThereStill_7 (lv_at hl 4 rfl) ?_
    refine jn_if_gt (tgt := 14) hx hb dX1_getsThereStill_9 (by decide) (by omega) (fun c_9 => ?_) (fun c_9 => ?_)
    · refine lv_iconst (v := nI 0) hx hb dX1_getsThereStill_14 (by decide) ?_
      refine lv_istore (lv' := [(5, .int (nI 0)), (0, .ref (G.2.2.1 (11, 0, 0))), (1, .int (nI here)), (2, .int (nI cell)), (3, .int sh), (4, .int (nI 1))]) hx hb dX1_getsThereStill_15 hl (by decide) rfl (fun ls hl => ?_)
      have lp_17 : ∀ (fu : Nat) (d : Nat), nd - d < fu → (d ≤ nd) → (it (allS (fun e => gtB (I 0) op nd cell 1 here (sh ||| bitI e))) d true = true) → ∀ H locs ls, jB G A s_.heap (I, J, O) H locs → lv_has ls 6 [(5, .int (nI d)), (0, .ref (G.2.2.1 (11, 0, 0))), (1, .int (nI here)), (2, .int (nI cell)), (3, .int sh), (4, .int (nI 1))] → W pg_ l_ ev_ ({ frames := 2, cells := 0, slots := 0, locals := 50 }) s_ mi_ ([.ref (G.2.2.1 (11, 0, 0)), .int (nI here), .int (nI cell), .int sh, .int (nI 1)]).toArray below meth cd_ H locs 0 0 (jQi G A below [.ref (G.2.2.1 (11, 0, 0)), .int (nI here), .int (nI cell), .int sh, .int (nI 1)] s_ (fun r u => r = b2 (gsB (I 0) op nd cell 1 here sh) ∧ u = (I, J, O))) (F0 mi_ 17 ls []) := by
        intro fu
        induction fu with
        | zero => intro d hf; exact absurd hf (Nat.not_lt_zero _)
        | succ fu ih_17 =>
          intro d hf_17 hd hs H locs ls hB hl
          refine lv_iload hx hb dX1_getsThereStill_17 (lv_at hl 0 rfl) ?_
          refine lv_aload_n hx hb dX1_getsThereStill_19 rfl (lv_at hl 1 rfl) ?_
          refine j_get (11, 0, 0) 0 (v := .ref (G.2.2.1 (1, 0, 0))) hC hB in_X1 lk_41 dX1_getsThereStill_20 jk11 rfl rfl (by decide) rfl ?_
          refine j_getN (1, 0, 0) 2 (v := .int (I 0 0)) hC hB in_X4 ln_85 dX1_getsThereStill_23 (jk1 (by omega)) rfl rfl (by decide) rfl ?_
          refine j_eqi (x := I 0 0) (y := nI nd) (hD) ?_
          refine jn_icmp_ge (tgt := 54) hx hb dX1_getsThereStill_26 (by decide) (by omega) (by omega) (fun c_26 => ?_) (fun c_26 => ?_)
          · refine lv_iconst (v := nI 1) hx hb dX1_getsThereStill_54 (by decide) ?_
            exact j_zret hC hB dX1_getsThereStill_55 (by decide) (⟨by rw [show d = nd by omega] at hs; rw [gsB, hs]; simp [b2], rfl⟩)
          · refine lv_aload_n hx hb dX1_getsThereStill_29 rfl (lv_at hl 1 rfl) ?_
            refine lv_iload_n hx hb dX1_getsThereStill_30 rfl (lv_at hl 2 rfl) ?_
            refine lv_iload_n hx hb dX1_getsThereStill_31 rfl (lv_at hl 3 rfl) ?_
            refine lv_iload_n hx hb dX1_getsThereStill_32 rfl (lv_at hl 4 rfl) ?_
            refine lv_iconst (v := nI 1) hx hb dX1_getsThereStill_33 (by decide) ?_
            refine lv_iload hx hb dX1_getsThereStill_34 (lv_at hl 0 rfl) ?_
            refine lv_ishl hx hb dX1_getsThereStill_36 ?_
            refine lv_ior hx hb dX1_getsThereStill_37 ?_
            refine lv_iload hx hb dX1_getsThereStill_38 (lv_at hl 5 rfl) ?_
            refine j_cvi (11, 0, 0) [.int (nI here), .int (nI cell), .int (sh ||| ((nI 1) <<< ((nI d) &&& 31))), .int (nI 1)] hC hB hl.1 (c_X1_getsThere_1 l_ G I J O here cell (sh ||| ((nI 1) <<< ((nI d) &&& 31))) (op) (ho) (by omega) (by omega) (by omega) (hD) (hW)) (cwV 4 hts gX1_getsThereStill_X1_getsThere rfl rfl rfl (by decide +kernel) ⟨by decide, by decide⟩) dX1_getsThereStill_40 jk11 rfl rfl rfl rfl (Nat.le_of_ble_eq_true rfl) (fun r_40 u_40 H locs hp_40 hB => ?_)
            obtain ⟨rfl, rfl⟩ := hp_40
            refine jb_if_ne (tgt := 48) hx hb dX1_getsThereStill_43 (by decide) (fun c_43 => ?_) (fun c_43 => ?_)
            · refine lv_iinc (v := nI (d + 1)) (lv' := [(5, .int (nI (d + 1))), (0, .ref (G.2.2.1 (11, 0, 0))), (1, .int (nI here)), (2, .int (nI cell)), (3, .int sh), (4, .int (nI 1))]) hx hb dX1_getsThereStill_48 hl (k := 0) rfl (jn_inc _ 1) (by decide) rfl (fun ls hl => ?_)
              refine lv_goto (tgt := 17) hx hb dX1_getsThereStill_51 (by decide) ?_
              exact ih_17 (d + 1) (by omega) (by omega) (by rw [it_s, hs]; simp [allS, bitI, c_43]) _ _ _ hB (lv_sub hl [0, 1, 2, 3, 4, 5] rfl)
            · refine lv_iconst (v := nI 0) hx hb dX1_getsThereStill_46 (by decide) ?_
              exact j_zret hC hB dX1_getsThereStill_47 (by decide) (⟨by rw [gsB, all_stop (d := d + 1) (by omega) (by rw [it_s, hs]; simp [allS, bitI, c_43])]; simp [b2, c_2], rfl⟩)
      exact lp_17 _ 0 (Nat.lt_succ_self _) (by omega) (rfl) _ _ _ hB (lv_sub hl [0, 1, 2, 3, 4, 5] rfl)
    · exact absurd c_9 (by omega)
  · refine lv_iconst (v := nI 1) hx hb dX1_getsThereStill_5 (by decide) ?_
    exact j_zret hC hB dX1_getsThereStill_6 (by decide) (⟨by rw [c_2]; simp [gsB, b2], rfl⟩)

set_option maxHeartbeats 4000000 in
set_option maxRecDepth 100000 in
theorem c_X1_getsThere_2 (l_ : Launch) (G : jG) (I : Nat → Nat → Int32) (J : Nat → Nat → Int64) (O : Nat → Nat → Nat) (here cell : Nat) (sh : Int32) (op : Nat → Int32) (ho : ∀ j, j < 8 → I 27 j = op j) (hhe : here < 8) (hce : cell < 8) {nd : Nat} (hnd : nd ≤ 10) (hD : I 0 0 = nI nd) (hW : wfD (I 0) nd) : jMi l_ G yX1_getsThere wsX1_getsThere ({ frames := 3, cells := 0, slots := 0, locals := 75 }) [.ref (G.2.2.1 (11, 0, 0)), .int (nI here), .int (nI cell), .int sh, .int (nI 2)] (I, J, O) (fun r u => r = b2 (gtB (I 0) op nd cell 2 here sh) ∧ u = (I, J, O)) := by
  refine jMi_of (cc := cX1_getsThere) (maxL := 6) (ret := (some .boolean)) (lv0 := [(0, .ref (G.2.2.1 (11, 0, 0))), (1, .int (nI here)), (2, .int (nI cell)), (3, .int sh), (4, .int (nI 2))]) (by decide) rfl (Nat.le_of_ble_eq_true rfl) rfl ?_
  intro pg_ ev_ s_ mi_ below meth cd_ A ls hC hB hl
  obtain ⟨hx, hb, hr, hml, hown, hts, hlocks, hK, hA⟩ := id hC
  have lk_41 := hts (.fieldLink RX1 41 "RiddlePrison$Foresight" "prison" "LRiddlePrison$Prison;") (by decide +kernel)
  have ln_85 := (by decide +kernel : Cond.fieldLinkNest RX1 85 "RiddlePrison$Prison" "doorCount" "I" "RiddlePrison" ∈ nsW)
  have ln_92 := (by decide +kernel : Cond.fieldLinkNest RX1 92 "RiddlePrison$Prison" "doors" "[LRiddlePrison$Door;" "RiddlePrison" ∈ nsW)
  have in_X1 := (fun w h => List.mem_cons_of_mem _ (List.mem_append_left _ (List.mem_append_left _ (List.mem_append_right _ h))) : ∀ w ∈ wsX10, w ∈ wsX1_getsThere)
  have in_X4 := (fun w h => List.mem_cons_of_mem _ (List.mem_append_left _ (List.mem_append_right _ h)) : ∀ w ∈ wsX40, w ∈ wsX1_getsThere)
  refine lv_iload_n hx hb dX1_getsThere_0 rfl (lv_at hl 1 rfl) ?_
  refine lv_iload_n hx hb dX1_getsThere_1 rfl (lv_at hl 2 rfl) ?_
  refine jn_icmp_ne (tgt := 7) hx hb dX1_getsThere_2 (by decide) (by omega) (by omega) (fun c_2 => ?_) (fun c_2 => ?_)
  · refine lv_iload hx hb dX1_getsThere_7 (lv_at hl 4 rfl) ?_
    refine jn_if_gt (tgt := 14) hx hb dX1_getsThere_9 (by decide) (by omega) (fun c_9 => ?_) (fun c_9 => ?_)
    · refine lv_iconst (v := nI 0) hx hb dX1_getsThere_14 (by decide) ?_
      refine lv_istore (lv' := [(5, .int (nI 0)), (0, .ref (G.2.2.1 (11, 0, 0))), (1, .int (nI here)), (2, .int (nI cell)), (3, .int sh), (4, .int (nI 2))]) hx hb dX1_getsThere_15 hl (by decide) rfl (fun ls hl => ?_)
      have lp_17 : ∀ (fu : Nat) (d : Nat), nd - d < fu → (d ≤ nd) → (it (anyS (fun d => ioB op here d sh && gsB (I 0) op nd cell 1 (beN (I 0) d here) sh)) d false = false) → ∀ H locs ls, jB G A s_.heap (I, J, O) H locs → lv_has ls 6 [(5, .int (nI d)), (0, .ref (G.2.2.1 (11, 0, 0))), (1, .int (nI here)), (2, .int (nI cell)), (3, .int sh), (4, .int (nI 2))] → W pg_ l_ ev_ ({ frames := 3, cells := 0, slots := 0, locals := 75 }) s_ mi_ ([.ref (G.2.2.1 (11, 0, 0)), .int (nI here), .int (nI cell), .int sh, .int (nI 2)]).toArray below meth cd_ H locs 0 0 (jQi G A below [.ref (G.2.2.1 (11, 0, 0)), .int (nI here), .int (nI cell), .int sh, .int (nI 2)] s_ (fun r u => r = b2 (gtB (I 0) op nd cell 2 here sh) ∧ u = (I, J, O))) (F0 mi_ 17 ls []) := by
        intro fu
        induction fu with
        | zero => intro d hf; exact absurd hf (Nat.not_lt_zero _)
        | succ fu ih_17 =>
          intro d hf_17 hd hs H locs ls hB hl
          refine lv_iload hx hb dX1_getsThere_17 (lv_at hl 0 rfl) ?_
          refine lv_aload_n hx hb dX1_getsThere_19 rfl (lv_at hl 1 rfl) ?_
          refine j_get (11, 0, 0) 0 (v := .ref (G.2.2.1 (1, 0, 0))) hC hB in_X1 lk_41 dX1_getsThere_20 jk11 rfl rfl (by decide) rfl ?_
          refine j_getN (1, 0, 0) 2 (v := .int (I 0 0)) hC hB in_X4 ln_85 dX1_getsThere_23 (jk1 (by omega)) rfl rfl (by decide) rfl ?_
          refine j_eqi (x := I 0 0) (y := nI nd) (hD) ?_
          refine jn_icmp_ge (tgt := 75) hx hb dX1_getsThere_26 (by decide) (by omega) (by omega) (fun c_26 => ?_) (fun c_26 => ?_)
          · refine lv_iconst (v := nI 0) hx hb dX1_getsThere_75 (by decide) ?_
            exact j_zret hC hB dX1_getsThere_76 (by decide) (⟨by rw [show d = nd by omega] at hs; rw [gtB_s, hs]; simp [b2, c_2], rfl⟩)
          · refine lv_aload_n hx hb dX1_getsThere_29 rfl (lv_at hl 1 rfl) ?_
            refine lv_iload_n hx hb dX1_getsThere_30 rfl (lv_at hl 2 rfl) ?_
            refine lv_iload hx hb dX1_getsThere_31 (lv_at hl 0 rfl) ?_
            refine lv_iload_n hx hb dX1_getsThere_33 rfl (lv_at hl 4 rfl) ?_
            refine j_cvi (11, 0, 0) [.int (nI here), .int (nI d), .int sh] hC hB hl.1 (c_X1_isOpen l_ G I J O here d sh (by omega)) (cwV 3 hts gX1_getsThere_X1_isOpen rfl rfl rfl (by decide +kernel) ⟨by decide, by decide⟩) dX1_getsThere_34 jk11 rfl rfl rfl rfl (Nat.le_of_ble_eq_true rfl) (fun r_34 u_34 H locs hp_34 hB => ?_)
            obtain ⟨rfl, rfl⟩ := hp_34
            refine j_eqi (y := b2 (ioB op here d sh)) (by rw [ioB_cong (ho _ hhe)]) ?_
            refine jb_if_eq (tgt := 69) hx hb dX1_getsThere_37 (by decide) (fun c_37 => ?_) (fun c_37 => ?_)
            · refine lv_iinc (v := nI (d + 1)) (lv' := [(5, .int (nI (d + 1))), (0, .ref (G.2.2.1 (11, 0, 0))), (1, .int (nI here)), (2, .int (nI cell)), (3, .int sh), (4, .int (nI 2))]) hx hb dX1_getsThere_69 hl (k := 0) rfl (jn_inc _ 1) (by decide) rfl (fun ls hl => ?_)
              refine lv_goto (tgt := 17) hx hb dX1_getsThere_72 (by decide) ?_
              exact ih_17 (d + 1) (by omega) (by omega) (by rw [it_s, hs]; simp [anyS, c_37]) _ _ _ hB (lv_sub hl [0, 1, 2, 3, 4, 5] rfl)
            · refine lv_aload_n hx hb dX1_getsThere_40 rfl (lv_at hl 1 rfl) ?_
              refine lv_aload_n hx hb dX1_getsThere_41 rfl (lv_at hl 1 rfl) ?_
              refine j_get (11, 0, 0) 0 (v := .ref (G.2.2.1 (1, 0, 0))) hC hB in_X1 lk_41 dX1_getsThere_42 jk11 rfl rfl (by decide) rfl ?_
              refine j_getN (1, 0, 0) 0 (v := .ref (G.2.2.1 (2, 0, 0))) hC hB in_X4 ln_92 dX1_getsThere_45 (jk1 (by omega)) rfl rfl (by decide) rfl ?_
              refine lv_iload hx hb dX1_getsThere_48 (lv_at hl 0 rfl) ?_
              refine j_ald (2, 0, 0) (4, 0, d) 3 d hC hB dX1_getsThere_50 (jk2 (by omega)) rfl rfl rfl (by omega) (by decide) rfl ?_
              refine lv_iload_n hx hb dX1_getsThere_51 rfl (lv_at hl 2 rfl) ?_
              refine j_cvi (4, 0, d) [.int (nI here)] hC hB hl.1 (c_X0_beyond l_ G I J O 0 d (nI here) ((jk4 (by omega) (by omega)))) (cwV 1 hts gX1_getsThere_X0_beyond rfl rfl rfl (by decide +kernel) ⟨by decide, by decide⟩) dX1_getsThere_52 (jk4 (by omega) (by omega)) rfl rfl rfl rfl (Nat.le_of_ble_eq_true rfl) (fun r_52 u_52 H locs hp_52 hB => ?_)
              obtain ⟨rfl, rfl⟩ := hp_52
              have hbe := be_ok (c := here) hW (show d < nd by omega)
              refine j_eqi hbe.1 ?_
              refine lv_iload_n hx hb dX1_getsThere_55 rfl (lv_at hl 3 rfl) ?_
              refine lv_iload_n hx hb dX1_getsThere_56 rfl (lv_at hl 4 rfl) ?_
              refine lv_iload hx hb dX1_getsThere_57 (lv_at hl 5 rfl) ?_
              refine lv_iconst (v := nI 1) hx hb dX1_getsThere_59 (by decide) ?_
              refine jn_isub hx hb dX1_getsThere_60 (by omega) ?_
              refine j_eqi (y := nI 1) rfl ?_
              refine j_cvi (11, 0, 0) [.int (nI (beN (I 0) d here)), .int (nI cell), .int sh, .int (nI 1)] hC hB hl.1 (c_X1_getsThereStill_1 l_ G I J O (beN (I 0) d here) cell sh (op) (ho) (by omega) (by omega) (by omega) (hD) (hW)) (cwV 4 hts gX1_getsThere_X1_getsThereStill rfl rfl rfl (by decide +kernel) ⟨by decide, by decide⟩) dX1_getsThere_61 jk11 rfl rfl rfl rfl (Nat.le_of_ble_eq_true rfl) (fun r_61 u_61 H locs hp_61 hB => ?_)
              obtain ⟨rfl, rfl⟩ := hp_61
              refine jb_if_eq (tgt := 69) hx hb dX1_getsThere_64 (by decide) (fun c_64 => ?_) (fun c_64 => ?_)
              · refine lv_iinc (v := nI (d + 1)) (lv' := [(5, .int (nI (d + 1))), (0, .ref (G.2.2.1 (11, 0, 0))), (1, .int (nI here)), (2, .int (nI cell)), (3, .int sh), (4, .int (nI 2))]) hx hb dX1_getsThere_69 hl (k := 0) rfl (jn_inc _ 1) (by decide) rfl (fun ls hl => ?_)
                refine lv_goto (tgt := 17) hx hb dX1_getsThere_72 (by decide) ?_
                exact ih_17 (d + 1) (by omega) (by omega) (by rw [it_s, hs]; simp [anyS, c_37, c_64]) _ _ _ hB (lv_sub hl [0, 1, 2, 3, 4, 5] rfl)
              · refine lv_iconst (v := nI 1) hx hb dX1_getsThere_67 (by decide) ?_
                exact j_zret hC hB dX1_getsThere_68 (by decide) (⟨by rw [gtB_s, any_stop (d := d + 1) (by omega) (by rw [it_s, hs]; simp [anyS, c_37, c_64])]; simp [b2], rfl⟩)
      exact lp_17 _ 0 (Nat.lt_succ_self _) (by omega) (rfl) _ _ _ hB (lv_sub hl [0, 1, 2, 3, 4, 5] rfl)
    · exact absurd c_9 (by omega)
  · refine lv_iconst (v := nI 1) hx hb dX1_getsThere_5 (by decide) ?_
    exact j_zret hC hB dX1_getsThere_6 (by decide) (⟨by rw [c_2]; rw [gtB_s]; simp [b2], rfl⟩)

set_option maxHeartbeats 4000000 in
set_option maxRecDepth 100000 in
theorem c_X1_getsThereStill_2 (l_ : Launch) (G : jG) (I : Nat → Nat → Int32) (J : Nat → Nat → Int64) (O : Nat → Nat → Nat) (here cell : Nat) (sh : Int32) (op : Nat → Int32) (ho : ∀ j, j < 8 → I 27 j = op j) (hhe : here < 8) (hce : cell < 8) {nd : Nat} (hnd : nd ≤ 10) (hD : I 0 0 = nI nd) (hW : wfD (I 0) nd) : jMi l_ G yX1_getsThereStill wsX1_getsThereStill ({ frames := 4, cells := 0, slots := 0, locals := 100 }) [.ref (G.2.2.1 (11, 0, 0)), .int (nI here), .int (nI cell), .int sh, .int (nI 2)] (I, J, O) (fun r u => r = b2 (gsB (I 0) op nd cell 2 here sh) ∧ u = (I, J, O)) := by
  refine jMi_of (cc := cX1_getsThereStill) (maxL := 6) (ret := (some .boolean)) (lv0 := [(0, .ref (G.2.2.1 (11, 0, 0))), (1, .int (nI here)), (2, .int (nI cell)), (3, .int sh), (4, .int (nI 2))]) (by decide) rfl (Nat.le_of_ble_eq_true rfl) rfl ?_
  intro pg_ ev_ s_ mi_ below meth cd_ A ls hC hB hl
  obtain ⟨hx, hb, hr, hml, hown, hts, hlocks, hK, hA⟩ := id hC
  have lk_41 := hts (.fieldLink RX1 41 "RiddlePrison$Foresight" "prison" "LRiddlePrison$Prison;") (by decide +kernel)
  have ln_85 := (by decide +kernel : Cond.fieldLinkNest RX1 85 "RiddlePrison$Prison" "doorCount" "I" "RiddlePrison" ∈ nsW)
  have in_X1 := (fun w h => List.mem_cons_of_mem _ (List.mem_append_left _ (List.mem_append_left _ (List.mem_append_right _ h))) : ∀ w ∈ wsX10, w ∈ wsX1_getsThereStill)
  have in_X4 := (fun w h => List.mem_cons_of_mem _ (List.mem_append_left _ (List.mem_append_right _ h)) : ∀ w ∈ wsX40, w ∈ wsX1_getsThereStill)
  refine lv_iload_n hx hb dX1_getsThereStill_0 rfl (lv_at hl 1 rfl) ?_
  refine lv_iload_n hx hb dX1_getsThereStill_1 rfl (lv_at hl 2 rfl) ?_
  refine jn_icmp_ne (tgt := 7) hx hb dX1_getsThereStill_2 (by decide) (by omega) (by omega) (fun c_2 => ?_) (fun c_2 => ?_)
  · refine lv_iload hx hb dX1_getsThereStill_7 (lv_at hl 4 rfl) ?_
    refine jn_if_gt (tgt := 14) hx hb dX1_getsThereStill_9 (by decide) (by omega) (fun c_9 => ?_) (fun c_9 => ?_)
    · refine lv_iconst (v := nI 0) hx hb dX1_getsThereStill_14 (by decide) ?_
      refine lv_istore (lv' := [(5, .int (nI 0)), (0, .ref (G.2.2.1 (11, 0, 0))), (1, .int (nI here)), (2, .int (nI cell)), (3, .int sh), (4, .int (nI 2))]) hx hb dX1_getsThereStill_15 hl (by decide) rfl (fun ls hl => ?_)
      have lp_17 : ∀ (fu : Nat) (d : Nat), nd - d < fu → (d ≤ nd) → (it (allS (fun e => gtB (I 0) op nd cell 2 here (sh ||| bitI e))) d true = true) → ∀ H locs ls, jB G A s_.heap (I, J, O) H locs → lv_has ls 6 [(5, .int (nI d)), (0, .ref (G.2.2.1 (11, 0, 0))), (1, .int (nI here)), (2, .int (nI cell)), (3, .int sh), (4, .int (nI 2))] → W pg_ l_ ev_ ({ frames := 4, cells := 0, slots := 0, locals := 100 }) s_ mi_ ([.ref (G.2.2.1 (11, 0, 0)), .int (nI here), .int (nI cell), .int sh, .int (nI 2)]).toArray below meth cd_ H locs 0 0 (jQi G A below [.ref (G.2.2.1 (11, 0, 0)), .int (nI here), .int (nI cell), .int sh, .int (nI 2)] s_ (fun r u => r = b2 (gsB (I 0) op nd cell 2 here sh) ∧ u = (I, J, O))) (F0 mi_ 17 ls []) := by
        intro fu
        induction fu with
        | zero => intro d hf; exact absurd hf (Nat.not_lt_zero _)
        | succ fu ih_17 =>
          intro d hf_17 hd hs H locs ls hB hl
          refine lv_iload hx hb dX1_getsThereStill_17 (lv_at hl 0 rfl) ?_
          refine lv_aload_n hx hb dX1_getsThereStill_19 rfl (lv_at hl 1 rfl) ?_
          refine j_get (11, 0, 0) 0 (v := .ref (G.2.2.1 (1, 0, 0))) hC hB in_X1 lk_41 dX1_getsThereStill_20 jk11 rfl rfl (by decide) rfl ?_
          refine j_getN (1, 0, 0) 2 (v := .int (I 0 0)) hC hB in_X4 ln_85 dX1_getsThereStill_23 (jk1 (by omega)) rfl rfl (by decide) rfl ?_
          refine j_eqi (x := I 0 0) (y := nI nd) (hD) ?_
          refine jn_icmp_ge (tgt := 54) hx hb dX1_getsThereStill_26 (by decide) (by omega) (by omega) (fun c_26 => ?_) (fun c_26 => ?_)
          · refine lv_iconst (v := nI 1) hx hb dX1_getsThereStill_54 (by decide) ?_
            exact j_zret hC hB dX1_getsThereStill_55 (by decide) (⟨by rw [show d = nd by omega] at hs; rw [gsB, hs]; simp [b2], rfl⟩)
          · refine lv_aload_n hx hb dX1_getsThereStill_29 rfl (lv_at hl 1 rfl) ?_
            refine lv_iload_n hx hb dX1_getsThereStill_30 rfl (lv_at hl 2 rfl) ?_
            refine lv_iload_n hx hb dX1_getsThereStill_31 rfl (lv_at hl 3 rfl) ?_
            refine lv_iload_n hx hb dX1_getsThereStill_32 rfl (lv_at hl 4 rfl) ?_
            refine lv_iconst (v := nI 1) hx hb dX1_getsThereStill_33 (by decide) ?_
            refine lv_iload hx hb dX1_getsThereStill_34 (lv_at hl 0 rfl) ?_
            refine lv_ishl hx hb dX1_getsThereStill_36 ?_
            refine lv_ior hx hb dX1_getsThereStill_37 ?_
            refine lv_iload hx hb dX1_getsThereStill_38 (lv_at hl 5 rfl) ?_
            refine j_cvi (11, 0, 0) [.int (nI here), .int (nI cell), .int (sh ||| ((nI 1) <<< ((nI d) &&& 31))), .int (nI 2)] hC hB hl.1 (c_X1_getsThere_2 l_ G I J O here cell (sh ||| ((nI 1) <<< ((nI d) &&& 31))) (op) (ho) (by omega) (by omega) (by omega) (hD) (hW)) (cwV 4 hts gX1_getsThereStill_X1_getsThere rfl rfl rfl (by decide +kernel) ⟨by decide, by decide⟩) dX1_getsThereStill_40 jk11 rfl rfl rfl rfl (Nat.le_of_ble_eq_true rfl) (fun r_40 u_40 H locs hp_40 hB => ?_)
            obtain ⟨rfl, rfl⟩ := hp_40
            refine jb_if_ne (tgt := 48) hx hb dX1_getsThereStill_43 (by decide) (fun c_43 => ?_) (fun c_43 => ?_)
            · refine lv_iinc (v := nI (d + 1)) (lv' := [(5, .int (nI (d + 1))), (0, .ref (G.2.2.1 (11, 0, 0))), (1, .int (nI here)), (2, .int (nI cell)), (3, .int sh), (4, .int (nI 2))]) hx hb dX1_getsThereStill_48 hl (k := 0) rfl (jn_inc _ 1) (by decide) rfl (fun ls hl => ?_)
              refine lv_goto (tgt := 17) hx hb dX1_getsThereStill_51 (by decide) ?_
              exact ih_17 (d + 1) (by omega) (by omega) (by rw [it_s, hs]; simp [allS, bitI, c_43]) _ _ _ hB (lv_sub hl [0, 1, 2, 3, 4, 5] rfl)
            · refine lv_iconst (v := nI 0) hx hb dX1_getsThereStill_46 (by decide) ?_
              exact j_zret hC hB dX1_getsThereStill_47 (by decide) (⟨by rw [gsB, all_stop (d := d + 1) (by omega) (by rw [it_s, hs]; simp [allS, bitI, c_43])]; simp [b2, c_2], rfl⟩)
      exact lp_17 _ 0 (Nat.lt_succ_self _) (by omega) (rfl) _ _ _ hB (lv_sub hl [0, 1, 2, 3, 4, 5] rfl)
    · exact absurd c_9 (by omega)
  · refine lv_iconst (v := nI 1) hx hb dX1_getsThereStill_5 (by decide) ?_
    exact j_zret hC hB dX1_getsThereStill_6 (by decide) (⟨by rw [c_2]; simp [gsB, b2], rfl⟩)

set_option maxHeartbeats 4000000 in
set_option maxRecDepth 100000 in
theorem c_X1_getsThere_3 (l_ : Launch) (G : jG) (I : Nat → Nat → Int32) (J : Nat → Nat → Int64) (O : Nat → Nat → Nat) (here cell : Nat) (sh : Int32) (op : Nat → Int32) (ho : ∀ j, j < 8 → I 27 j = op j) (hhe : here < 8) (hce : cell < 8) {nd : Nat} (hnd : nd ≤ 10) (hD : I 0 0 = nI nd) (hW : wfD (I 0) nd) : jMi l_ G yX1_getsThere wsX1_getsThere ({ frames := 5, cells := 0, slots := 0, locals := 125 }) [.ref (G.2.2.1 (11, 0, 0)), .int (nI here), .int (nI cell), .int sh, .int (nI 3)] (I, J, O) (fun r u => r = b2 (gtB (I 0) op nd cell 3 here sh) ∧ u = (I, J, O)) := by
  refine jMi_of (cc := cX1_getsThere) (maxL := 6) (ret := (some .boolean)) (lv0 := [(0, .ref (G.2.2.1 (11, 0, 0))), (1, .int (nI here)), (2, .int (nI cell)), (3, .int sh), (4, .int (nI 3))]) (by decide) rfl (Nat.le_of_ble_eq_true rfl) rfl ?_
  intro pg_ ev_ s_ mi_ below meth cd_ A ls hC hB hl
  obtain ⟨hx, hb, hr, hml, hown, hts, hlocks, hK, hA⟩ := id hC
  have lk_41 := hts (.fieldLink RX1 41 "RiddlePrison$Foresight" "prison" "LRiddlePrison$Prison;") (by decide +kernel)
  have ln_85 := (by decide +kernel : Cond.fieldLinkNest RX1 85 "RiddlePrison$Prison" "doorCount" "I" "RiddlePrison" ∈ nsW)
  have ln_92 := (by decide +kernel : Cond.fieldLinkNest RX1 92 "RiddlePrison$Prison" "doors" "[LRiddlePrison$Door;" "RiddlePrison" ∈ nsW)
  have in_X1 := (fun w h => List.mem_cons_of_mem _ (List.mem_append_left _ (List.mem_append_left _ (List.mem_append_right _ h))) : ∀ w ∈ wsX10, w ∈ wsX1_getsThere)
  have in_X4 := (fun w h => List.mem_cons_of_mem _ (List.mem_append_left _ (List.mem_append_right _ h)) : ∀ w ∈ wsX40, w ∈ wsX1_getsThere)
  refine lv_iload_n hx hb dX1_getsThere_0 rfl (lv_at hl 1 rfl) ?_
  refine lv_iload_n hx hb dX1_getsThere_1 rfl (lv_at hl 2 rfl) ?_
  refine jn_icmp_ne (tgt := 7) hx hb dX1_getsThere_2 (by decide) (by omega) (by omega) (fun c_2 => ?_) (fun c_2 => ?_)
  · refine lv_iload hx hb dX1_getsThere_7 (lv_at hl 4 rfl) ?_
    refine jn_if_gt (tgt := 14) hx hb dX1_getsThere_9 (by decide) (by omega) (fun c_9 => ?_) (fun c_9 => ?_)
    · refine lv_iconst (v := nI 0) hx hb dX1_getsThere_14 (by decide) ?_
      refine lv_istore (lv' := [(5, .int (nI 0)), (0, .ref (G.2.2.1 (11, 0, 0))), (1, .int (nI here)), (2, .int (nI cell)), (3, .int sh), (4, .int (nI 3))]) hx hb dX1_getsThere_15 hl (by decide) rfl (fun ls hl => ?_)
      have lp_17 : ∀ (fu : Nat) (d : Nat), nd - d < fu → (d ≤ nd) → (it (anyS (fun d => ioB op here d sh && gsB (I 0) op nd cell 2 (beN (I 0) d here) sh)) d false = false) → ∀ H locs ls, jB G A s_.heap (I, J, O) H locs → lv_has ls 6 [(5, .int (nI d)), (0, .ref (G.2.2.1 (11, 0, 0))), (1, .int (nI here)), (2, .int (nI cell)), (3, .int sh), (4, .int (nI 3))] → W pg_ l_ ev_ ({ frames := 5, cells := 0, slots := 0, locals := 125 }) s_ mi_ ([.ref (G.2.2.1 (11, 0, 0)), .int (nI here), .int (nI cell), .int sh, .int (nI 3)]).toArray below meth cd_ H locs 0 0 (jQi G A below [.ref (G.2.2.1 (11, 0, 0)), .int (nI here), .int (nI cell), .int sh, .int (nI 3)] s_ (fun r u => r = b2 (gtB (I 0) op nd cell 3 here sh) ∧ u = (I, J, O))) (F0 mi_ 17 ls []) := by
        intro fu
        induction fu with
        | zero => intro d hf; exact absurd hf (Nat.not_lt_zero _)
        | succ fu ih_17 =>
          intro d hf_17 hd hs H locs ls hB hl
          refine lv_iload hx hb dX1_getsThere_17 (lv_at hl 0 rfl) ?_
          refine lv_aload_n hx hb dX1_getsThere_19 rfl (lv_at hl 1 rfl) ?_
          refine j_get (11, 0, 0) 0 (v := .ref (G.2.2.1 (1, 0, 0))) hC hB in_X1 lk_41 dX1_getsThere_20 jk11 rfl rfl (by decide) rfl ?_
          refine j_getN (1, 0, 0) 2 (v := .int (I 0 0)) hC hB in_X4 ln_85 dX1_getsThere_23 (jk1 (by omega)) rfl rfl (by decide) rfl ?_
          refine j_eqi (x := I 0 0) (y := nI nd) (hD) ?_
          refine jn_icmp_ge (tgt := 75) hx hb dX1_getsThere_26 (by decide) (by omega) (by omega) (fun c_26 => ?_) (fun c_26 => ?_)
          · refine lv_iconst (v := nI 0) hx hb dX1_getsThere_75 (by decide) ?_
            exact j_zret hC hB dX1_getsThere_76 (by decide) (⟨by rw [show d = nd by omega] at hs; rw [gtB_s, hs]; simp [b2, c_2], rfl⟩)
          · refine lv_aload_n hx hb dX1_getsThere_29 rfl (lv_at hl 1 rfl) ?_
            refine lv_iload_n hx hb dX1_getsThere_30 rfl (lv_at hl 2 rfl) ?_
            refine lv_iload hx hb dX1_getsThere_31 (lv_at hl 0 rfl) ?_
            refine lv_iload_n hx hb dX1_getsThere_33 rfl (lv_at hl 4 rfl) ?_
            refine j_cvi (11, 0, 0) [.int (nI here), .int (nI d), .int sh] hC hB hl.1 (c_X1_isOpen l_ G I J O here d sh (by omega)) (cwV 3 hts gX1_getsThere_X1_isOpen rfl rfl rfl (by decide +kernel) ⟨by decide, by decide⟩) dX1_getsThere_34 jk11 rfl rfl rfl rfl (Nat.le_of_ble_eq_true rfl) (fun r_34 u_34 H locs hp_34 hB => ?_)
            obtain ⟨rfl, rfl⟩ := hp_34
            refine j_eqi (y := b2 (ioB op here d sh)) (by rw [ioB_cong (ho _ hhe)]) ?_
            refine jb_if_eq (tgt := 69) hx hb dX1_getsThere_37 (by decide) (fun c_37 => ?_) (fun c_37 => ?_)
            · refine lv_iinc (v := nI (d + 1)) (lv' := [(5, .int (nI (d + 1))), (0, .ref (G.2.2.1 (11, 0, 0))), (1, .int (nI here)), (2, .int (nI cell)), (3, .int sh), (4, .int (nI 3))]) hx hb dX1_getsThere_69 hl (k := 0) rfl (jn_inc _ 1) (by decide) rfl (fun ls hl => ?_)
              refine lv_goto (tgt := 17) hx hb dX1_getsThere_72 (by decide) ?_
              exact ih_17 (d + 1) (by omega) (by omega) (by rw [it_s, hs]; simp [anyS, c_37]) _ _ _ hB (lv_sub hl [0, 1, 2, 3, 4, 5] rfl)
            · refine lv_aload_n hx hb dX1_getsThere_40 rfl (lv_at hl 1 rfl) ?_
              refine lv_aload_n hx hb dX1_getsThere_41 rfl (lv_at hl 1 rfl) ?_
              refine j_get (11, 0, 0) 0 (v := .ref (G.2.2.1 (1, 0, 0))) hC hB in_X1 lk_41 dX1_getsThere_42 jk11 rfl rfl (by decide) rfl ?_
              refine j_getN (1, 0, 0) 0 (v := .ref (G.2.2.1 (2, 0, 0))) hC hB in_X4 ln_92 dX1_getsThere_45 (jk1 (by omega)) rfl rfl (by decide) rfl ?_
              refine lv_iload hx hb dX1_getsThere_48 (lv_at hl 0 rfl) ?_
              refine j_ald (2, 0, 0) (4, 0, d) 3 d hC hB dX1_getsThere_50 (jk2 (by omega)) rfl rfl rfl (by omega) (by decide) rfl ?_
              refine lv_iload_n hx hb dX1_getsThere_51 rfl (lv_at hl 2 rfl) ?_
              refine j_cvi (4, 0, d) [.int (nI here)] hC hB hl.1 (c_X0_beyond l_ G I J O 0 d (nI here) ((jk4 (by omega) (by omega)))) (cwV 1 hts gX1_getsThere_X0_beyond rfl rfl rfl (by decide +kernel) ⟨by decide, by decide⟩) dX1_getsThere_52 (jk4 (by omega) (by omega)) rfl rfl rfl rfl (Nat.le_of_ble_eq_true rfl) (fun r_52 u_52 H locs hp_52 hB => ?_)
              obtain ⟨rfl, rfl⟩ := hp_52
              have hbe := be_ok (c := here) hW (show d < nd by omega)
              refine j_eqi hbe.1 ?_
              refine lv_iload_n hx hb dX1_getsThere_55 rfl (lv_at hl 3 rfl) ?_
              refine lv_iload_n hx hb dX1_getsThere_56 rfl (lv_at hl 4 rfl) ?_
              refine lv_iload hx hb dX1_getsThere_57 (lv_at hl 5 rfl) ?_
              refine lv_iconst (v := nI 1) hx hb dX1_getsThere_59 (by decide) ?_
              refine jn_isub hx hb dX1_getsThere_60 (by omega) ?_
              refine j_eqi (y := nI 2) rfl ?_
              refine j_cvi (11, 0, 0) [.int (nI (beN (I 0) d here)), .int (nI cell), .int sh, .int (nI 2)] hC hB hl.1 (c_X1_getsThereStill_2 l_ G I J O (beN (I 0) d here) cell sh (op) (ho) (by omega) (by omega) (by omega) (hD) (hW)) (cwV 4 hts gX1_getsThere_X1_getsThereStill rfl rfl rfl (by decide +kernel) ⟨by decide, by decide⟩) dX1_getsThere_61 jk11 rfl rfl rfl rfl (Nat.le_of_ble_eq_true rfl) (fun r_61 u_61 H locs hp_61 hB => ?_)
              obtain ⟨rfl, rfl⟩ := hp_61
              refine jb_if_eq (tgt := 69) hx hb dX1_getsThere_64 (by decide) (fun c_64 => ?_) (fun c_64 => ?_)
              · refine lv_iinc (v := nI (d + 1)) (lv' := [(5, .int (nI (d + 1))), (0, .ref (G.2.2.1 (11, 0, 0))), (1, .int (nI here)), (2, .int (nI cell)), (3, .int sh), (4, .int (nI 3))]) hx hb dX1_getsThere_69 hl (k := 0) rfl (jn_inc _ 1) (by decide) rfl (fun ls hl => ?_)
                refine lv_goto (tgt := 17) hx hb dX1_getsThere_72 (by decide) ?_
                exact ih_17 (d + 1) (by omega) (by omega) (by rw [it_s, hs]; simp [anyS, c_37, c_64]) _ _ _ hB (lv_sub hl [0, 1, 2, 3, 4, 5] rfl)
              · refine lv_iconst (v := nI 1) hx hb dX1_getsThere_67 (by decide) ?_
                exact j_zret hC hB dX1_getsThere_68 (by decide) (⟨by rw [gtB_s, any_stop (d := d + 1) (by omega) (by rw [it_s, hs]; simp [anyS, c_37, c_64])]; simp [b2], rfl⟩)
      exact lp_17 _ 0 (Nat.lt_succ_self _) (by omega) (rfl) _ _ _ hB (lv_sub hl [0, 1, 2, 3, 4, 5] rfl)
    · exact absurd c_9 (by omega)
  · refine lv_iconst (v := nI 1) hx hb dX1_getsThere_5 (by decide) ?_
    exact j_zret hC hB dX1_getsThere_6 (by decide) (⟨by rw [c_2]; rw [gtB_s]; simp [b2], rfl⟩)
