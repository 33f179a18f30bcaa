set_option maxHeartbeats 4000000 in
set_option maxRecDepth 100000 in
theorem c_X1_getsThere_u0 (l_ : Launch) (G : jG) (I : Nat → Nat → Int32) (J : Nat → Nat → Int64) (O : Nat → Nat → Nat) (here cell : Nat) (sh : Int32) (op : Nat → Int32) (ho : ∀ j, j < 8 → I 27 j = op j) (hhe : here < 8) (hce : cell < 8) {nd : Nat} (hnd : nd ≤ 10) (hD : I 0 0 = nI nd) (hW : wfD (I 0) nd) : jMi l_ G yX1_getsThere wsX1_getsThere ({ frames := 5, cells := 0, slots := 0, locals := 125 }) [.ref (G.2.2.1 (11, 0, 0)), .int (nI here), .int (nI cell), .int sh, .int (nI 0)] (I, J, O) (fun r u => r = b2 (gtB (I 0) op nd cell 0 here sh) ∧ u = (I, J, O)) := by
  refine jMi_of (cc := cX1_getsThere) (maxL := 6) (ret := (some .boolean)) (lv0 := [(0, .ref (G.2.2.1 (11, 0, 0))), (1, .int (nI here)), (2, .int (nI cell)), (3, .int sh), (4, .int (nI 0))]) (by decide) rfl (Nat.le_of_ble_eq_true rfl) rfl ?_
  intro pg_ ev_ s_ mi_ below meth cd_ A ls hC hB hl
  obtain ⟨hx, hb, hr, hml, hown, hts, hlocks, hK, hA⟩ := id hC
  refine lv_iload_n hx hb dX1_getsThere_0 rfl (lv_at hl 1 rfl) ?_
  refine lv_iload_n hx hb dX1_getsThere_1 rfl (lv_at hl 2 rfl) ?_
  refine jn_icmp_ne (tgt := 7) hx hb dX1_getsThere_2 (by decide) (by omega) (by omega) (fun c_2 => ?_) (fun c_2 => ?_)
  · refine lv_iload hx hb dX1_getsThere_7 (lv_at hl 4 rfl) ?_
    refine jn_if_gt (tgt := 14) hx hb dX1_getsThere_9 (by decide) (by omega) (fun c_9 => ?_) (fun c_9 => ?_)
    · exact absurd c_9 (by omega)
    · refine lv_iconst (v := nI 0) hx hb dX1_getsThere_12 (by decide) ?_
      exact j_zret hC hB dX1_getsThere_13 (by decide) (⟨by simp [gtB, c_2, b2], rfl⟩)
  · refine lv_iconst (v := nI 1) hx hb dX1_getsThere_5 (by decide) ?_
    exact j_zret hC hB dX1_getsThere_6 (by decide) (⟨by rw [c_2]; simp [gtB, b2], rfl⟩)


set_option maxHeartbeats 4000000 in
set_option maxRecDepth 100000 in
theorem c_X1_getsThere_u1 (l_ : Launch) (G : jG) (I : Nat → Nat → Int32) (J : Nat → Nat → Int64) (O : Nat → Nat → Nat) (here cell : Nat) (sh : Int32) (op : Nat → Int32) (ho : ∀ j, j < 8 → I 27 j = op j) (hhe : here < 8) (hce : cell < 8) {nd : Nat} (hnd : nd ≤ 10) (hD : I 0 0 = nI nd) (hW : wfD (I 0) nd) : jMi l_ G yX1_getsThere wsX1_getsThere ({ frames := 5, cells := 0, slots := 0, locals := 125 }) [.ref (G.2.2.1 (11, 0, 0)), .int (nI here), .int (nI cell), .int sh, .int (nI 1)] (I, J, O) (fun r u => r = b2 (gtB (I 0) op nd cell 1 here sh) ∧ u = (I, J, O)) := by
  refine jMi_of (cc := cX1_getsThere) (maxL := 6) (ret := (some .boolean)) (lv0 := [(0, .ref (G.2.2.1 (11, 0, 0))), (1, .int (nI here)), (2, .int (nI cell)), (3, .int sh), (4, .int (nI 1))]) (by decide) rfl (Nat.le_of_ble_eq_true rfl) rfl ?_
  intro pg_ ev_ s_ mi_ below meth cd_ A ls hC hB hl
  obtain ⟨hx, hb, hr, hml, hown, hts, hlocks, hK, hA⟩ := id hC
  have lk_41 := hts (.fieldLink RX1 41 "RiddlePrison$Foresight" "prison" "LRiddlePrison$Prison;") (by decide +kernel)
  have ln_85 := (by decide +kernel : Cond.fieldLinkNest RX1 85 "RiddlePrison$Prison" "doorCount" "I" "RiddlePrison" ∈ nsW)
  have ln_92 := (by decide +kernel : Cond.fieldLinkNest RX1 92 "RiddlePrison$Prison" "doors" "[LRiddlePrison$Door;" "RiddlePrison" ∈ nsW)
  have in_X1 := (fun w h => List.mem_cons_of_mem _ (List.mem_append_left _ (List.mem_append_left _ (List.mem_append_right _ h))) : ∀ w ∈ wsX10, w ∈ wsX1_getsThere)
  have in_X4 := (fun w h => List.mem_cons_of_mem _ (List.mem_append_left _ (List.mem_append_right _ h)) : ∀ w ∈ wsX40, w ∈ wsX1_getsThere)
  refine lv_iload_n hx hb dX1_getsThere_0 rfl (lv_at hl 1 rfl) ?_
  refine lv_iload_n hx hb dX1_getsThere_1 rfl (lv_at hl 2 rfl) ?_
  refine jn_icmp_ne (tgt := 7) hx hb dX1_getsThere_2 (by decide) (by omega) (by omega) (fun c_2 => ?_) (fun c_2 => ?_)
  · refine lv_iload hx hb dX1_getsThere_7 (lv_at hl 4 rfl) ?_
    refine jn_if_gt (tgt := 14) hx hb dX1_getsThere_9 (by decide) (by omega) (fun c_9 => ?_) (fun c_9 => ?_)
    · refine lv_iconst (v := nI 0) hx hb dX1_getsThere_14 (by decide) ?_
      refine lv_istore (lv' := [(5, .int (nI 0)), (0, .ref (G.2.2.1 (11, 0, 0))), (1, .int (nI here)), (2, .int (nI cell)), (3, .int sh), (4, .int (nI 1))]) hx hb dX1_getsThere_15 hl (by decide) rfl (fun ls hl => ?_)
      have lp_17 : ∀ (fu : Nat) (d : Nat), nd - d < fu → (d ≤ nd) → (it (anyS (fun d => ioB op here d sh && gsB (I 0) op nd cell 0 (beN (I 0) d here) sh)) d false = false) → ∀ H locs ls, jB G A s_.heap (I, J, O) H locs → lv_has ls 6 [(5, .int (nI d)), (0, .ref (G.2.2.1 (11, 0, 0))), (1, .int (nI here)), (2, .int (nI cell)), (3, .int sh), (4, .int (nI 1))] → W pg_ l_ ev_ ({ frames := 5, cells := 0, slots := 0, locals := 125 }) s_ mi_ ([.ref (G.2.2.1 (11, 0, 0)), .int (nI here), .int (nI cell), .int sh, .int (nI 1)]).toArray below meth cd_ H locs 0 0 (jQi G A below [.ref (G.2.2.1 (11, 0, 0)), .int (nI here), .int (nI cell), .int sh, .int (nI 1)] s_ (fun r u => r = b2 (gtB (I 0) op nd cell 1 here sh) ∧ u = (I, J, O))) (F0 mi_ 17 ls []) := by
        intro fu
        induction fu with
        | zero => intro d hf; exact absurd hf (Nat.not_lt_zero _)
        | succ fu ih_17 =>
          intro d hf_17 hd hs H locs ls hB hl
          refine lv_iload hx hb dX1_getsThere_17 (lv_at hl 0 rfl) ?_
          refine lv_aload_n hx hb dX1_getsThere_19 rfl (lv_at hl 1 rfl) ?_
          refine j_get (11, 0, 0) 0 (v := .ref (G.2.2.1 (1, 0, 0))) hC hB in_X1 lk_41 dX1_getsThere_20 jk11 rfl rfl (by decide) rfl ?_
          refine j_getN (1, 0, 0) 2 (v := .int (I 0 0)) hC hB in_X4 ln_85 dX1_getsThere_23 (jk1 (by omega)) rfl rfl (by decide) rfl ?_
          refine j_eqi (x := I 0 0) (y := nI nd) (hD) ?_
          refine jn_icmp_ge (tgt := 75) hx hb dX1_getsThere_26 (by decide) (by omega) (by omega) (fun c_26 => ?_) (fun c_26 => ?_)
          · refine lv_iconst (v := nI 0) hx hb dX1_getsThere_75 (by decide) ?_
            exact j_zret hC hB dX1_getsThere_76 (by decide) (⟨by rw [show d = nd by omega] at hs; rw [gtB_s, hs]; simp [b2, c_2], rfl⟩)
          · refine lv_aload_n hx hb dX1_getsThere_29 rfl (lv_at hl 1 rfl) ?_
            refine lv_iload_n hx hb dX1_getsThere_30 rfl (lv_at hl 2 rfl) ?_
            refine lv_iload hx hb dX1_getsThere_31 (lv_at hl 0 rfl) ?_
            refine lv_iload_n hx hb dX1_getsThere_33 rfl (lv_at hl 4 rfl) ?_
            refine j_cvi (11, 0, 0) [.int (nI here), .int (nI d), .int sh] hC hB hl.1 (c_X1_isOpen l_ G I J O here d sh (by omega)) (cwV 3 hts gX1_getsThere_X1_isOpen rfl rfl rfl (by decide +kernel) ⟨by decide, by decide⟩) dX1_getsThere_34 jk11 rfl rfl rfl rfl (Nat.le_of_ble_eq_true rfl) (fun r_34 u_34 H locs hp_34 hB => ?_)
            obtain ⟨rfl, rfl⟩ := hp_34
            refine j_eqi (y := b2 (ioB op here d sh)) (by rw [ioB_cong (ho _ hhe)]) ?_
            refine jb_if_eq (tgt := 69) hx hb dX1_getsThere_37 (by decide) (fun c_37 => ?_) (fun c_37 => ?_)
            · refine lv_iinc (v := nI (d + 1)) (lv' := [(5, .int (nI (d + 1))), (0, .ref (G.2.2.1 (11, 0, 0))), (1, .int (nI here)), (2, .int (nI cell)), (3, .int sh), (4, .int (nI 1))]) hx hb dX1_getsThere_69 hl (k := 0) rfl (jn_inc _ 1) (by decide) rfl (fun ls hl => ?_)
              refine lv_goto (tgt := 17) hx hb dX1_getsThere_72 (by decide) ?_
              exact ih_17 (d + 1) (by omega) (by omega) (by rw [it_s, hs]; simp [anyS, c_37]) _ _ _ hB (lv_sub hl [0, 1, 2, 3, 4, 5] rfl)
            · refine lv_aload_n hx hb dX1_getsThere_40 rfl (lv_at hl 1 rfl) ?_
              refine lv_aload_n hx hb dX1_getsThere_41 rfl (lv_at hl 1 rfl) ?_
              refine j_get (11, 0, 0) 0 (v := .ref (G.2.2.1 (1, 0, 0))) hC hB in_X1 lk_41 dX1_getsThere_42 jk11 rfl rfl (by decide) rfl ?_
              refine j_getN (1, 0, 0) 0 (v := .ref (G.2.2.1 (2, 0, 0))) hC hB in_X4 ln_92 dX1_getsThere_45 (jk1 (by omega)) rfl rfl (by decide) rfl ?_
              refine lv_iload hx hb dX1_getsThere_48 (lv_at hl 0 rfl) ?_
              refine j_ald (2, 0, 0) (4, 0, d) 3 d hC hB dX1_getsThere_50 (jk2 (by omega)) rfl rfl rfl (by omega) (by decide) rfl ?_
              refine lv_iload_n hx hb dX1_getsThere_51 rfl (lv_at hl 2 rfl) ?_
              refine j_cvi (4, 0, d) [.int (nI here)] hC hB hl.1 (c_X0_beyond l_ G I J O 0 d (nI here) ((jk4 (by omega) (by omega)))) (cwV 1 hts gX1_getsThere_X0_beyond rfl rfl rfl (by decide +kernel) ⟨by decide, by decide⟩) dX1_getsThere_52 (jk4 (by omega) (by omega)) rfl rfl rfl rfl (Nat.le_of_ble_eq_true rfl) (fun r_52 u_52 H locs hp_52 hB => ?_)
              obtain ⟨rfl, rfl⟩ := hp_52
              have hbe := be_ok (c := here) hW (show d < nd by omega)
              refine j_eqi hbe.1 ?_
              refine lv_iload_n hx hb dX1_getsThere_55 rfl (lv_at hl 3 rfl) ?_
              refine lv_iload_n hx hb dX1_getsThere_56 rfl (lv_at hl 4 rfl) ?_
              refine lv_iload hx hb dX1_getsThere_57 (lv_at hl 5 rfl) ?_
              refine lv_iconst (v := nI 1) hx hb dX1_getsThere_59 (by decide) ?_
              refine jn_isub hx hb dX1_getsThere_60 (by omega) ?_
              refine j_eqi (y := nI 0) rfl ?_
              refine j_cvi (11, 0, 0) [.int (nI (beN (I 0) d here)), .int (nI cell), .int sh, .int (nI 0)] hC hB hl.1 (c_X1_getsThereStill_0 l_ G I J O (beN (I 0) d here) cell sh (op) (ho) (by omega) (by omega) (by omega) (hD) (hW)) (cwV 4 hts gX1_getsThere_X1_getsThereStill rfl rfl rfl (by decide +kernel) ⟨by decide, by decide⟩) dX1_getsThere_61 jk11 rfl rfl rfl rfl (Nat.le_of_ble_eq_true rfl) (fun r_61 u_61 H locs hp_61 hB => ?_)
              obtain ⟨rfl, rfl⟩ := hp_61
              refine jb_if_eq (tgt := 69) hx hb dX1_getsThere_64 (by decide) (fun c_64 => ?_) (fun c_64 => ?_)
              · refine lv_iinc (v := nI (d + 1)) (lv' := [(5, .int (nI (d + 1))), (0, .ref (G.2.2.1 (11, 0, 0))), (1, .int (nI here)), (2, .int (nI cell)), (3, .int sh), (4, .int (nI 1))]) hx hb dX1_getsThere_69 hl (k := 0) rfl (jn_inc _ 1) (by decide) rfl (fun ls hl => ?_)
                refine lv_goto (tgt := 17) hx hb dX1_getsThere_72 (by decide) ?_
                exact ih_17 (d + 1) (by omega) (by omega) (by rw [it_s, hs]; simp [anyS, c_37, c_64]) _ _ _ hB (lv_sub hl [0, 1, 2, 3, 4, 5] rfl)
              · refine lv_iconst (v := nI 1) hx hb dX1_getsThere_67 (by decide) ?_
                exact j_zret hC hB dX1_getsThere_68 (by decide) (⟨by rw [gtB_s, any_stop (d := d + 1) (by omega) (by rw [it_s, hs]; simp [anyS, c_37, c_64])]; simp [b2], rfl⟩)
      exact lp_17 _ 0 (Nat.lt_succ_self _) (by omega) (rfl) _ _ _ hB (lv_sub hl [0, 1, 2, 3, 4, 5] rfl)
    · exact absurd c_9 (by omega)
  · refine lv_iconst (v := nI 1) hx hb dX1_getsThere_5 (by decide) ?_
    exact j_zret hC hB dX1_getsThere_6 (by decide) (⟨by rw [c_2]; rw [gtB_s]; simp [b2], rfl⟩)


set_option maxHeartbeats 4000000 in
set_option maxRecDepth 100000 in
theorem c_X1_getsThere_u2 (l_ : Launch) (G : jG) (I : Nat → Nat → Int32) (J : Nat → Nat → Int64) (O : Nat → Nat → Nat) (here cell : Nat) (sh : Int32) (op : Nat → Int32) (ho : ∀ j, j < 8 → I 27 j = op j) (hhe : here < 8) (hce : cell < 8) {nd : Nat} (hnd : nd ≤ 10) (hD : I 0 0 = nI nd) (hW : wfD (I 0) nd) : jMi l_ G yX1_getsThere wsX1_getsThere ({ frames := 5, cells := 0, slots := 0, locals := 125 }) [.ref (G.2.2.1 (11, 0, 0)), .int (nI here), .int (nI cell), .int sh, .int (nI 2)] (I, J, O) (fun r u => r = b2 (gtB (I 0) op nd cell 2 here sh) ∧ u = (I, J, O)) := by
  refine jMi_of (cc := cX1_getsThere) (maxL := 6) (ret := (some .boolean)) (lv0 := [(0, .ref (G.2.2.1 (11, 0, 0))), (1, .int (nI here)), (2, .int (nI cell)), (3, .int sh), (4, .int (nI 2))]) (by decide) rfl (Nat.le_of_ble_eq_true rfl) rfl ?_
  intro pg_ ev_ s_ mi_ below meth cd_ A ls hC hB hl
  obtain ⟨hx, hb, hr, hml, hown, hts, hlocks, hK, hA⟩ := id hC
  have lk_41 := hts (.fieldLink RX1 41 "RiddlePrison$Foresight" "prison" "LRiddlePrison$Prison;") (by decide +kernel)
  have ln_85 := (by decide +kernel : Cond.fieldLinkNest RX1 85 "RiddlePrison$Prison" "doorCount" "I" "RiddlePrison" ∈ nsW)
  have ln_92 := (by decide +kernel : Cond.fieldLinkNest RX1 92 "RiddlePrison$Prison" "doors" "[LRiddlePrison$Door;" "RiddlePrison" ∈ nsW)
  have in_X1 := (fun w h => List.mem_cons_of_mem _ (List.mem_append_left _ (List.mem_append_left _ (List.mem_append_right _ h))) : ∀ w ∈ wsX10, w ∈ wsX1_getsThere)
  have in_X4 := (fun w h => List.mem_cons_of_mem _ (List.mem_append_left _ (List.mem_append_right _ h)) : ∀ w ∈ wsX40, w ∈ wsX1_getsThere)
  refine lv_iload_n hx hb dX1_getsThere_0 rfl (lv_at hl 1 rfl) ?_
  refine lv_iload_n hx hb dX1_getsThere_1 rfl (lv_at hl 2 rfl) ?_
  refine jn_icmp_ne (tgt := 7) hx hb dX1_getsThere_2 (by decide) (by omega) (by omega) (fun c_2 => ?_) (fun c_2 => ?_)
  · refine lv_iload hx hb dX1_getsThere_7 (lv_at hl 4 rfl) ?_
    refine jn_if_gt (tgt := 14) hx hb dX1_getsThere_9 (by decide) (by omega) (fun c_9 => ?_) (fun c_9 => ?_)
    · refine lv_iconst (v := nI 0) hx hb dX1_getsThere_14 (by decide) ?_
      refine lv_istore (lv' := [(5, .int (nI 0)), (0, .ref (G.2.2.1 (11, 0, 0))), (1, .int (nI here)), (2, .int (nI cell)), (3, .int sh), (4, .int (nI 2))]) hx hb dX1_getsThere_15 hl (by decide) rfl (fun ls hl => ?_)
      have lp_17 : ∀ (fu : Nat) (d : Nat), nd - d < fu → (d ≤ nd) → (it (anyS (fun d => ioB op here d sh && gsB (I 0) op nd cell 1 (beN (I 0) d here) sh)) d false = false) → ∀ H locs ls, jB G A s_.heap (I, J, O) H locs → lv_has ls 6 [(5, .int (nI d)), (0, .ref (G.2.2.1 (11, 0, 0))), (1, .int (nI here)), (2, .int (nI cell)), (3, .int sh), (4, .int (nI 2))] → W pg_ l_ ev_ ({ frames := 5, cells := 0, slots := 0, locals := 125 }) s_ mi_ ([.ref (G.2.2.1 (11, 0, 0)), .int (nI here), .int (nI cell), .int sh, .int (nI 2)]).toArray below meth cd_ H locs 0 0 (jQi G A below [.ref (G.2.2.1 (11, 0, 0)), .int (nI here), .int (nI cell), .int sh, .int (nI 2)] s_ (fun r u => r = b2 (gtB (I 0) op nd cell 2 here sh) ∧ u = (I, J, O))) (F0 mi_ 17 ls []) := by
        intro fu
        induction fu with
        | zero => intro d hf; exact absurd hf (Nat.not_lt_zero _)
        | succ fu ih_17 =>
          intro d hf_17 hd hs H locs ls hB hl
          refine lv_iload hx hb dX1_getsThere_17 (lv_at hl 0 rfl) ?_
          refine lv_aload_n hx hb dX1_getsThere_19 rfl (lv_at hl 1 rfl) ?_
          refine j_get (11, 0, 0) 0 (v := .ref (G.2.2.1 (1, 0, 0))) hC hB in_X1 lk_41 dX1_getsThere_20 jk11 rfl rfl (by decide) rfl ?_
          refine j_getN (1, 0, 0) 2 (v := .int (I 0 0)) hC hB in_X4 ln_85 dX1_getsThere_23 (jk1 (by omega)) rfl rfl (by decide) rfl ?_
          refine j_eqi (x := I 0 0) (y := nI nd) (hD) ?_
          refine jn_icmp_ge (tgt := 75) hx hb dX1_getsThere_26 (by decide) (by omega) (by omega) (fun c_26 => ?_) (fun c_26 => ?_)
          · refine lv_iconst (v := nI 0) hx hb dX1_getsThere_75 (by decide) ?_
            exact j_zret hC hB dX1_getsThere_76 (by decide) (⟨by rw [show d = nd by omega] at hs; rw [gtB_s, hs]; simp [b2, c_2], rfl⟩)
          · refine lv_aload_n hx hb dX1_getsThere_29 rfl (lv_at hl 1 rfl) ?_
            refine lv_iload_n hx hb dX1_getsThere_30 rfl (lv_at hl 2 rfl) ?_
            refine lv_iload hx hb dX1_getsThere_31 (lv_at hl 0 rfl) ?_
            refine lv_iload_n hx hb dX1_getsThere_33 rfl (lv_at hl 4 rfl) ?_
            refine j_cvi (11, 0, 0) [.int (nI here), .int (nI d), .int sh] hC hB hl.1 (c_X1_isOpen l_ G I J O here d sh (by omega)) (cwV 3 hts gX1_getsThere_X1_isOpen rfl rfl rfl (by decide +kernel) ⟨by decide, by decide⟩) dX1_getsThere_34 jk11 rfl rfl rfl rfl (Nat.le_of_ble_eq_true rfl) (fun r_34 u_34 H locs hp_34 hB => ?_)
            obtain ⟨rfl, rfl⟩ := hp_34
            refine j_eqi (y := b2 (ioB op here d sh)) (by rw [ioB_cong (ho _ hhe)]) ?_
            refine jb_if_eq (tgt := 69) hx hb dX1_getsThere_37 (by decide) (fun c_37 => ?_) (fun c_37 => ?_)
            · refine lv_iinc (v := nI (d + 1)) (lv' := [(5, .int (nI (d + 1))), (0, .ref (G.2.2.1 (11, 0, 0))), (1, .int (nI here)), (2, .int (nI cell)), (3, .int sh), (4, .int (nI 2))]) hx hb dX1_getsThere_69 hl (k := 0) rfl (jn_inc _ 1) (by decide) rfl (fun ls hl => ?_)
              refine lv_goto (tgt := 17) hx hb dX1_getsThere_72 (by decide) ?_
              exact ih_17 (d + 1) (by omega) (by omega) (by rw [it_s, hs]; simp [anyS, c_37]) _ _ _ hB (lv_sub hl [0, 1, 2, 3, 4, 5] rfl)
            · refine lv_aload_n hx hb dX1_getsThere_40 rfl (lv_at hl 1 rfl) ?_
              refine lv_aload_n hx hb dX1_getsThere_41 rfl (lv_at hl 1 rfl) ?_
              refine j_get (11, 0, 0) 0 (v := .ref (G.2.2.1 (1, 0, 0))) hC hB in_X1 lk_41 dX1_getsThere_42 jk11 rfl rfl (by decide) rfl ?_
              refine j_getN (1, 0, 0) 0 (v := .ref (G.2.2.1 (2, 0, 0))) hC hB in_X4 ln_92 dX1_getsThere_45 (jk1 (by omega)) rfl rfl (by decide) rfl ?_
              refine lv_iload hx hb dX1_getsThere_48 (lv_at hl 0 rfl) ?_
              refine j_ald (2, 0, 0) (4, 0, d) 3 d hC hB dX1_getsThere_50 (jk2 (by omega)) rfl rfl rfl (by omega) (by decide) rfl ?_
              refine lv_iload_n hx hb dX1_getsThere_51 rfl (lv_at hl 2 rfl) ?_
              refine j_cvi (4, 0, d) [.int (nI here)] hC hB hl.1 (c_X0_beyond l_ G I J O 0 d (nI here) ((jk4 (by omega) (by omega)))) (cwV 1 hts gX1_getsThere_X0_beyond rfl rfl rfl (by decide +kernel) ⟨by decide, by decide⟩) dX1_getsThere_52 (jk4 (by omega) (by omega)) rfl rfl rfl rfl (Nat.le_of_ble_eq_true rfl) (fun r_52 u_52 H locs hp_52 hB => ?_)
              obtain ⟨rfl, rfl⟩ := hp_52
              have hbe := be_ok (c := here) hW (show d < nd by omega)
              refine j_eqi hbe.1 ?_
              refine lv_iload_n hx hb dX1_getsThere_55 rfl (lv_at hl 3 rfl) ?_
              refine lv_iload_n hx hb dX1_getsThere_56 rfl (lv_at hl 4 rfl) ?_
              refine lv_iload hx hb dX1_getsThere_57 (lv_at hl 5 rfl) ?_
              refine lv_iconst (v := nI 1) hx hb dX1_getsThere_59 (by decide) ?_
              refine jn_isub hx hb dX1_getsThere_60 (by omega) ?_
              refine j_eqi (y := nI 1) rfl ?_
              refine j_cvi (11, 0, 0) [.int (nI (beN (I 0) d here)), .int (nI cell), .int sh, .int (nI 1)] hC hB hl.1 (c_X1_getsThereStill_1 l_ G I J O (beN (I 0) d here) cell sh (op) (ho) (by omega) (by omega) (by omega) (hD) (hW)) (cwV 4 hts gX1_getsThere_X1_getsThereStill rfl rfl rfl (by decide +kernel) ⟨by decide, by decide⟩) dX1_getsThere_61 jk11 rfl rfl rfl rfl (Nat.le_of_ble_eq_true rfl) (fun r_61 u_61 H locs hp_61 hB => ?_)
              obtain ⟨rfl, rfl⟩ := hp_61
              refine jb_if_eq (tgt := 69) hx hb dX1_getsThere_64 (by decide) (fun c_64 => ?_) (fun c_64 => ?_)
              · refine lv_iinc (v := nI (d + 1)) (lv' := [(5, .int (nI (d + 1))), (0, .ref (G.2.2.1 (11, 0, 0))), (1, .int (nI here)), (2, .int (nI cell)), (3, .int sh), (4, .int (nI 2))]) hx hb dX1_getsThere_69 hl (k := 0) rfl (jn_inc _ 1) (by decide) rfl (fun ls hl => ?_)
                refine lv_goto (tgt := 17) hx hb dX1_getsThere_72 (by decide) ?_
                exact ih_17 (d + 1) (by omega) (by omega) (by rw [it_s, hs]; simp [anyS, c_37, c_64]) _ _ _ hB (lv_sub hl [0, 1, 2, 3, 4, 5] rfl)
              · refine lv_iconst (v := nI 1) hx hb dX1_getsThere_67 (by decide) ?_
                exact j_zret hC hB dX1_getsThere_68 (by decide) (⟨by rw [gtB_s, any_stop (d := d + 1) (by omega) (by rw [it_s, hs]; simp [anyS, c_37, c_64])]; simp [b2], rfl⟩)
      exact lp_17 _ 0 (Nat.lt_succ_self _) (by omega) (rfl) _ _ _ hB (lv_sub hl [0, 1, 2, 3, 4, 5] rfl)
    · exact absurd c_9 (by omega)
  · refine lv_iconst (v := nI 1) hx hb dX1_getsThere_5 (by decide) ?_
    exact j_zret hC hB dX1_getsThere_6 (by decide) (⟨by rw [c_2]; rw [gtB_s]; simp [b2], rfl⟩)


set_option maxHeartbeats 4000000 in
set_option maxRecDepth 100000 in
theorem c_X1_getsThere_u3 (l_ : Launch) (G : jG) (I : Nat → Nat → Int32) (J : Nat → Nat → Int64) (O : Nat → Nat → Nat) (here cell : Nat) (sh : Int32) (op : Nat → Int32) (ho : ∀ j, j < 8 → I 27 j = op j) (hhe : here < 8) (hce : cell < 8) {nd : Nat} (hnd : nd ≤ 10) (hD : I 0 0 = nI nd) (hW : wfD (I 0) nd) : jMi l_ G yX1_getsThere wsX1_getsThere ({ frames := 5, cells := 0, slots := 0, locals := 125 }) [.ref (G.2.2.1 (11, 0, 0)), .int (nI here), .int (nI cell), .int sh, .int (nI 3)] (I, J, O) (fun r u => r = b2 (gtB (I 0) op nd cell 3 here sh) ∧ u = (I, J, O)) := by
  refine jMi_of (cc := cX1_getsThere) (maxL := 6) (ret := (some .boolean)) (lv0 := [(0, .ref (G.2.2.1 (11, 0, 0))), (1, .int (nI here)), (2, .int (nI cell)), (3, .int sh), (4, .int (nI 3))]) (by decide) rfl (Nat.le_of_ble_eq_true rfl) rfl ?_
  intro pg_ ev_ s_ mi_ below meth cd_ A ls hC hB hl
  obtain ⟨hx, hb, hr, hml, hown, hts, hlocks, hK, hA⟩ := id hC
  have lk_41 := hts (.fieldLink RX1 41 "RiddlePrison$Foresight" "prison" "LRiddlePrison$Prison;") (by decide +kernel)
  have ln_85 := (by decide +kernel : Cond.fieldLinkNest RX1 85 "RiddlePrison$Prison" "doorCount" "I" "RiddlePrison" ∈ nsW)
  have ln_92 := (by decide +kernel : Cond.fieldLinkNest RX1 92 "RiddlePrison$Prison" "doors" "[LRiddlePrison$Door;" "RiddlePrison" ∈ nsW)
  have in_X1 := (fun w h => List.mem_cons_of_mem _ (List.mem_append_left _ (List.mem_append_left _ (List.mem_append_right _ h))) : ∀ w ∈ wsX10, w ∈ wsX1_getsThere)
  have in_X4 := (fun w h => List.mem_cons_of_mem _ (List.mem_append_left _ (List.mem_append_right _ h)) : ∀ w ∈ wsX40, w ∈ wsX1_getsThere)
  refine lv_iload_n hx hb dX1_getsThere_0 rfl (lv_at hl 1 rfl) ?_
  refine lv_iload_n hx hb dX1_getsThere_1 rfl (lv_at hl 2 rfl) ?_
  refine jn_icmp_ne (tgt := 7) hx hb dX1_getsThere_2 (by decide) (by omega) (by omega) (fun c_2 => ?_) (fun c_2 => ?_)
  · refine lv_iload hx hb dX1_getsThere_7 (lv_at hl 4 rfl) ?_
    refine jn_if_gt (tgt := 14) hx hb dX1_getsThere_9 (by decide) (by omega) (fun c_9 => ?_) (fun c_9 => ?_)
    · refine lv_iconst (v := nI 0) hx hb dX1_getsThere_14 (by decide) ?_
      refine lv_istore (lv' := [(5, .int (nI 0)), (0, .ref (G.2.2.1 (11, 0, 0))), (1, .int (nI here)), (2, .int (nI cell)), (3, .int sh), (4, .int (nI 3))]) hx hb dX1_getsThere_15 hl (by decide) rfl (fun ls hl => ?_)
      have lp_17 : ∀ (fu : Nat) (d : Nat), nd - d < fu → (d ≤ nd) → (it (anyS (fun d => ioB op here d sh && gsB (I 0) op nd cell 2 (beN (I 0) d here) sh)) d false = false) → ∀ H locs ls, jB G A s_.heap (I, J, O) H locs → lv_has ls 6 [(5, .int (nI d)), (0, .ref (G.2.2.1 (11, 0, 0))), (1, .int (nI here)), (2, .int (nI cell)), (3, .int sh), (4, .int (nI 3))] → W pg_ l_ ev_ ({ frames := 5, cells := 0, slots := 0, locals := 125 }) s_ mi_ ([.ref (G.2.2.1 (11, 0, 0)), .int (nI here), .int (nI cell), .int sh, .int (nI 3)]).toArray below meth cd_ H locs 0 0 (jQi G A below [.ref (G.2.2.1 (11, 0, 0)), .int (nI here), .int (nI cell), .int sh, .int (nI 3)] s_ (fun r u => r = b2 (gtB (I 0) op nd cell 3 here sh) ∧ u = (I, J, O))) (F0 mi_ 17 ls []) := by
        intro fu
        induction fu with
        | zero => intro d hf; exact absurd hf (Nat.not_lt_zero _)
        | succ fu ih_17 =>
          intro d hf_17 hd hs H locs ls hB hl
          refine lv_iload hx hb dX1_getsThere_17 (lv_at hl 0 rfl) ?_
          refine lv_aload_n hx hb dX1_getsThere_19 rfl (lv_at hl 1 rfl) ?_
          refine j_get (11, 0, 0) 0 (v := .ref (G.2.2.1 (1, 0, 0))) hC hB in_X1 lk_41 dX1_getsThere_20 jk11 rfl rfl (by decide) rfl ?_
          refine j_getN (1, 0, 0) 2 (v := .int (I 0 0)) hC hB in_X4 ln_85 dX1_getsThere_23 (jk1 (by omega)) rfl rfl (by decide) rfl ?_
          refine j_eqi (x := I 0 0) (y := nI nd) (hD) ?_
          refine jn_icmp_ge (tgt := 75) hx hb dX1_getsThere_26 (by decide) (by omega) (by omega) (fun c_26 => ?_) (fun c_26 => ?_)
          · refine lv_iconst (v := nI 0) hx hb dX1_getsThere_75 (by decide) ?_
            exact j_zret hC hB dX1_getsThere_76 (by decide) (⟨by rw [show d = nd by omega] at hs; rw [gtB_s, hs]; simp [b2, c_2], rfl⟩)
          · refine lv_aload_n hx hb dX1_getsThere_29 rfl (lv_at hl 1 rfl) ?_
            refine lv_iload_n hx hb dX1_getsThere_30 rfl (lv_at hl 2 rfl) ?_
            refine lv_iload hx hb dX1_getsThere_31 (lv_at hl 0 rfl) ?_
            refine lv_iload_n hx hb dX1_getsThere_33 rfl (lv_at hl 4 rfl) ?_
            refine j_cvi (11, 0, 0) [.int (nI here), .int (nI d), .int sh] hC hB hl.1 (c_X1_isOpen l_ G I J O here d sh (by omega)) (cwV 3 hts gX1_getsThere_X1_isOpen rfl rfl rfl (by decide +kernel) ⟨by decide, by decide⟩) dX1_getsThere_34 jk11 rfl rfl rfl rfl (Nat.le_of_ble_eq_true rfl) (fun r_34 u_34 H locs hp_34 hB => ?_)
            obtain ⟨rfl, rfl⟩ := hp_34
            refine j_eqi (y := b2 (ioB op here d sh)) (by rw [ioB_cong (ho _ hhe)]) ?_
            refine jb_if_eq (tgt := 69) hx hb dX1_getsThere_37 (by decide) (fun c_37 => ?_) (fun c_37 => ?_)
            · refine lv_iinc (v := nI (d + 1)) (lv' := [(5, .int (nI (d + 1))), (0, .ref (G.2.2.1 (11, 0, 0))), (1, .int (nI here)), (2, .int (nI cell)), (3, .int sh), (4, .int (nI 3))]) hx hb dX1_getsThere_69 hl (k := 0) rfl (jn_inc _ 1) (by decide) rfl (fun ls hl => ?_)
              refine lv_goto (tgt := 17) hx hb dX1_getsThere_72 (by decide) ?_
              exact ih_17 (d + 1) (by omega) (by omega) (by rw [it_s, hs]; simp [anyS, c_37]) _ _ _ hB (lv_sub hl [0, 1, 2, 3, 4, 5] rfl)
            · refine lv_aload_n hx hb dX1_getsThere_40 rfl (lv_at hl 1 rfl) ?_
              refine lv_aload_n hx hb dX1_getsThere_41 rfl (lv_at hl 1 rfl) ?_
              refine j_get (11, 0, 0) 0 (v := .ref (G.2.2.1 (1, 0, 0))) hC hB in_X1 lk_41 dX1_getsThere_42 jk11 rfl rfl (by decide) rfl ?_
              refine j_getN (1, 0, 0) 0 (v := .ref (G.2.2.1 (2, 0, 0))) hC hB in_X4 ln_92 dX1_getsThere_45 (jk1 (by omega)) rfl rfl (by decide) rfl ?_
              refine lv_iload hx hb dX1_getsThere_48 (lv_at hl 0 rfl) ?_
              refine j_ald (2, 0, 0) (4, 0, d) 3 d hC hB dX1_getsThere_50 (jk2 (by omega)) rfl rfl rfl (by omega) (by decide) rfl ?_
              refine lv_iload_n hx hb dX1_getsThere_51 rfl (lv_at hl 2 rfl) ?_
              refine j_cvi (4, 0, d) [.int (nI here)] hC hB hl.1 (c_X0_beyond l_ G I J O 0 d (nI here) ((jk4 (by omega) (by omega)))) (cwV 1 hts gX1_getsThere_X0_beyond rfl rfl rfl (by decide +kernel) ⟨by decide, by decide⟩) dX1_getsThere_52 (jk4 (by omega) (by omega)) rfl rfl rfl rfl (Nat.le_of_ble_eq_true rfl) (fun r_52 u_52 H locs hp_52 hB => ?_)
              obtain ⟨rfl, rfl⟩ := hp_52
              have hbe := be_ok (c := here) hW (show d < nd by omega)
              refine j_eqi hbe.1 ?_
              refine lv_iload_n hx hb dX1_getsThere_55 rfl (lv_at hl 3 rfl) ?_
              refine lv_iload_n hx hb dX1_getsThere_56 rfl (lv_at hl 4 rfl) ?_
              refine lv_iload hx hb dX1_getsThere_57 (lv_at hl 5 rfl) ?_
              refine lv_iconst (v := nI 1) hx hb dX1_getsThere_59 (by decide) ?_
              refine jn_isub hx hb dX1_getsThere_60 (by omega) ?_
              refine j_eqi (y := nI 2) rfl ?_
              refine j_cvi (11, 0, 0) [.int (nI (beN (I 0) d here)), .int (nI cell), .int sh, .int (nI 2)] hC hB hl.1 (c_X1_getsThereStill_2 l_ G I J O (beN (I 0) d here) cell sh (op) (ho) (by omega) (by omega) (by omega) (hD) (hW)) (cwV 4 hts gX1_getsThere_X1_getsThereStill rfl rfl rfl (by decide +kernel) ⟨by decide, by decide⟩) dX1_getsThere_61 jk11 rfl rfl rfl rfl (Nat.le_of_ble_eq_true rfl) (fun r_61 u_61 H locs hp_61 hB => ?_)
              obtain ⟨rfl, rfl⟩ := hp_61
              refine jb_if_eq (tgt := 69) hx hb dX1_getsThere_64 (by decide) (fun c_64 => ?_) (fun c_64 => ?_)
              · refine lv_iinc (v := nI (d + 1)) (lv' := [(5, .int (nI (d + 1))), (0, .ref (G.2.2.1 (11, 0, 0))), (1, .int (nI here)), (2, .int (nI cell)), (3, .int sh), (4, .int (nI 3))]) hx hb dX1_getsThere_69 hl (k := 0) rfl (jn_inc _ 1) (by decide) rfl (fun ls hl => ?_)
                refine lv_goto (tgt := 17) hx hb dX1_getsThere_72 (by decide) ?_
                exact ih_17 (d + 1) (by omega) (by omega) (by rw [it_s, hs]; simp [anyS, c_37, c_64]) _ _ _ hB (lv_sub hl [0, 1, 2, 3, 4, 5] rfl)
              · refine lv_iconst (v := nI 1) hx hb dX1_getsThere_67 (by decide) ?_
                exact j_zret hC hB dX1_getsThere_68 (by decide) (⟨by rw [gtB_s, any_stop (d := d + 1) (by omega) (by rw [it_s, hs]; simp [anyS, c_37, c_64])]; simp [b2], rfl⟩)
      exact lp_17 _ 0 (Nat.lt_succ_self _) (by omega) (rfl) _ _ _ hB (lv_sub hl [0, 1, 2, 3, 4, 5] rfl)
    · exact absurd c_9 (by omega)
  · refine lv_iconst (v := nI 1) hx hb dX1_getsThere_5 (by decide) ?_
    exact j_zret hC hB dX1_getsThere_6 (by decide) (⟨by rw [c_2]; rw [gtB_s]; simp [b2], rfl⟩)

theorem c_X1_getsThere_n (l_ : Launch) (G : jG) (I : Nat → Nat → Int32) (J : Nat → Nat → Int64) (O : Nat → Nat → Nat) (here cell : Nat) (sh : Int32) (n : Nat) (op : Nat → Int32) (ho : ∀ j, j < 8 → I 27 j = op j) (hhe : here < 8) (hce : cell < 8) (hn : n ≤ 3) {nd : Nat} (hnd : nd ≤ 10) (hD : I 0 0 = nI nd) (hW : wfD (I 0) nd) : jMi l_ G yX1_getsThere wsX1_getsThere ({ frames := 5, cells := 0, slots := 0, locals := 125 }) [.ref (G.2.2.1 (11, 0, 0)), .int (nI here), .int (nI cell), .int sh, .int (nI n)] (I, J, O) (fun r u => r = b2 (gtB (I 0) op nd cell n here sh) ∧ u = (I, J, O)) := by
  rcases (show n = 0 ∨ n = 1 ∨ n = 2 ∨ n = 3 by omega) with rfl | rfl | rfl | rfl
  · exact c_X1_getsThere_u0 l_ G I J O here cell sh op ho hhe hce hnd hD hW
  · exact c_X1_getsThere_u1 l_ G I J O here cell sh op ho hhe hce hnd hD hW
  · exact c_X1_getsThere_u2 l_ G I J O here cell sh op ho hhe hce hnd hD hW
  · exact c_X1_getsThere_u3 l_ G I J O here cell sh op ho hhe hce hnd hD hW

set_option maxHeartbeats 4000000 in
set_option maxRecDepth 100000 in
theorem c_X1_huntedSteps (l_ : Launch) (G : jG) (I : Nat → Nat → Int32) (J : Nat → Nat → Int64) (O : Nat → Nat → Nat) (cell most : Nat) (op : Nat → Int32) (ho : ∀ j, j < 8 → I 27 j = op j) (hce : cell < 8) (hmo : most ≤ 3) {st : Nat} (hst : st < 8) (hSt : I 26 0 = nI st) {nd : Nat} (hnd : nd ≤ 10) (hD : I 0 0 = nI nd) (hW : wfD (I 0) nd) : jMi l_ G yX1_huntedSteps wsX1_huntedSteps ({ frames := 6, cells := 0, slots := 0, locals := 150 }) [.ref (G.2.2.1 (11, 0, 0)), .int (nI cell), .int (nI most)] (I, J, O) (fun r u => r = hsC (I 0) op nd cell st most ∧ u = (I, J, O)) := by
  refine jMi_of (cc := cX1_huntedSteps) (maxL := 4) (ret := (some .int)) (lv0 := [(0, .ref (G.2.2.1 (11, 0, 0))), (1, .int (nI cell)), (2, .int (nI most))]) (by decide) rfl (Nat.le_of_ble_eq_true rfl) rfl ?_
  intro pg_ ev_ s_ mi_ below meth cd_ A ls hC hB hl
  obtain ⟨hx, hb, hr, hml, hown, hts, hlocks, hK, hA⟩ := id hC
  have lk_63 := hts (.fieldLink RX1 63 "RiddlePrison$Foresight" "start" "I") (by decide +kernel)
  have in_X1 := (fun w h => List.mem_cons_of_mem _ (List.mem_append_left _ (List.mem_append_left _ (List.mem_append_right _ h))) : ∀ w ∈ wsX10, w ∈ wsX1_huntedSteps)
  refine lv_iconst (v := nI 0) hx hb dX1_huntedSteps_0 (by decide) ?_
  refine lv_istore_n (lv' := [(3, .int (nI 0)), (0, .ref (G.2.2.1 (11, 0, 0))), (1, .int (nI cell)), (2, .int (nI most))]) hx hb dX1_huntedSteps_1 rfl hl (by decide) rfl (fun ls hl => ?_)
  have lp_2 : ∀ (fu : Nat) (n : Nat), most + 1 - n < fu → (n ≤ most + 1) → (seI (hsP (I 0) op nd cell st) (most + 1 - n) n = hsC (I 0) op nd cell st most) → ∀ H locs ls, jB G A s_.heap (I, J, O) H locs → lv_has ls 4 [(3, .int (nI n)), (0, .ref (G.2.2.1 (11, 0, 0))), (1, .int (nI cell)), (2, .int (nI most))] → W pg_ l_ ev_ ({ frames := 6, cells := 0, slots := 0, locals := 150 }) s_ mi_ ([.ref (G.2.2.1 (11, 0, 0)), .int (nI cell), .int (nI most)]).toArray below meth cd_ H locs 0 0 (jQi G A below [.ref (G.2.2.1 (11, 0, 0)), .int (nI cell), .int (nI most)] s_ (fun r u => r = hsC (I 0) op nd cell st most ∧ u = (I, J, O))) (F0 mi_ 2 ls []) := by
    intro fu
    induction fu with
    | zero => intro n hf; exact absurd hf (Nat.not_lt_zero _)
    | succ fu ih_2 =>
      intro n hf_2 hn hs H locs ls hB hl
      refine lv_iload_n hx hb dX1_huntedSteps_2 rfl (lv_at hl 0 rfl) ?_
      refine lv_iload_n hx hb dX1_huntedSteps_3 rfl (lv_at hl 3 rfl) ?_
      refine jn_icmp_gt (tgt := 29) hx hb dX1_huntedSteps_4 (by decide) (by omega) (by omega) (fun c_4 => ?_) (fun c_4 => ?_)
      · refine lv_bipush (v := (-4 : Int32)) hx hb dX1_huntedSteps_29 (by decide) ?_
        exact j_iret hC hB dX1_huntedSteps_31 (⟨by rw [← hs, show most + 1 - n = 0 by omega]; rfl, rfl⟩)
      · refine lv_aload_n hx hb dX1_huntedSteps_7 rfl (lv_at hl 1 rfl) ?_
        refine lv_aload_n hx hb dX1_huntedSteps_8 rfl (lv_at hl 1 rfl) ?_
        refine j_get (11, 0, 0) 2 (v := .int (I 26 0)) hC hB in_X1 lk_63 dX1_huntedSteps_9 jk11 rfl rfl (by decide) rfl ?_
        refine j_eqi (x := I 26 0) (y := nI st) (hSt) ?_
        refine lv_iload_n hx hb dX1_huntedSteps_12 rfl (lv_at hl 2 rfl) ?_
        refine lv_iconst (v := nI 0) hx hb dX1_huntedSteps_13 (by decide) ?_
        refine lv_iload_n hx hb dX1_huntedSteps_14 rfl (lv_at hl 0 rfl) ?_
        refine j_cvi (11, 0, 0) [.int (nI st), .int (nI cell), .int (nI 0), .int (nI n)] hC hB hl.1 (c_X1_getsThere_n l_ G I J O st cell (nI 0) n (op) (ho) (by omega) (by omega) (by omega) (by omega) (hD) (hW)) (cwV 4 hts gX1_huntedSteps_X1_getsThere rfl rfl rfl (by decide +kernel) ⟨by decide, by decide⟩) dX1_huntedSteps_15 jk11 rfl rfl rfl rfl (Nat.le_of_ble_eq_true rfl) (fun r_15 u_15 H locs hp_15 hB => ?_)
        obtain ⟨rfl, rfl⟩ := hp_15
        refine jb_if_eq (tgt := 23) hx hb dX1_huntedSteps_18 (by decide) (fun c_18 => ?_) (fun c_18 => ?_)
        · refine lv_iinc (v := nI (n + 1)) (lv' := [(3, .int (nI (n + 1))), (0, .ref (G.2.2.1 (11, 0, 0))), (1, .int (nI cell)), (2, .int (nI most))]) hx hb dX1_huntedSteps_23 hl (k := 0) rfl (jn_inc _ 1) (by decide) rfl (fun ls hl => ?_)
          refine lv_goto (tgt := 2) hx hb dX1_huntedSteps_26 (by decide) ?_
          exact ih_2 (n + 1) (by omega) (by omega) (by rw [← hs]; exact (seI_no (by omega) c_18).symm) _ _ _ hB (lv_sub hl [0, 1, 2, 3] rfl)
        · refine lv_iload_n hx hb dX1_huntedSteps_21 rfl (lv_at hl 0 rfl) ?_
          exact j_iret hC hB dX1_huntedSteps_22 (⟨by rw [← hs]; exact (seI_yes (by omega) c_18).symm, rfl⟩)
  exact lp_2 _ 0 (Nat.lt_succ_self _) (by omega) (rfl) _ _ _ hB (lv_sub hl [0, 1, 2, 3] rfl)

set_option maxHeartbeats 4000000 in
set_option maxRecDepth 100000 in
theorem c_X1_shareOut (l_ : Launch) (G : jG) (I : Nat → Nat → Int32) (J : Nat → Nat → Int64) (O : Nat → Nat → Nat) (c : Nat) (op : Nat → Int32) (ho : ∀ j, j < 8 → I 27 j = op j) (hc : c < 8) {nd : Nat} (hnd : nd ≤ 10) (hD : I 0 0 = nI nd) (hW : wfD (I 0) nd) : jMv l_ G yX1_shareOut wsX1_shareOut ({ frames := 1, cells := 0, slots := 0, locals := 23 }) [.ref (G.2.2.1 (11, 0, 0)), .int (nI c)] (I, J, O) (fun u => u = (I, srJ J 1 (soC (I 0) op (J 0) nd c (J 1)), O)) := by
  refine jMv_of (cc := cX1_shareOut) (maxL := 6) (ret := none) (lv0 := [(0, .ref (G.2.2.1 (11, 0, 0))), (1, .int (nI c))]) (by decide) rfl (Nat.le_of_ble_eq_true rfl) rfl ?_
  intro pg_ ev_ s_ mi_ below meth cd_ A ls hC hB hl
  obtain ⟨hx, hb, hr, hml, hown, hts, hlocks, hK, hA⟩ := id hC
  have lk_18 := hts (.fieldLink RX1 18 "RiddlePrison$Foresight" "open" "[I") (by decide +kernel)
  have lk_34 := hts (.fieldLink RX1 34 "RiddlePrison$Foresight" "odds" "[J") (by decide +kernel)
  have lk_41 := hts (.fieldLink RX1 41 "RiddlePrison$Foresight" "prison" "LRiddlePrison$Prison;") (by decide +kernel)
  have ln_85 := (by decide +kernel : Cond.fieldLinkNest RX1 85 "RiddlePrison$Prison" "doorCount" "I" "RiddlePrison" ∈ nsW)
  have lk_38 := hts (.fieldLink RX1 38 "RiddlePrison$Foresight" "oddsAhead" "[J") (by decide +kernel)
  have ln_92 := (by decide +kernel : Cond.fieldLinkNest RX1 92 "RiddlePrison$Prison" "doors" "[LRiddlePrison$Door;" "RiddlePrison" ∈ nsW)
  have in_X1 := (fun w h => List.mem_cons_of_mem _ (List.mem_append_left _ (List.mem_append_left _ (List.mem_append_right _ h))) : ∀ w ∈ wsX10, w ∈ wsX1_shareOut)
  have in_X4 := (fun w h => List.mem_cons_of_mem _ (List.mem_append_left _ (List.mem_append_right _ h)) : ∀ w ∈ wsX40, w ∈ wsX1_shareOut)
  refine lv_aload_n hx hb dX1_shareOut_0 rfl (lv_at hl 0 rfl) ?_
  refine j_get (11, 0, 0) 3 (v := .ref (G.2.2.1 (21, 27, 0))) hC hB in_X1 lk_18 dX1_shareOut_1 jk11 rfl rfl (by decide) rfl ?_
  refine lv_iload_n hx hb dX1_shareOut_4 rfl (lv_at hl 1 rfl) ?_
  refine j_iLd 27 c hC hB dX1_shareOut_5 (by decide) rfl (by simp only [lenI_27]; omega) ?_
  refine j_eqi (y := (I 27) c) rfl ?_
  refine j_eqi (y := op c) (ho c hc) ?_
  refine j_csi [.int (op c)] hC hB hl.1 (c_J6_bitCount_0f7a4 l_ G I J O (op c)) (va_cwS 1 hts gX1_shareOut_J6_bitCount_0f7a4 rfl rfl rfl (by decide +kernel) ⟨by decide, by decide⟩) dX1_shareOut_6 rfl rfl (Nat.le_of_ble_eq_true rfl) (fun r_6 u_6 H locs hp_6 hB => ?_)
  obtain ⟨rfl, rfl⟩ := hp_6
  refine lv_istore_n (lv' := [(2, .int (bcJ (op c))), (0, .ref (G.2.2.1 (11, 0, 0))), (1, .int (nI c))]) hx hb dX1_shareOut_9 rfl hl (by decide) rfl (fun ls hl => ?_)
  refine lv_iload_n hx hb dX1_shareOut_10 rfl (lv_at hl 0 rfl) ?_
  refine lv_if_gt (tgt := 34) hx hb dX1_shareOut_11 (by decide) (fun c_11 => ?_) (fun c_11 => ?_)
  · refine lv_aload_n hx hb dX1_shareOut_34 rfl (lv_at hl 1 rfl) ?_
    refine j_get (11, 0, 0) 8 (v := .ref (G.2.2.1 (22, 0, 0))) hC hB in_X1 lk_34 dX1_shareOut_35 jk11 rfl rfl (by decide) rfl ?_
    refine lv_iload_n hx hb dX1_shareOut_38 rfl (lv_at hl 2 rfl) ?_
    refine j_lLd 0 c hC hB dX1_shareOut_39 (by decide) rfl (by simp only [lenJ_0]; omega) ?_
    refine j_eql (y := (J 0) c) rfl ?_
    refine lv_sipush (v := nI 2520) hx hb dX1_shareOut_40 (by decide) ?_
    refine lv_iload_n hx hb dX1_shareOut_43 rfl (lv_at hl 0 rfl) ?_
    refine lv_idiv hx hb dX1_shareOut_44 (fun e => absurd c_11 (by rw [e]; decide)) ?_
    refine lv_i2l (v := ((nI 2520) / (bcJ (op c))).toInt64) hx hb dX1_shareOut_45 rfl ?_
    refine lv_lmul hx hb dX1_shareOut_46 ?_
    refine lv_lstore_n (lv' := [(3, .long (((J 0) c) * (((nI 2520) / (bcJ (op c))).toInt64))), (2, .int (bcJ (op c))), (0, .ref (G.2.2.1 (11, 0, 0))), (1, .int (nI c))]) hx hb dX1_shareOut_47 rfl hl (by decide) rfl (fun ls hl => ?_)
    refine lv_iconst (v := nI 0) hx hb dX1_shareOut_48 (by decide) ?_
    refine lv_istore (lv' := [(5, .int (nI 0)), (3, .long (((J 0) c) * (((nI 2520) / (bcJ (op c))).toInt64))), (2, .int (bcJ (op c))), (0, .ref (G.2.2.1 (11, 0, 0))), (1, .int (nI c))]) hx hb dX1_shareOut_49 hl (by decide) rfl (fun ls hl => ?_)
    have lp_51 : ∀ (fu : Nat) (y : Nat → Int64) (d : Nat), nd - d < fu → (d ≤ nd) → (y = it (soD (I 0) op (J 0 c * (nI 2520 / bcJ (op c)).toInt64) c) d (J 1)) → ∀ H locs ls, jB G A s_.heap (I, srJ J 1 (y), O) H locs → lv_has ls 6 [(5, .int (nI d)), (3, .long (((J 0) c) * (((nI 2520) / (bcJ (op c))).toInt64))), (2, .int (bcJ (op c))), (0, .ref (G.2.2.1 (11, 0, 0))), (1, .int (nI c))] → W pg_ l_ ev_ ({ frames := 1, cells := 0, slots := 0, locals := 23 }) s_ mi_ ([.ref (G.2.2.1 (11, 0, 0)), .int (nI c)]).toArray below meth cd_ H locs 0 0 (jQv G A below [.ref (G.2.2.1 (11, 0, 0)), .int (nI c)] s_ (fun u => u = (I, srJ J 1 (soC (I 0) op (J 0) nd c (J 1)), O))) (F0 mi_ 51 ls []) := by
      intro fu
      induction fu with
      | zero => intro y d hf; exact absurd hf (Nat.not_lt_zero _)
      | succ fu ih_51 =>
        intro y d hf_51 hd hs H locs ls hB hl
        refine lv_iload hx hb dX1_shareOut_51 (lv_at hl 0 rfl) ?_
        refine lv_aload_n hx hb dX1_shareOut_53 rfl (lv_at hl 3 rfl) ?_
        refine j_get (11, 0, 0) 0 (v := .ref (G.2.2.1 (1, 0, 0))) hC hB in_X1 lk_41 dX1_shareOut_54 jk11 rfl rfl (by decide) rfl ?_
        refine j_getN (1, 0, 0) 2 (v := .int (I 0 0)) hC hB in_X4 ln_85 dX1_shareOut_57 (jk1 (by omega)) rfl rfl (by decide) rfl ?_
        refine j_eqi (x := I 0 0) (y := nI nd) (hD) ?_
        refine jn_icmp_ge (tgt := 103) hx hb dX1_shareOut_60 (by decide) (by omega) (by omega) (fun c_60 => ?_) (fun c_60 => ?_)
        · exact j_vret hC hB dX1_shareOut_103 (by rw [soC, if_pos c_11, hs, show d = nd by omega])
        · refine lv_aload_n hx hb dX1_shareOut_63 rfl (lv_at hl 3 rfl) ?_
          refine lv_iload_n hx hb dX1_shareOut_64 rfl (lv_at hl 4 rfl) ?_
          refine lv_iload hx hb dX1_shareOut_65 (lv_at hl 0 rfl) ?_
          refine lv_iconst (v := nI 0) hx hb dX1_shareOut_67 (by decide) ?_
          refine j_cvi (11, 0, 0) [.int (nI c), .int (nI d), .int (nI 0)] hC hB hl.1 (c_X1_isOpen l_ G I (srJ J 1 (y)) O c d (nI 0) (by omega)) (cwV 3 hts gX1_shareOut_X1_isOpen rfl rfl rfl (by decide +kernel) ⟨by decide, by decide⟩) dX1_shareOut_68 jk11 rfl rfl rfl rfl (Nat.le_of_ble_eq_true rfl) (fun r_68 u_68 H locs hp_68 hB => ?_)
          obtain ⟨rfl, rfl⟩ := hp_68
          refine j_eqi (y := b2 (ioB (I 27) c d (nI 0))) (rfl) ?_
          refine j_eqi (y := b2 (ioB op c d (nI 0))) (by rw [ioB_cong (ho _ hc)]) ?_
          refine jb_if_eq (tgt := 97) hx hb dX1_shareOut_71 (by decide) (fun c_71 => ?_) (fun c_71 => ?_)
          · refine lv_iinc (v := nI (d + 1)) (lv' := [(5, .int (nI (d + 1))), (3, .long (((J 0) c) * (((nI 2520) / (bcJ (op c))).toInt64))), (2, .int (bcJ (op c))), (0, .ref (G.2.2.1 (11, 0, 0))), (1, .int (nI c))]) hx hb dX1_shareOut_97 hl (k := 0) rfl (jn_inc _ 1) (by decide) rfl (fun ls hl => ?_)
            refine lv_goto (tgt := 51) hx hb dX1_shareOut_100 (by decide) ?_
            exact ih_51 y (d + 1) (by omega) (by omega) (by rw [it_s, ← hs]; simp [soD, c_71]) _ _ _ hB (lv_sub hl [0, 1, 2, 3, 4] rfl)
          · refine lv_aload_n hx hb dX1_shareOut_74 rfl (lv_at hl 3 rfl) ?_
            refine j_get (11, 0, 0) 9 (v := .ref (G.2.2.1 (22, 1, 0))) hC hB in_X1 lk_38 dX1_shareOut_75 jk11 rfl rfl (by decide) rfl ?_
            refine lv_aload_n hx hb dX1_shareOut_78 rfl (lv_at hl 3 rfl) ?_
            refine j_get (11, 0, 0) 0 (v := .ref (G.2.2.1 (1, 0, 0))) hC hB in_X1 lk_41 dX1_shareOut_79 jk11 rfl rfl (by decide) rfl ?_
            refine j_getN (1, 0, 0) 0 (v := .ref (G.2.2.1 (2, 0, 0))) hC hB in_X4 ln_92 dX1_shareOut_82 (jk1 (by omega)) rfl rfl (by decide) rfl ?_
            refine lv_iload hx hb dX1_shareOut_85 (lv_at hl 0 rfl) ?_
            refine j_ald (2, 0, 0) (4, 0, d) 3 d hC hB dX1_shareOut_87 (jk2 (by omega)) rfl rfl rfl (by omega) (by decide) rfl ?_
            refine lv_iload_n hx hb dX1_shareOut_88 rfl (lv_at hl 4 rfl) ?_
            refine j_cvi (4, 0, d) [.int (nI c)] hC hB hl.1 (c_X0_beyond l_ G I (srJ J 1 (y)) O 0 d (nI c) ((jk4 (by omega) (by omega)))) (cwV 1 hts gX1_shareOut_X0_beyond rfl rfl rfl (by decide +kernel) ⟨by decide, by decide⟩) dX1_shareOut_89 (jk4 (by omega) (by omega)) rfl rfl rfl rfl (Nat.le_of_ble_eq_true rfl) (fun r_89 u_89 H locs hp_89 hB => ?_)
            obtain ⟨rfl, rfl⟩ := hp_89
            refine j_eqi (y := beF (I 0) d (nI c)) (rfl) ?_
            have hbe := be_ok (c := c) hW (show d < nd by omega)
            refine j_eqi hbe.1 ?_
            refine lv_dup2_11 hx hb dX1_shareOut_92 rfl rfl ?_
            refine j_lLd 1 (beN (I 0) d c) hC hB dX1_shareOut_93 (by decide) rfl (by simp only [lenJ_1]; omega) ?_
            refine j_eql (x := (srJ J 1 (y)) 1 (beN (I 0) d c)) (y := y (beN (I 0) d c)) (srJ_sj) ?_
            refine lv_lload_n hx hb dX1_shareOut_94 rfl (lv_at hl 1 rfl) ?_
            refine lv_ladd hx hb dX1_shareOut_95 ?_
            refine j_lSt 1 (beN (I 0) d c) hC hB dX1_shareOut_96 (by decide) rfl (by simp only [lenJ_1]; omega) (fun H locs hB => ?_)
            have hB : jB G A s_.heap (I, srJ J 1 (vp_updL (y) (beN (I 0) d c) ((y (beN (I 0) d c)) + (((J 0) c) * (((nI 2520) / (bcJ (op c))).toInt64)))), O) H locs := by rw [show srJ J 1 (vp_updL (y) (beN (I 0) d c) ((y (beN (I 0) d c)) + (((J 0) c) * (((nI 2520) / (bcJ (op c))).toInt64)))) = v2 (srJ J 1 (y)) 1 (beN (I 0) d c) ((y (beN (I 0) d c)) + (((J 0) c) * (((nI 2520) / (bcJ (op c))).toInt64))) from (v2_srJ _ _ _ _ _).symm]; exact hB
            refine lv_iinc (v := nI (d + 1)) (lv' := [(5, .int (nI (d + 1))), (3, .long (((J 0) c) * (((nI 2520) / (bcJ (op c))).toInt64))), (2, .int (bcJ (op c))), (0, .ref (G.2.2.1 (11, 0, 0))), (1, .int (nI c))]) hx hb dX1_shareOut_97 hl (k := 0) rfl (jn_inc _ 1) (by decide) rfl (fun ls hl => ?_)
            refine lv_goto (tgt := 51) hx hb dX1_shareOut_100 (by decide) ?_
            exact ih_51 (vp_updL (y) (beN (I 0) d c) ((y (beN (I 0) d c)) + (((J 0) c) * (((nI 2520) / (bcJ (op c))).toInt64)))) (d + 1) (by omega) (by omega) (by rw [it_s, ← hs]; simp [soD, c_71]) _ _ _ hB (lv_sub hl [0, 1, 2, 3, 4] rfl)
    exact lp_51 _ (J 1) 0 (Nat.lt_succ_self _) (by omega) (rfl) _ _ _ (jB_cast2 hB rfl (by first | exact (srJ_id _ _).symm | (funext a_; simp +decide only [srJ]; (repeat' split) <;> first | rfl | (exfalso; omega) | (subst_vars; rfl)))) (lv_sub hl [0, 1, 2, 3, 4] rfl)
  · refine lv_aload_n hx hb dX1_shareOut_14 rfl (lv_at hl 1 rfl) ?_
    refine j_get (11, 0, 0) 9 (v := .ref (G.2.2.1 (22, 1, 0))) hC hB in_X1 lk_38 dX1_shareOut_15 jk11 rfl rfl (by decide) rfl ?_
    refine lv_iload_n hx hb dX1_shareOut_18 rfl (lv_at hl 2 rfl) ?_
    refine lv_dup2_11 hx hb dX1_shareOut_19 rfl rfl ?_
    refine j_lLd 1 c hC hB dX1_shareOut_20 (by decide) rfl (by simp only [lenJ_1]; omega) ?_
    refine j_eql (y := (J 1) c) rfl ?_
    refine lv_aload_n hx hb dX1_shareOut_21 rfl (lv_at hl 1 rfl) ?_
    refine j_get (11, 0, 0) 8 (v := .ref (G.2.2.1 (22, 0, 0))) hC hB in_X1 lk_34 dX1_shareOut_22 jk11 rfl rfl (by decide) rfl ?_
    refine lv_iload_n hx hb dX1_shareOut_25 rfl (lv_at hl 2 rfl) ?_
    refine j_lLd 0 c hC hB dX1_shareOut_26 (by decide) rfl (by simp only [lenJ_0]; omega) ?_
    refine j_eql (y := (J 0) c) rfl ?_
    refine lv_ldc2 (v := 2520) hx hb hown (hts (.constantLong RX1 150 (2520)) (by decide +kernel)) dX1_shareOut_27 ?_
    refine lv_lmul hx hb dX1_shareOut_30 ?_
    refine lv_ladd hx hb dX1_shareOut_31 ?_
    refine j_lSt 1 c hC hB dX1_shareOut_32 (by decide) rfl (by simp only [lenJ_1]; omega) (fun H locs hB => ?_)
    have hB : jB G A s_.heap (I, srJ J 1 (vp_updL (J 1) c (((J 1) c) + (((J 0) c) * ((2520 : Int64))))), O) H locs := by rw [show srJ J 1 (vp_updL (J 1) c (((J 1) c) + (((J 0) c) * ((2520 : Int64))))) = v2 J 1 c (((J 1) c) + (((J 0) c) * ((2520 : Int64)))) from (v2_eq _ _ _ _).symm]; exact hB
    exact j_vret hC hB dX1_shareOut_33 (by rw [soC, if_neg c_11])

set_option maxHeartbeats 4000000 in
set_option maxRecDepth 100000 in
theorem c_X1_spreadOdds (l_ : Launch) (G : jG) (I : Nat → Nat → Int32) (J : Nat → Nat → Int64) (O : Nat → Nat → Nat) (n : Nat) (op : Nat → Int32) (ho : ∀ j, j < 8 → I 27 j = op j) (hn : n ≤ 4) {st : Nat} (hst : st < 8) (hSt : I 26 0 = nI st) {nd : Nat} (hnd : nd ≤ 10) (hD : I 0 0 = nI nd) (hW : wfD (I 0) nd) : jMl l_ G yX1_spreadOdds wsX1_spreadOdds ({ frames := 2, cells := 0, slots := 0, locals := 60 }) [.ref (G.2.2.1 (11, 0, 0)), .int (nI n)] (I, J, O) (fun r u => r = whL n ∧ ∃ (y0 y1 : Nat → Int64), ag8L y0 (odC (I 0) op nd st n) ∧ u = (I, srJ (srJ J 0 y0) 1 y1, O)) := by
  refine jMl_of (cc := cX1_spreadOdds) (maxL := 6) (ret := (some .long)) (lv0 := [(0, .ref (G.2.2.1 (11, 0, 0))), (1, .int (nI n))]) (by decide) rfl (Nat.le_of_ble_eq_true rfl) rfl ?_
  intro pg_ ev_ s_ mi_ below meth cd_ A ls hC hB hl
  obtain ⟨hx, hb, hr, hml, hown, hts, hlocks, hK, hA⟩ := id hC
  have lk_34 := hts (.fieldLink RX1 34 "RiddlePrison$Foresight" "odds" "[J") (by decide +kernel)
  have lk_63 := hts (.fieldLink RX1 63 "RiddlePrison$Foresight" "start" "I") (by decide +kernel)
  have lk_38 := hts (.fieldLink RX1 38 "RiddlePrison$Foresight" "oddsAhead" "[J") (by decide +kernel)
  have in_X1 := (fun w h => List.mem_cons_of_mem _ (List.mem_append_left _ (List.mem_append_left _ (List.mem_append_right _ h))) : ∀ w ∈ wsX10, w ∈ wsX1_spreadOdds)
  refine lv_aload_n hx hb dX1_spreadOdds_0 rfl (lv_at hl 0 rfl) ?_
  refine j_get (11, 0, 0) 8 (v := .ref (G.2.2.1 (22, 0, 0))) hC hB in_X1 lk_34 dX1_spreadOdds_1 jk11 rfl rfl (by decide) rfl ?_
  refine lv_lconst (v := 0) hx hb dX1_spreadOdds_4 rfl ?_
  refine j_csv [.ref (G.2.2.1 (22, 0, 0)), .long ((0 : Int64))] hC hB hl.1 (c_J7_fill_d0a16 l_ G I J O 0 ((0 : Int64)) (by omega)) (va_cwS 2 hts gX1_spreadOdds_J7_fill_d0a16 rfl rfl rfl (by decide +kernel) ⟨by decide, by decide⟩) dX1_spreadOdds_5 rfl rfl (Nat.le_of_ble_eq_true rfl) (fun u_5 H locs hp_5 hB => ?_)
  obtain rfl := hp_5
  have hB : jB G A s_.heap (I, srJ J 0 (filJ (J 0) ((0 : Int64)) (lenJ 0)), O) H locs := hB
  refine lv_aload_n hx hb dX1_spreadOdds_8 rfl (lv_at hl 0 rfl) ?_
  refine j_get (11, 0, 0) 8 (v := .ref (G.2.2.1 (22, 0, 0))) hC hB in_X1 lk_34 dX1_spreadOdds_9 jk11 rfl rfl (by decide) rfl ?_
  refine lv_aload_n hx hb dX1_spreadOdds_12 rfl (lv_at hl 0 rfl) ?_
  refine j_get (11, 0, 0) 2 (v := .int (I 26 0)) hC hB in_X1 lk_63 dX1_spreadOdds_13 jk11 rfl rfl (by decide) rfl ?_
  refine j_eqi (x := I 26 0) (y := nI st) (hSt) ?_
  refine lv_lconst (v := 1) hx hb dX1_spreadOdds_16 rfl ?_
  refine j_lSt 0 st hC hB dX1_spreadOdds_17 (by decide) rfl (by simp only [lenJ_0]; omega) (fun H locs hB => ?_)
  have hB : jB G A s_.heap (I, srJ J 0 (vp_updL (filJ (J 0) ((0 : Int64)) (lenJ 0)) st ((1 : Int64))), O) H locs := by rw [show srJ J 0 (vp_updL (filJ (J 0) ((0 : Int64)) (lenJ 0)) st ((1 : Int64))) = v2 (srJ J 0 (filJ (J 0) ((0 : Int64)) (lenJ 0))) 0 st ((1 : Int64)) from (v2_srJ _ _ _ _ _).symm]; exact hB
  refine lv_lconst (v := 1) hx hb dX1_spreadOdds_18 rfl ?_
  refine lv_lstore_n (lv' := [(2, .long ((1 : Int64))), (0, .ref (G.2.2.1 (11, 0, 0))), (1, .int (nI n))]) hx hb dX1_spreadOdds_19 rfl hl (by decide) rfl (fun ls hl => ?_)
  refine lv_iconst (v := nI 0) hx hb dX1_spreadOdds_20 (by decide) ?_
  refine lv_istore (lv' := [(4, .int (nI 0)), (2, .long ((1 : Int64))), (0, .ref (G.2.2.1 (11, 0, 0))), (1, .int (nI n))]) hx hb dX1_spreadOdds_21 hl (by decide) rfl (fun ls hl => ?_)
  have lp_23 : ∀ (fu : Nat) (x : Nat → Int64) (y : Nat → Int64) (w : Int64) (k : Nat), n - k < fu → (k ≤ n) → ((x, y) = it (soK (I 0) op nd) k (soI (J 0) st, J 1)) → (w = whL k) → ∀ H locs ls, jB G A s_.heap (I, srJ (srJ J 0 (x)) 1 (y), O) H locs → lv_has ls 6 [(4, .int (nI k)), (2, .long w), (0, .ref (G.2.2.1 (11, 0, 0))), (1, .int (nI n))] → W pg_ l_ ev_ ({ frames := 2, cells := 0, slots := 0, locals := 60 }) s_ mi_ ([.ref (G.2.2.1 (11, 0, 0)), .int (nI n)]).toArray below meth cd_ H locs 0 0 (jQl G A below [.ref (G.2.2.1 (11, 0, 0)), .int (nI n)] s_ (fun r u => r = whL n ∧ ∃ (y0 y1 : Nat → Int64), ag8L y0 (odC (I 0) op nd st n) ∧ u = (I, srJ (srJ J 0 y0) 1 y1, O))) (F0 mi_ 23 ls []) := by
    intro fu
    induction fu with
    | zero => intro x y w k hf; exact absurd hf (Nat.not_lt_zero _)
    | succ fu ih_23 =>
      intro x y w k hf_23 hk hs hw H locs ls hB hl
      refine lv_iload hx hb dX1_spreadOdds_23 (lv_at hl 0 rfl) ?_
      refine lv_iload_n hx hb dX1_spreadOdds_25 rfl (lv_at hl 3 rfl) ?_
      refine jn_icmp_ge (tgt := 86) hx hb dX1_spreadOdds_26 (by decide) (by omega) (by omega) (fun c_26 => ?_) (fun c_26 => ?_)
      · refine lv_lload_n hx hb dX1_spreadOdds_86 rfl (lv_at hl 1 rfl) ?_
        exact j_lret hC hB dX1_spreadOdds_87 (⟨by rw [hw, show k = n by omega], _, _, by rw [show x = (it (soK (I 0) op nd) n (soI (J 0) st, J 1)).1 from by rw [← show k = n by omega, ← hs]]; exact soK_rel hW _ _ _, rfl⟩)
      · refine lv_aload_n hx hb dX1_spreadOdds_29 rfl (lv_at hl 2 rfl) ?_
        refine j_get (11, 0, 0) 9 (v := .ref (G.2.2.1 (22, 1, 0))) hC hB in_X1 lk_38 dX1_spreadOdds_30 jk11 rfl rfl (by decide) rfl ?_
        refine lv_lconst (v := 0) hx hb dX1_spreadOdds_33 rfl ?_
        refine j_csv [.ref (G.2.2.1 (22, 1, 0)), .long ((0 : Int64))] hC hB hl.1 (c_J7_fill_d0a16 l_ G I (srJ (srJ J 0 (x)) 1 (y)) O 1 ((0 : Int64)) (by omega)) (va_cwS 2 hts gX1_spreadOdds_J7_fill_d0a16 rfl rfl rfl (by decide +kernel) ⟨by decide, by decide⟩) dX1_spreadOdds_34 rfl rfl (Nat.le_of_ble_eq_true rfl) (fun u_34 H locs hp_34 hB => ?_)
        obtain rfl := hp_34
        have hB : jB G A s_.heap (I, srJ (srJ J 0 (x)) 1 (filJ (y) ((0 : Int64)) (lenJ 1)), O) H locs := by (rw [show srJ (srJ J 0 (x)) 1 (filJ (y) ((0 : Int64)) (lenJ 1)) = srJ (srJ (srJ J 0 (x)) 1 (y)) 1 (filJ (y) ((0 : Int64)) (lenJ 1)) from by funext a; simp +decide only [srJ]; (repeat' split) <;> first | rfl | (exfalso; omega) | (subst_vars; rfl)]; exact hB)
        refine lv_iconst (v := nI 0) hx hb dX1_spreadOdds_37 (by decide) ?_
        refine lv_istore (lv' := [(5, .int (nI 0)), (4, .int (nI k)), (2, .long w), (0, .ref (G.2.2.1 (11, 0, 0))), (1, .int (nI n))]) hx hb dX1_spreadOdds_38 hl (by decide) rfl (fun ls hl => ?_)
        have lp_40 : ∀ (fu : Nat) (y2 : Nat → Int64) (c : Nat), 8 - c < fu → (c ≤ 8) → (y2 = it (soC (I 0) op x nd) c (filJ y 0 8)) → ∀ H locs ls, jB G A s_.heap (I, srJ (srJ J 0 (x)) 1 (y2), O) H locs → lv_has ls 6 [(5, .int (nI c)), (4, .int (nI k)), (2, .long w), (0, .ref (G.2.2.1 (11, 0, 0))), (1, .int (nI n))] → W pg_ l_ ev_ ({ frames := 2, cells := 0, slots := 0, locals := 60 }) s_ mi_ ([.ref (G.2.2.1 (11, 0, 0)), .int (nI n)]).toArray below meth cd_ H locs 0 0 (jQl G A below [.ref (G.2.2.1 (11, 0, 0)), .int (nI n)] s_ (fun r u => r = whL n ∧ ∃ (y0 y1 : Nat → Int64), ag8L y0 (odC (I 0) op nd st n) ∧ u = (I, srJ (srJ J 0 y0) 1 y1, O))) (F0 mi_ 40 ls []) := by
          intro fu
          induction fu with
          | zero => intro y2 c hf; exact absurd hf (Nat.not_lt_zero _)
          | succ fu ih_40 =>
            intro y2 c hf_40 hc8 hs2 H locs ls hB hl
            refine lv_iload hx hb dX1_spreadOdds_40 (lv_at hl 0 rfl) ?_
            refine lv_bipush (v := nI 8) hx hb dX1_spreadOdds_42 (by decide) ?_
            refine jn_icmp_ge (tgt := 59) hx hb dX1_spreadOdds_44 (by decide) (by omega) (by omega) (fun c_44 => ?_) (fun c_44 => ?_)
            · refine lv_aload_n hx hb dX1_spreadOdds_59 rfl (lv_at hl 3 rfl) ?_
              refine j_get (11, 0, 0) 9 (v := .ref (G.2.2.1 (22, 1, 0))) hC hB in_X1 lk_38 dX1_spreadOdds_60 jk11 rfl rfl (by decide) rfl ?_
              refine lv_iconst (v := nI 0) hx hb dX1_spreadOdds_63 (by decide) ?_
              refine lv_aload_n hx hb dX1_spreadOdds_64 rfl (lv_at hl 3 rfl) ?_
              refine j_get (11, 0, 0) 8 (v := .ref (G.2.2.1 (22, 0, 0))) hC hB in_X1 lk_34 dX1_spreadOdds_65 jk11 rfl rfl (by decide) rfl ?_
              refine lv_iconst (v := nI 0) hx hb dX1_spreadOdds_68 (by decide) ?_
              refine lv_bipush (v := nI 8) hx hb dX1_spreadOdds_69 (by decide) ?_
              refine j_cpL 1 0 0 0 8 hC hB hl.1 (hts (.methodLink RX1 121 arraycopyName) (by decide +kernel)) (hts (.native arraycopyName) (by decide +kernel)) (hts (.static arraycopyName) (by decide +kernel)) (hts (.initialized "java/lang/System") (by decide +kernel)) dX1_spreadOdds_71 (by decide) (by decide) (by decide) (by decide) (by decide) (Nat.le_of_ble_eq_true rfl) (fun H locs hB => ?_)
              have hB : jB G A s_.heap (I, srJ (srJ J 1 (y2)) 0 (va_cpy (y2) (x) 0 0 8), O) H locs := by (rw [show srJ (srJ J 1 (y2)) 0 (va_cpy (y2) (x) 0 0 8) = srJ (srJ (srJ J 0 (x)) 1 (y2)) 0 (va_cpy (y2) (x) 0 0 8) from by funext a; simp +decide only [srJ]; (repeat' split) <;> first | rfl | (exfalso; omega) | (subst_vars; rfl)]; exact hB)
              refine lv_lload_n hx hb dX1_spreadOdds_74 rfl (lv_at hl 2 rfl) ?_
              refine lv_ldc2 (v := 2520) hx hb hown (hts (.constantLong RX1 150 (2520)) (by decide +kernel)) dX1_spreadOdds_75 ?_
              refine lv_lmul hx hb dX1_spreadOdds_78 ?_
              refine lv_lstore_n (lv' := [(2, .long (w * ((2520 : Int64)))), (5, .int (nI c)), (4, .int (nI k)), (0, .ref (G.2.2.1 (11, 0, 0))), (1, .int (nI n))]) hx hb dX1_spreadOdds_79 rfl hl (by decide) rfl (fun ls hl => ?_)
              refine lv_iinc (v := nI (k + 1)) (lv' := [(4, .int (nI (k + 1))), (2, .long (w * ((2520 : Int64)))), (5, .int (nI c)), (0, .ref (G.2.2.1 (11, 0, 0))), (1, .int (nI n))]) hx hb dX1_spreadOdds_80 hl (k := 2) rfl (jn_inc _ 1) (by decide) rfl (fun ls hl => ?_)
              refine lv_goto (tgt := 23) hx hb dX1_spreadOdds_83 (by decide) ?_
              exact ih_23 (va_cpy (y2) (x) 0 0 8) y2 (w * ((2520 : Int64))) (k + 1) (by omega) (by omega) (by rw [it_s, ← hs, hs2, show c = 8 by omega]; rfl) (by rw [hw]; rfl) _ _ _ (jB_cast2 hB rfl (by first | exact (srJ_id _ _).symm | (funext a_; simp +decide only [srJ]; (repeat' split) <;> first | rfl | (exfalso; omega) | (subst_vars; rfl)))) (lv_sub hl [0, 1, 3, 4] rfl)
            · refine lv_aload_n hx hb dX1_spreadOdds_47 rfl (lv_at hl 3 rfl) ?_
              refine lv_iload hx hb dX1_spreadOdds_48 (lv_at hl 0 rfl) ?_
              refine j_cvv (11, 0, 0) [.int (nI c)] hC hB hl.1 (c_X1_shareOut l_ G I (srJ (srJ J 0 (x)) 1 (y2)) O c (op) (ho) (by omega) (by omega) (hD) (hW)) (cwV 1 hts gX1_spreadOdds_X1_shareOut rfl rfl rfl (by decide +kernel) ⟨by decide, by decide⟩) dX1_spreadOdds_50 jk11 rfl rfl rfl rfl (Nat.le_of_ble_eq_true rfl) (fun u_50 H locs hp_50 hB => ?_)
              obtain rfl := hp_50
              have hB : jB G A s_.heap (I, srJ (srJ J 0 (x)) 1 (soC (I 0) op (x) nd c (y2)), O) H locs := by (rw [show srJ (srJ J 0 (x)) 1 (soC (I 0) op (x) nd c (y2)) = srJ (srJ (srJ J 0 (x)) 1 (y2)) 1 (soC (I 0) op (x) nd c (y2)) from by funext a; simp +decide only [srJ]; (repeat' split) <;> first | rfl | (exfalso; omega) | (subst_vars; rfl)]; exact hB)
              refine lv_iinc (v := nI (c + 1)) (lv' := [(5, .int (nI (c + 1))), (4, .int (nI k)), (2, .long w), (0, .ref (G.2.2.1 (11, 0, 0))), (1, .int (nI n))]) hx hb dX1_spreadOdds_53 hl (k := 0) rfl (jn_inc _ 1) (by decide) rfl (fun ls hl => ?_)
              refine lv_goto (tgt := 40) hx hb dX1_spreadOdds_56 (by decide) ?_
              exact ih_40 (soC (I 0) op (x) nd c (y2)) (c + 1) (by omega) (by omega) (by rw [it_s, ← hs2]) _ _ _ hB (lv_sub hl [0, 1, 2, 3, 4] rfl)
        exact lp_40 _ (filJ (y) ((0 : Int64)) (lenJ 1)) 0 (Nat.lt_succ_self _) (by omega) (rfl) _ _ _ hB (lv_sub hl [0, 1, 2, 3, 4] rfl)
  exact lp_23 _ (vp_updL (filJ (J 0) ((0 : Int64)) (lenJ 0)) st ((1 : Int64))) (J 1) ((1 : Int64)) 0 (Nat.lt_succ_self _) (by omega) (rfl) (rfl) _ _ _ (jB_cast2 hB rfl (by first | exact (srJ_id _ _).symm | (funext a_; simp +decide only [srJ]; (repeat' split) <;> first | rfl | (exfalso; omega) | (subst_vars; rfl)))) (lv_sub hl [0, 1, 2, 3] rfl)

set_option maxHeartbeats 4000000 in
set_option maxRecDepth 100000 in
theorem c_X1_stateOf (l_ : Launch) (G : jG) (I : Nat → Nat → Int32) (J : Nat → Nat → Int64) (O : Nat → Nat → Nat) (c b cs : Nat) (hc : c < 8) : jMi l_ G yX1_stateOf wsX1_stateOf ({ frames := 0, cells := 0, slots := 0, locals := 0 }) [.int (nI c), .int (nI b), .int (nI cs)] (I, J, O) (fun r u => r = nI (stN c b cs) ∧ u = (I, J, O)) := by
  refine jMi_of (cc := cX1_stateOf) (maxL := 3) (ret := (some .int)) (lv0 := [(0, .int (nI c)), (1, .int (nI b)), (2, .int (nI cs))]) (by decide) rfl (Nat.le_of_ble_eq_true rfl) rfl ?_
  intro pg_ ev_ s_ mi_ below meth cd_ A ls hC hB hl
  obtain ⟨hx, hb, hr, hml, hown, hts, hlocks, hK, hA⟩ := id hC
  refine lv_iload_n hx hb dX1_stateOf_0 rfl (lv_at hl 0 rfl) ?_
  refine lv_sipush (v := nI 256) hx hb dX1_stateOf_1 (by decide) ?_
  refine jn_imul hx hb dX1_stateOf_4 ?_
  refine lv_iload_n hx hb dX1_stateOf_5 rfl (lv_at hl 1 rfl) ?_
  refine lv_iconst (v := nI 1) hx hb dX1_stateOf_6 (by decide) ?_
  refine lv_iload_n hx hb dX1_stateOf_7 rfl (lv_at hl 0 rfl) ?_
  refine lv_ishl hx hb dX1_stateOf_8 ?_
  refine j_eqi (y := nI (2 ^ c)) (shl1 c (by omega)) ?_
  refine lv_iload_n hx hb dX1_stateOf_9 rfl (lv_at hl 2 rfl) ?_
  refine lv_iand hx hb dX1_stateOf_10 ?_
  refine j_eqi (y := nI (2 ^ c &&& cs)) (zq_and _ _) ?_
  refine lv_ior hx hb dX1_stateOf_11 ?_
  refine j_eqi (y := nI (b ||| (2 ^ c &&& cs))) (zq_or _ _) ?_
  refine jn_iadd hx hb dX1_stateOf_12 ?_
  refine j_eqi (y := nI (stN c b cs)) (rfl) ?_
  exact j_iret hC hB dX1_stateOf_13 (⟨rfl, rfl⟩)

set_option maxHeartbeats 4000000 in
set_option maxRecDepth 100000 in
theorem c_X1_stepOn (l_ : Launch) (G : jG) (I : Nat → Nat → Int32) (J : Nat → Nat → Int64) (O : Nat → Nat → Nat) (x cs : Nat) (op : Nat → Int32) (ho : ∀ j, j < 8 → I 27 j = op j) (hx2 : x < 2048) (hcs : cs < 256) {nd : Nat} (hnd : nd ≤ 10) (hD : I 0 0 = nI nd) (hW : wfD (I 0) nd) : jMv l_ G yX1_stepOn wsX1_stepOn ({ frames := 1, cells := 0, slots := 0, locals := 23 }) [.ref (G.2.2.1 (11, 0, 0)), .int (nI x), .int (nI cs)] (I, J, O) (fun u => u = (sr I 31 (it (rdD (I 0) op cs x) nd (I 31)), J, O)) := by
  refine jMv_of (cc := cX1_stepOn) (maxL := 6) (ret := none) (lv0 := [(0, .ref (G.2.2.1 (11, 0, 0))), (1, .int (nI x)), (2, .int (nI cs))]) (by decide) rfl (Nat.le_of_ble_eq_true rfl) rfl ?_
  intro pg_ ev_ s_ mi_ below meth cd_ A ls hC hB hl
  obtain ⟨hx, hb, hr, hml, hown, hts, hlocks, hK, hA⟩ := id hC
  have lk_41 := hts (.fieldLink RX1 41 "RiddlePrison$Foresight" "prison" "LRiddlePrison$Prison;") (by decide +kernel)
  have ln_85 := (by decide +kernel : Cond.fieldLinkNest RX1 85 "RiddlePrison$Prison" "doorCount" "I" "RiddlePrison" ∈ nsW)
  have ln_92 := (by decide +kernel : Cond.fieldLinkNest RX1 92 "RiddlePrison$Prison" "doors" "[LRiddlePrison$Door;" "RiddlePrison" ∈ nsW)
  have lk_31 := hts (.fieldLink RX1 31 "RiddlePrison$Foresight" "depth" "[I") (by decide +kernel)
  have in_X1 := (fun w h => List.mem_cons_of_mem _ (List.mem_append_left _ (List.mem_append_left _ (List.mem_append_right _ h))) : ∀ w ∈ wsX10, w ∈ wsX1_stepOn)
  have in_X4 := (fun w h => List.mem_cons_of_mem _ (List.mem_append_left _ (List.mem_append_right _ h)) : ∀ w ∈ wsX40, w ∈ wsX1_stepOn)
  refine lv_iload_n hx hb dX1_stepOn_0 rfl (lv_at hl 1 rfl) ?_
  refine lv_sipush (v := nI 256) hx hb dX1_stepOn_1 (by decide) ?_
  refine jn_idiv hx hb dX1_stepOn_4 (by omega) (by omega) (by omega) ?_
  refine lv_istore_n (lv' := [(3, .int (nI (x / 256))), (0, .ref (G.2.2.1 (11, 0, 0))), (1, .int (nI x)), (2, .int (nI cs))]) hx hb dX1_stepOn_5 rfl hl (by decide) rfl (fun ls hl => ?_)
  refine lv_iconst (v := nI 0) hx hb dX1_stepOn_6 (by decide) ?_
  refine lv_istore (lv' := [(4, .int (nI 0)), (3, .int (nI (x / 256))), (0, .ref (G.2.2.1 (11, 0, 0))), (1, .int (nI x)), (2, .int (nI cs))]) hx hb dX1_stepOn_7 hl (by decide) rfl (fun ls hl => ?_)
  have lp_9 : ∀ (fu : Nat) (f2 : Nat → Int32) (d : Nat), nd - d < fu → (d ≤ nd) → (f2 = it (rdD (I 0) op cs x) d (I 31)) → ∀ H locs ls, jB G A s_.heap (sr I 31 (f2), J, O) H locs → lv_has ls 6 [(4, .int (nI d)), (3, .int (nI (x / 256))), (0, .ref (G.2.2.1 (11, 0, 0))), (1, .int (nI x)), (2, .int (nI cs))] → W pg_ l_ ev_ ({ frames := 1, cells := 0, slots := 0, locals := 23 }) s_ mi_ ([.ref (G.2.2.1 (11, 0, 0)), .int (nI x), .int (nI cs)]).toArray below meth cd_ H locs 0 0 (jQv G A below [.ref (G.2.2.1 (11, 0, 0)), .int (nI x), .int (nI cs)] s_ (fun u => u = (sr I 31 (it (rdD (I 0) op cs x) nd (I 31)), J, O))) (F0 mi_ 9 ls []) := by
    intro fu
    induction fu with
    | zero => intro f2 d hf; exact absurd hf (Nat.not_lt_zero _)
    | succ fu ih_9 =>
      intro f2 d hf_9 hd hs2 H locs ls hB hl
      refine lv_iload hx hb dX1_stepOn_9 (lv_at hl 0 rfl) ?_
      refine lv_aload_n hx hb dX1_stepOn_11 rfl (lv_at hl 2 rfl) ?_
      refine j_get (11, 0, 0) 0 (v := .ref (G.2.2.1 (1, 0, 0))) hC hB in_X1 lk_41 dX1_stepOn_12 jk11 rfl rfl (by decide) rfl ?_
      refine j_getN (1, 0, 0) 2 (v := .int ((sr I 31 (f2)) 0 0)) hC hB in_X4 ln_85 dX1_stepOn_15 (jk1 (by omega)) rfl rfl (by decide) rfl ?_
      refine j_eqi (x := (sr I 31 (f2)) 0 0) (y := nI nd) ((sr_nj (show (0 : Nat) ≠ 31 by omega)).trans (hD)) ?_
      refine jn_icmp_ge (tgt := 91) hx hb dX1_stepOn_18 (by decide) (by omega) (by omega) (fun c_18 => ?_) (fun c_18 => ?_)
      · exact j_vret hC hB dX1_stepOn_91 (by rw [hs2, show d = nd by omega])
      · refine lv_aload_n hx hb dX1_stepOn_21 rfl (lv_at hl 2 rfl) ?_
        refine lv_iload_n hx hb dX1_stepOn_22 rfl (lv_at hl 1 rfl) ?_
        refine lv_iload hx hb dX1_stepOn_23 (lv_at hl 0 rfl) ?_
        refine lv_iconst (v := nI 0) hx hb dX1_stepOn_25 (by decide) ?_
        refine j_cvi (11, 0, 0) [.int (nI (x / 256)), .int (nI d), .int (nI 0)] hC hB hl.1 (c_X1_isOpen l_ G (sr I 31 (f2)) J O (x / 256) d (nI 0) (by omega)) (cwV 3 hts gX1_stepOn_X1_isOpen rfl rfl rfl (by decide +kernel) ⟨by decide, by decide⟩) dX1_stepOn_26 jk11 rfl rfl rfl rfl (Nat.le_of_ble_eq_true rfl) (fun r_26 u_26 H locs hp_26 hB => ?_)
        obtain ⟨rfl, rfl⟩ := hp_26
        refine j_eqi (y := b2 (ioB (I 27) (x / 256) d (nI 0))) (rfl) ?_
        refine j_eqi (y := b2 (ioB op (x / 256) d (nI 0))) (by rw [ioB_cong (ho _ (show x / 256 < 8 by omega))]) ?_
        refine jb_if_ne (tgt := 35) hx hb dX1_stepOn_29 (by decide) (fun c_29 => ?_) (fun c_29 => ?_)
        · refine lv_aload_n hx hb dX1_stepOn_35 rfl (lv_at hl 2 rfl) ?_
          refine j_get (11, 0, 0) 0 (v := .ref (G.2.2.1 (1, 0, 0))) hC hB in_X1 lk_41 dX1_stepOn_36 jk11 rfl rfl (by decide) rfl ?_
          refine j_getN (1, 0, 0) 0 (v := .ref (G.2.2.1 (2, 0, 0))) hC hB in_X4 ln_92 dX1_stepOn_39 (jk1 (by omega)) rfl rfl (by decide) rfl ?_
          refine lv_iload hx hb dX1_stepOn_42 (lv_at hl 0 rfl) ?_
          refine j_ald (2, 0, 0) (4, 0, d) 3 d hC hB dX1_stepOn_44 (jk2 (by omega)) rfl rfl rfl (by omega) (by decide) rfl ?_
          refine lv_iload_n hx hb dX1_stepOn_45 rfl (lv_at hl 1 rfl) ?_
          refine j_cvi (4, 0, d) [.int (nI (x / 256))] hC hB hl.1 (c_X0_beyond l_ G (sr I 31 (f2)) J O 0 d (nI (x / 256)) ((jk4 (by omega) (by omega)))) (cwV 1 hts gX1_stepOn_X0_beyond rfl rfl rfl (by decide +kernel) ⟨by decide, by decide⟩) dX1_stepOn_46 (jk4 (by omega) (by omega)) rfl rfl rfl rfl (Nat.le_of_ble_eq_true rfl) (fun r_46 u_46 H locs hp_46 hB => ?_)
          obtain ⟨rfl, rfl⟩ := hp_46
          refine j_eqi (y := beF (I 0) d (nI (x / 256))) (rfl) ?_
          have hbe := be_ok (c := (x / 256)) hW (show d < nd by omega)
          refine j_eqi hbe.1 ?_
          refine lv_iload_n hx hb dX1_stepOn_49 rfl (lv_at hl 3 rfl) ?_
          refine lv_sipush (v := nI 256) hx hb dX1_stepOn_50 (by decide) ?_
          refine jn_irem hx hb dX1_stepOn_53 (by omega) (by omega) (by omega) ?_
          refine lv_iload_n hx hb dX1_stepOn_54 rfl (lv_at hl 4 rfl) ?_
          refine j_csi [.int (nI (beN (I 0) d (x / 256))), .int (nI (x % 256)), .int (nI cs)] hC hB hl.1 (c_X1_stateOf l_ G (sr I 31 (f2)) J O (beN (I 0) d (x / 256)) (x % 256) cs (by omega)) (va_cwS 3 hts gX1_stepOn_X1_stateOf rfl rfl rfl (by decide +kernel) ⟨by decide, by decide⟩) dX1_stepOn_55 rfl rfl (Nat.le_of_ble_eq_true rfl) (fun r_55 u_55 H locs hp_55 hB => ?_)
          obtain ⟨rfl, rfl⟩ := hp_55
          refine j_eqi (y := nI (stN (beN (I 0) d (x / 256)) (x % 256) cs)) (rfl) ?_
          refine j_eqi (y := nI (rdN (I 0) cs x d)) (rfl) ?_
          have hnl := rdN_lt (x := x) hW (show d < nd by omega) hcs
          refine lv_istore (lv' := [(5, .int (nI (rdN (I 0) cs x d))), (4, .int (nI d)), (3, .int (nI (x / 256))), (0, .ref (G.2.2.1 (11, 0, 0))), (1, .int (nI x)), (2, .int (nI cs))]) hx hb dX1_stepOn_58 hl (by decide) rfl (fun ls hl => ?_)
          refine lv_aload_n hx hb dX1_stepOn_60 rfl (lv_at hl 3 rfl) ?_
          refine j_get (11, 0, 0) 7 (v := .ref (G.2.2.1 (21, 31, 0))) hC hB in_X1 lk_31 dX1_stepOn_61 jk11 rfl rfl (by decide) rfl ?_
          refine lv_iload hx hb dX1_stepOn_64 (lv_at hl 0 rfl) ?_
          refine j_iLd 31 (rdN (I 0) cs x d) hC hB dX1_stepOn_66 (by decide) rfl (by simp only [lenI_31]; omega) ?_
          refine j_eqi (x := (sr I 31 (f2)) 31 (rdN (I 0) cs x d)) (y := f2 (rdN (I 0) cs x d)) (sr_sj) ?_
          refine lv_if_ge (tgt := 85) hx hb dX1_stepOn_67 (by decide) (fun c_67 => ?_) (fun c_67 => ?_)
          · refine lv_iinc (v := nI (d + 1)) (lv' := [(4, .int (nI (d + 1))), (5, .int (nI (rdN (I 0) cs x d))), (3, .int (nI (x / 256))), (0, .ref (G.2.2.1 (11, 0, 0))), (1, .int (nI x)), (2, .int (nI cs))]) hx hb dX1_stepOn_85 hl (k := 1) rfl (jn_inc _ 1) (by decide) rfl (fun ls hl => ?_)
            refine lv_goto (tgt := 9) hx hb dX1_stepOn_88 (by decide) ?_
            exact ih_9 f2 (d + 1) (by omega) (by omega) (by rw [it_s, ← hs2]; simp [rdD, c_29, c_67]) _ _ _ hB (lv_sub hl [0, 2, 3, 4, 5] rfl)
          · refine lv_aload_n hx hb dX1_stepOn_70 rfl (lv_at hl 3 rfl) ?_
            refine j_get (11, 0, 0) 7 (v := .ref (G.2.2.1 (21, 31, 0))) hC hB in_X1 lk_31 dX1_stepOn_71 jk11 rfl rfl (by decide) rfl ?_
            refine lv_iload hx hb dX1_stepOn_74 (lv_at hl 0 rfl) ?_
            refine lv_aload_n hx hb dX1_stepOn_76 rfl (lv_at hl 3 rfl) ?_
            refine j_get (11, 0, 0) 7 (v := .ref (G.2.2.1 (21, 31, 0))) hC hB in_X1 lk_31 dX1_stepOn_77 jk11 rfl rfl (by decide) rfl ?_
            refine lv_iload_n hx hb dX1_stepOn_80 rfl (lv_at hl 4 rfl) ?_
            refine j_iLd 31 x hC hB dX1_stepOn_81 (by decide) rfl (by simp only [lenI_31]; omega) ?_
            refine j_eqi (x := (sr I 31 (f2)) 31 x) (y := f2 x) (sr_sj) ?_
            refine lv_iconst (v := nI 1) hx hb dX1_stepOn_82 (by decide) ?_
            refine lv_iadd hx hb dX1_stepOn_83 ?_
            refine j_iSt 31 (rdN (I 0) cs x d) hC hB dX1_stepOn_84 (by decide) rfl (by simp only [lenI_31]; omega) (fun H locs hB => ?_)
            have hB : jB G A s_.heap (sr I 31 (upd (f2) (rdN (I 0) cs x d) ((f2 x) + (nI 1))), J, O) H locs := by rw [show sr I 31 (upd (f2) (rdN (I 0) cs x d) ((f2 x) + (nI 1))) = u2 (sr I 31 (f2)) 31 (rdN (I 0) cs x d) ((f2 x) + (nI 1)) from (u2_sr _ _ _ _ _).symm]; exact hB
            refine lv_iinc (v := nI (d + 1)) (lv' := [(4, .int (nI (d + 1))), (5, .int (nI (rdN (I 0) cs x d))), (3, .int (nI (x / 256))), (0, .ref (G.2.2.1 (11, 0, 0))), (1, .int (nI x)), (2, .int (nI cs))]) hx hb dX1_stepOn_85 hl (k := 1) rfl (jn_inc _ 1) (by decide) rfl (fun ls hl => ?_)
            refine lv_goto (tgt := 9) hx hb dX1_stepOn_88 (by decide) ?_
            exact ih_9 (upd (f2) (rdN (I 0) cs x d) ((f2 x) + (nI 1))) (d + 1) (by omega) (by omega) (by rw [it_s, ← hs2]; simp [rdD, c_29, c_67]) _ _ _ hB (lv_sub hl [0, 2, 3, 4, 5] rfl)
        · refine lv_goto (tgt := 85) hx hb dX1_stepOn_32 (by decide) ?_
          refine lv_iinc (v := nI (d + 1)) (lv' := [(4, .int (nI (d + 1))), (3, .int (nI (x / 256))), (0, .ref (G.2.2.1 (11, 0, 0))), (1, .int (nI x)), (2, .int (nI cs))]) hx hb dX1_stepOn_85 hl (k := 0) rfl (jn_inc _ 1) (by decide) rfl (fun ls hl => ?_)
          refine lv_goto (tgt := 9) hx hb dX1_stepOn_88 (by decide) ?_
          exact ih_9 f2 (d + 1) (by omega) (by omega) (by rw [it_s, ← hs2]; simp [rdD, c_29]) _ _ _ hB (lv_sub hl [0, 1, 2, 3, 4] rfl)
  exact lp_9 _ (I 31) 0 (Nat.lt_succ_self _) (by omega) (rfl) _ _ _ (jB_cast2 hB (by first | exact (sr_id _ _).symm | (funext a_; simp +decide only [sr]; (repeat' split) <;> first | rfl | (exfalso; omega) | (subst_vars; rfl))) rfl) (lv_sub hl [0, 1, 2, 3, 4] rfl)

set_option maxHeartbeats 4000000 in
set_option maxRecDepth 100000 in
theorem c_X1_shortestRound (l_ : Launch) (G : jG) (I : Nat → Nat → Int32) (J : Nat → Nat → Int64) (O : Nat → Nat → Nat) (cs : Nat) (op : Nat → Int32) (ho : ∀ j, j < 8 → I 27 j = op j) (hcs : cs < 256) {st : Nat} (hst : st < 8) (hSt : I 26 0 = nI st) {nd : Nat} (hnd : nd ≤ 10) (hD : I 0 0 = nI nd) (hW : wfD (I 0) nd) : jMi l_ G yX1_shortestRound wsX1_shortestRound ({ frames := 2, cells := 0, slots := 0, locals := 48 }) [.ref (G.2.2.1 (11, 0, 0)), .int (nI cs)] (I, J, O) (fun r u => r = rdC (I 0) op cs nd st ∧ ∃ (x31 : Nat → Int32) , u = (sr I 31 (x31), J, O)) := by
  refine jMi_of (cc := cX1_shortestRound) (maxL := 5) (ret := (some .int)) (lv0 := [(0, .ref (G.2.2.1 (11, 0, 0))), (1, .int (nI cs))]) (by decide) rfl (Nat.le_of_ble_eq_true rfl) rfl ?_
  intro pg_ ev_ s_ mi_ below meth cd_ A ls hC hB hl
  obtain ⟨hx, hb, hr, hml, hown, hts, hlocks, hK, hA⟩ := id hC
  have lk_31 := hts (.fieldLink RX1 31 "RiddlePrison$Foresight" "depth" "[I") (by decide +kernel)
  have lk_63 := hts (.fieldLink RX1 63 "RiddlePrison$Foresight" "start" "I") (by decide +kernel)
  have in_X1 := (fun w h => List.mem_cons_of_mem _ (List.mem_append_left _ (List.mem_append_left _ (List.mem_append_right _ h))) : ∀ w ∈ wsX10, w ∈ wsX1_shortestRound)
  refine lv_aload_n hx hb dX1_shortestRound_0 rfl (lv_at hl 0 rfl) ?_
  refine j_get (11, 0, 0) 7 (v := .ref (G.2.2.1 (21, 31, 0))) hC hB in_X1 lk_31 dX1_shortestRound_1 jk11 rfl rfl (by decide) rfl ?_
  refine lv_bipush (v := (-4 : Int32)) hx hb dX1_shortestRound_4 (by decide) ?_
  refine j_csv [.ref (G.2.2.1 (21, 31, 0)), .int ((-4 : Int32))] hC hB hl.1 (c_J7_fill_53178 l_ G I J O 31 ((-4 : Int32)) (by omega)) (va_cwS 2 hts gX1_shortestRound_J7_fill_53178 rfl rfl rfl (by decide +kernel) ⟨by decide, by decide⟩) dX1_shortestRound_6 rfl rfl (Nat.le_of_ble_eq_true rfl) (fun u_6 H locs hp_6 hB => ?_)
  obtain rfl := hp_6
  have hB : jB G A s_.heap (sr I 31 (filI (I 31) ((-4 : Int32)) (lenI 31)), J, O) H locs := hB
  refine lv_aload_n hx hb dX1_shortestRound_9 rfl (lv_at hl 0 rfl) ?_
  refine j_get (11, 0, 0) 7 (v := .ref (G.2.2.1 (21, 31, 0))) hC hB in_X1 lk_31 dX1_shortestRound_10 jk11 rfl rfl (by decide) rfl ?_
  refine lv_aload_n hx hb dX1_shortestRound_13 rfl (lv_at hl 0 rfl) ?_
  refine j_get (11, 0, 0) 2 (v := .int ((sr I 31 (filI (I 31) ((-4 : Int32)) (lenI 31))) 26 0)) hC hB in_X1 lk_63 dX1_shortestRound_14 jk11 rfl rfl (by decide) rfl ?_
  refine j_eqi (x := (sr I 31 (filI (I 31) ((-4 : Int32)) (lenI 31))) 26 0) (y := nI st) ((sr_nj (show (26 : Nat) ≠ 31 by omega)).trans (hSt)) ?_
  refine lv_iconst (v := nI 0) hx hb dX1_shortestRound_17 (by decide) ?_
  refine lv_iload_n hx hb dX1_shortestRound_18 rfl (lv_at hl 1 rfl) ?_
  refine j_csi [.int (nI st), .int (nI 0), .int (nI cs)] hC hB hl.1 (c_X1_stateOf l_ G (sr I 31 (filI (I 31) ((-4 : Int32)) (lenI 31))) J O st 0 cs (by omega)) (va_cwS 3 hts gX1_shortestRound_X1_stateOf rfl rfl rfl (by decide +kernel) ⟨by decide, by decide⟩) dX1_shortestRound_19 rfl rfl (Nat.le_of_ble_eq_true rfl) (fun r_19 u_19 H locs hp_19 hB => ?_)
  obtain ⟨rfl, rfl⟩ := hp_19
  refine j_eqi (y := nI (stN st 0 cs)) (rfl) ?_
  refine j_eqi (y := nI (rdF cs st)) (rfl) ?_
  have hfl := rdF_lt hst hcs
  refine lv_iconst (v := nI 0) hx hb dX1_shortestRound_22 (by decide) ?_
  refine j_iSt 31 (rdF cs st) hC hB dX1_shortestRound_23 (by decide) rfl (by simp only [lenI_31]; omega) (fun H locs hB => ?_)
  have hB : jB G A s_.heap (sr I 31 (upd (filI (I 31) ((-4 : Int32)) (lenI 31)) (rdF cs st) (nI 0)), J, O) H locs := by rw [show sr I 31 (upd (filI (I 31) ((-4 : Int32)) (lenI 31)) (rdF cs st) (nI 0)) = u2 (sr I 31 (filI (I 31) ((-4 : Int32)) (lenI 31))) 31 (rdF cs st) (nI 0) from (u2_sr _ _ _ _ _).symm]; exact hB
  refine lv_iconst (v := nI 1) hx hb dX1_shortestRound_24 (by decide) ?_
  refine lv_istore_n (lv' := [(2, .int (nI 1)), (0, .ref (G.2.2.1 (11, 0, 0))), (1, .int (nI cs))]) hx hb dX1_shortestRound_25 rfl hl (by decide) rfl (fun ls hl => ?_)
  refine lv_iconst (v := nI 0) hx hb dX1_shortestRound_26 (by decide) ?_
  refine lv_istore_n (lv' := [(3, .int (nI 0)), (2, .int (nI 1)), (0, .ref (G.2.2.1 (11, 0, 0))), (1, .int (nI cs))]) hx hb dX1_shortestRound_27 rfl hl (by decide) rfl (fun ls hl => ?_)
  have lp_28 : ∀ (fu : Nat) (f : Nat → Int32) (bb : Bool) (n : Nat), 2048 - n < fu → (n ≤ 2048) → (rdR (I 0) op cs nd (2048 - n) n bb f = rdC (I 0) op cs nd st) → ∀ H locs ls, jB G A s_.heap (sr I 31 (f), J, O) H locs → lv_has ls 5 [(3, .int (nI n)), (2, .int (b2 bb)), (0, .ref (G.2.2.1 (11, 0, 0))), (1, .int (nI cs))] → W pg_ l_ ev_ ({ frames := 2, cells := 0, slots := 0, locals := 48 }) s_ mi_ ([.ref (G.2.2.1 (11, 0, 0)), .int (nI cs)]).toArray below meth cd_ H locs 0 0 (jQi G A below [.ref (G.2.2.1 (11, 0, 0)), .int (nI cs)] s_ (fun r u => r = rdC (I 0) op cs nd st ∧ ∃ (x31 : Nat → Int32) , u = (sr I 31 (x31), J, O))) (F0 mi_ 28 ls []) := by
    intro fu
    induction fu with
    | zero => intro f bb n hf; exact absurd hf (Nat.not_lt_zero _)
    | succ fu ih_28 =>
      intro f bb n hf_28 hn hs H locs ls hB hl
      refine lv_iload_n hx hb dX1_shortestRound_28 rfl (lv_at hl 0 rfl) ?_
      refine lv_sipush (v := nI 2048) hx hb dX1_shortestRound_29 (by decide) ?_
      refine jn_icmp_ge (tgt := 99) hx hb dX1_shortestRound_32 (by decide) (by omega) (by omega) (fun c_32 => ?_) (fun c_32 => ?_)
      · refine lv_bipush (v := (-4 : Int32)) hx hb dX1_shortestRound_99 (by decide) ?_
        exact j_iret hC hB dX1_shortestRound_101 (⟨by rw [← hs, show 2048 - n = 0 by omega]; rfl, _, rfl⟩)
      · refine lv_iload_n hx hb dX1_shortestRound_35 rfl (lv_at hl 1 rfl) ?_
        refine jb_if_eq (tgt := 99) hx hb dX1_shortestRound_36 (by decide) (fun c_36 => ?_) (fun c_36 => ?_)
        · refine lv_bipush (v := (-4 : Int32)) hx hb dX1_shortestRound_99 (by decide) ?_
          exact j_iret hC hB dX1_shortestRound_101 (⟨by rw [← hs]; exact (rdR_stop c_36 _ _ _).symm, _, rfl⟩)
        · refine lv_iconst (v := nI 0) hx hb dX1_shortestRound_39 (by decide) ?_
          refine lv_istore_n (lv' := [(2, .int (nI 0)), (3, .int (nI n)), (0, .ref (G.2.2.1 (11, 0, 0))), (1, .int (nI cs))]) hx hb dX1_shortestRound_40 rfl hl (by decide) rfl (fun ls hl => ?_)
          refine lv_iconst (v := nI 0) hx hb dX1_shortestRound_41 (by decide) ?_
          refine lv_istore (lv' := [(4, .int (nI 0)), (2, .int (nI 0)), (3, .int (nI n)), (0, .ref (G.2.2.1 (11, 0, 0))), (1, .int (nI cs))]) hx hb dX1_shortestRound_42 hl (by decide) rfl (fun ls hl => ?_)
          have lp_44 : ∀ (fu : Nat) (f2 : Nat → Int32) (bc : Bool) (k : Nat), 2048 - k < fu → (k ≤ 2048) → (rdE (I 0) op cs nd n (2048 - k) k bc f2 = rdE (I 0) op cs nd n 2048 0 false f) → ∀ H locs ls, jB G A s_.heap (sr I 31 (f2), J, O) H locs → lv_has ls 5 [(4, .int (nI k)), (2, .int (b2 bc)), (3, .int (nI n)), (0, .ref (G.2.2.1 (11, 0, 0))), (1, .int (nI cs))] → W pg_ l_ ev_ ({ frames := 2, cells := 0, slots := 0, locals := 48 }) s_ mi_ ([.ref (G.2.2.1 (11, 0, 0)), .int (nI cs)]).toArray below meth cd_ H locs 0 0 (jQi G A below [.ref (G.2.2.1 (11, 0, 0)), .int (nI cs)] s_ (fun r u => r = rdC (I 0) op cs nd st ∧ ∃ (x31 : Nat → Int32) , u = (sr I 31 (x31), J, O))) (F0 mi_ 44 ls []) := by
            intro fu
            induction fu with
            | zero => intro f2 bc k hf; exact absurd hf (Nat.not_lt_zero _)
            | succ fu ih_44 =>
              intro f2 bc k hf_44 hk hs2 H locs ls hB hl
              refine lv_iload hx hb dX1_shortestRound_44 (lv_at hl 0 rfl) ?_
              refine lv_sipush (v := nI 2048) hx hb dX1_shortestRound_46 (by decide) ?_
              refine jn_icmp_ge (tgt := 93) hx hb dX1_shortestRound_49 (by decide) (by omega) (by omega) (fun c_49 => ?_) (fun c_49 => ?_)
              · refine lv_iinc (v := nI (n + 1)) (lv' := [(3, .int (nI (n + 1))), (4, .int (nI k)), (2, .int (b2 bc)), (0, .ref (G.2.2.1 (11, 0, 0))), (1, .int (nI cs))]) hx hb dX1_shortestRound_93 hl (k := 2) rfl (jn_inc _ 1) (by decide) rfl (fun ls hl => ?_)
                refine lv_goto (tgt := 28) hx hb dX1_shortestRound_96 (by decide) ?_
                exact ih_28 f2 bc (n + 1) (by omega) (by omega) (by rw [← hs]; exact (rdR_on c_36 (by omega) (by rw [← hs2, show 2048 - k = 0 by omega]; rfl)).symm) _ _ _ hB (lv_sub hl [0, 2, 3, 4] rfl)
              · refine lv_aload_n hx hb dX1_shortestRound_52 rfl (lv_at hl 3 rfl) ?_
                refine j_get (11, 0, 0) 7 (v := .ref (G.2.2.1 (21, 31, 0))) hC hB in_X1 lk_31 dX1_shortestRound_53 jk11 rfl rfl (by decide) rfl ?_
                refine lv_iload hx hb dX1_shortestRound_56 (lv_at hl 0 rfl) ?_
                refine j_iLd 31 k hC hB dX1_shortestRound_58 (by decide) rfl (by simp only [lenI_31]; omega) ?_
                refine j_eqi (x := (sr I 31 (f2)) 31 k) (y := f2 k) (sr_sj) ?_
                refine lv_iload_n hx hb dX1_shortestRound_59 rfl (lv_at hl 2 rfl) ?_
                refine lv_icmp_eq (tgt := 66) hx hb dX1_shortestRound_60 (by decide) (fun c_60 => ?_) (fun c_60 => ?_)
                · refine lv_iload hx hb dX1_shortestRound_66 (lv_at hl 0 rfl) ?_
                  refine lv_sipush (v := nI 256) hx hb dX1_shortestRound_68 (by decide) ?_
                  refine jn_irem hx hb dX1_shortestRound_71 (by omega) (by omega) (by omega) ?_
                  refine lv_iload_n hx hb dX1_shortestRound_72 rfl (lv_at hl 4 rfl) ?_
                  refine jn_icmp_ne (tgt := 78) hx hb dX1_shortestRound_73 (by decide) (by omega) (by omega) (fun c_73 => ?_) (fun c_73 => ?_)
                  · refine lv_aload_n hx hb dX1_shortestRound_78 rfl (lv_at hl 3 rfl) ?_
                    refine lv_iload hx hb dX1_shortestRound_79 (lv_at hl 0 rfl) ?_
                    refine lv_iload_n hx hb dX1_shortestRound_81 rfl (lv_at hl 4 rfl) ?_
                    refine j_cvv (11, 0, 0) [.int (nI k), .int (nI cs)] hC hB hl.1 (c_X1_stepOn l_ G (sr I 31 (f2)) J O k cs (op) (ho) (by omega) (by omega) (by omega) ((sr_nj (show (0 : Nat) ≠ 31 by omega)).trans (hD)) (hW)) (cwV 2 hts gX1_shortestRound_X1_stepOn rfl rfl rfl (by decide +kernel) ⟨by decide, by decide⟩) dX1_shortestRound_82 jk11 rfl rfl rfl rfl (Nat.le_of_ble_eq_true rfl) (fun u_82 H locs hp_82 hB => ?_)
                    obtain rfl := hp_82
                    try simp only [show (sr I 31 (f2)) 0 = I 0 from (sr_ne (show (0 : Nat) ≠ 31 by omega)), show (sr I 31 (f2)) 31 = f2 from sr_self] at hB
                    have hB : jB G A s_.heap (sr I 31 (it (rdD (I 0) op cs k) nd (f2)), J, O) H locs := by (rw [show sr I 31 (it (rdD (I 0) op cs k) nd (f2)) = sr (sr I 31 (f2)) 31 (it (rdD (I 0) op cs k) nd (f2)) from by funext a; simp +decide only [sr]; (repeat' split) <;> first | rfl | (exfalso; omega) | (subst_vars; rfl)]; exact hB)
                    refine lv_iconst (v := nI 1) hx hb dX1_shortestRound_85 (by decide) ?_
                    refine lv_istore_n (lv' := [(2, .int (nI 1)), (4, .int (nI k)), (3, .int (nI n)), (0, .ref (G.2.2.1 (11, 0, 0))), (1, .int (nI cs))]) hx hb dX1_shortestRound_86 rfl hl (by decide) rfl (fun ls hl => ?_)
                    refine lv_iinc (v := nI (k + 1)) (lv' := [(4, .int (nI (k + 1))), (2, .int (nI 1)), (3, .int (nI n)), (0, .ref (G.2.2.1 (11, 0, 0))), (1, .int (nI cs))]) hx hb dX1_shortestRound_87 hl (k := 1) rfl (jn_inc _ 1) (by decide) rfl (fun ls hl => ?_)
                    refine lv_goto (tgt := 44) hx hb dX1_shortestRound_90 (by decide) ?_
                    exact ih_44 (it (rdD (I 0) op cs k) nd (f2)) true (k + 1) (by omega) (by omega) (by rw [← hs2]; exact (rdE_go (by omega) c_60 c_73).symm) _ _ _ hB (lv_sub hl [0, 1, 2, 3, 4] rfl)
                  · refine lv_iload_n hx hb dX1_shortestRound_76 rfl (lv_at hl 2 rfl) ?_
                    exact j_iret hC hB dX1_shortestRound_77 (⟨by rw [← hs]; exact (rdR_hit c_36 (by omega) (by rw [← hs2]; exact rdE_hit (by omega) c_60 c_73)).symm, _, rfl⟩)
                · refine lv_goto (tgt := 87) hx hb dX1_shortestRound_63 (by decide) ?_
                  refine lv_iinc (v := nI (k + 1)) (lv' := [(4, .int (nI (k + 1))), (2, .int (b2 bc)), (3, .int (nI n)), (0, .ref (G.2.2.1 (11, 0, 0))), (1, .int (nI cs))]) hx hb dX1_shortestRound_87 hl (k := 0) rfl (jn_inc _ 1) (by decide) rfl (fun ls hl => ?_)
                  refine lv_goto (tgt := 44) hx hb dX1_shortestRound_90 (by decide) ?_
                  exact ih_44 f2 bc (k + 1) (by omega) (by omega) (by rw [← hs2]; exact (rdE_no (by omega) c_60).symm) _ _ _ hB (lv_sub hl [0, 1, 2, 3, 4] rfl)
          exact lp_44 _ f false 0 (Nat.lt_succ_self _) (by omega) (rfl) _ _ _ hB (lv_sub hl [0, 1, 2, 3, 4] rfl)
  exact lp_28 _ (upd (filI (I 31) ((-4 : Int32)) (lenI 31)) (rdF cs st) (nI 0)) true 0 (Nat.lt_succ_self _) (by omega) (rdR_A hW hcs 2048 0 true _ _ (rdI_A _ _ cs st)) _ _ _ hB (lv_sub hl [0, 1, 2, 3] rfl)
