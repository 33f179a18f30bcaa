set_option maxHeartbeats 4000000 in
set_option maxRecDepth 100000 in
theorem c_X1_getsThere_u0 (l_ : Launch) (G : jG) (I : Nat → Nat → Int32) (J : Nat → Nat → Int64) (O : Nat → Nat → Nat) (here cell : Nat) (sh : Int32) (op : Nat → Int32) (ho : ∀ j, j < 8 → I 27 j = op j) (hhe : here < 8) (hce : cell < 8) {nd : Nat} (hnd : nd ≤ 10) (hD : I 0 0 = nI nd) (hW : wfD (I 0) nd) : jMi l_ G yX1_getsThere wsX1_getsThere ({ frames := 6, cells := 0, slots := 0, locals := 143 }) [.ref (G.2.2.1 (11, 0, 0)), .int (nI here), .int (nI cell), .int sh, .int (nI 0)] (I, J, O) (fun r u => r = b2 (gtB (I 0) op nd cell 0 here sh) ∧ u = (I, J, O)) := by
  refine jMi_of (cc := cX1_getsThere) (maxL := 6) (ret := (some .boolean)) (lv0 := [(0, .ref (G.2.2.1 (11, 0, 0))), (1, .int (nI here)), (2, .int (nI cell)), (3, .int sh), (4, .int (nI 0))]) (by decide) rfl (Nat.le_of_ble_eq_true rfl) rfl ?_
  intro pg_ ev_ s_ mi_ below meth cd_ A ls hC hB hl
  obtain ⟨hx, hb, hr, hml, hown, hts, hlocks, hK, hA⟩ := id hC
  refine lv_iload_n hx hb dX1_getsThere_0 rfl (lv_at hl 1 rfl) ?_
  refine lv_iload_n hx hb dX1_getsThere_1 rfl (lv_at hl 2 rfl) ?_
  refine jn_icmp_ne (tgt := 7) hx hb dX1_getsThere_2 (by decide) (by omega) (by omega) (fun c_2 => ?_) (fun c_2 => ?_)
  · refine lv_iload hx hb dX1_getsThere_7 (lv_at hl 4 rfl) ?_
    refine jn_if_gt (tgt := 14) hx hb dX1_getsThere_9 (by decide) (by omega) (fun c_9 => ?_) (fun c_9 => ?_)
    · exact absurd c_9 (by omega)
    · refine lv_iconst (v := nI 0) hx hb dX1_getsThere_12 (by decide) ?_
      exact j_zret hC hB dX1_getsThere_13 (by decide) (⟨by simp [gtB, c_2, b2], rfl⟩)
  · refine lv_iconst (v := nI 1) hx hb dX1_getsThere_5 (by decide) ?_
    exact j_zret hC hB dX1_getsThere_6 (by decide) (⟨by rw [c_2]; simp [gtB, b2], rfl⟩)


set_option maxHeartbeats 4000000 in
set_option maxRecDepth 100000 in
theorem c_X1_getsThere_u1 (l_ : Launch) (G : jG) (I : Nat → Nat → Int32) (J : Nat → Nat → Int64) (O : Nat → Nat → Nat) (here cell : Nat) (sh : Int32) (op : Nat → Int32) (ho : ∀ j, j < 8 → I 27 j = op j) (hhe : here < 8) (hce : cell < 8) {nd : Nat} (hnd : nd ≤ 10) (hD : I 0 0 = nI nd) (hW : wfD (I 0) nd) : jMi l_ G yX1_getsThere wsX1_getsThere ({ frames := 6, cells := 0, slots := 0, locals := 143 }) [.ref (G.2.2.1 (11, 0, 0)), .int (nI here), .int (nI cell), .int sh, .int (nI 1)] (I, J, O) (fun r u => r = b2 (gtB (I 0) op nd cell 1 here sh) ∧ u = (I, J, O)) := by
  refine jMi_of (cc := cX1_getsThere) (maxL := 6) (ret := (some .boolean)) (lv0 := [(0, .ref (G.2.2.1 (11, 0, 0))), (1, .int (nI here)), (2, .int (nI cell)), (3, .int sh), (4, .int (nI 1))]) (by decide) rfl (Nat.le_of_ble_eq_true rfl) rfl ?_
  intro pg_ ev_ s_ mi_ below meth cd_ A ls hC hB hl
  obtain ⟨hx, hb, hr, hml, hown, hts, hlocks, hK, hA⟩ := id hC
  have lk_44 := hts (.fieldLink RX1 44 "RiddlePrison$Foresight" "prison" "LRiddlePrison$Prison;") (by decide +kernel)
  have ln_95 := (by decide +kernel : Cond.fieldLinkNest RX1 95 "RiddlePrison$Prison" "doorCount" "I" "RiddlePrison" ∈ nsW)
  have in_X1 := (fun w h => List.mem_cons_of_mem _ (List.mem_append_left _ (List.mem_append_left _ (List.mem_append_right _ h))) : ∀ w ∈ wsX10, w ∈ wsX1_getsThere)
  have in_X4 := (fun w h => List.mem_cons_of_mem _ (List.mem_append_left _ (List.mem_append_right _ h)) : ∀ w ∈ wsX40, w ∈ wsX1_getsThere)
  refine lv_iload_n hx hb dX1_getsThere_0 rfl (lv_at hl 1 rfl) ?_
  refine lv_iload_n hx hb dX1_getsThere_1 rfl (lv_at hl 2 rfl) ?_
  refine jn_icmp_ne (tgt := 7) hx hb dX1_getsThere_2 (by decide) (by omega) (by omega) (fun c_2 => ?_) (fun c_2 => ?_)
  · refine lv_iload hx hb dX1_getsThere_7 (lv_at hl 4 rfl) ?_
    refine jn_if_gt (tgt := 14) hx hb dX1_getsThere_9 (by decide) (by omega) (fun c_9 => ?_) (fun c_9 => ?_)
    · refine lv_iconst (v := nI 0) hx hb dX1_getsThere_14 (by decide) ?_
      refine lv_istore (lv' := [(5, .int (nI 0)), (0, .ref (G.2.2.1 (11, 0, 0))), (1, .int (nI here)), (2, .int (nI cell)), (3, .int sh), (4, .int (nI 1))]) hx hb dX1_getsThere_15 hl (by decide) rfl (fun ls hl => ?_)
      have lp_17 : ∀ (fu : Nat) (d : Nat), nd - d < fu → (d ≤ nd) → (it (anyS (fun d => ioB op here d sh && gsB (I 0) op nd cell 0 (beN (I 0) d here) sh)) d false = false) → ∀ H locs ls, jB G A s_.heap (I, J, O) H locs → lv_has ls 6 [(5, .int (nI d)), (0, .ref (G.2.2.1 (11, 0, 0))), (1, .int (nI here)), (2, .int (nI cell)), (3, .int sh), (4, .int (nI 1))] → W pg_ l_ ev_ ({ frames := 6, cells := 0, slots := 0, locals := 143 }) s_ mi_ ([.ref (G.2.2.1 (11, 0, 0)), .int (nI here), .int (nI cell), .int sh, .int (nI 1)]).toArray below meth cd_ H locs 0 0 (jQi G A below [.ref (G.2.2.1 (11, 0, 0)), .int (nI here), .int (nI cell), .int sh, .int (nI 1)] s_ (fun r u => r = b2 (gtB (I 0) op nd cell 1 here sh) ∧ u = (I, J, O))) (F0 mi_ 17 ls []) := by
        intro fu
        induction fu with
        | zero => intro d hf; exact absurd hf (Nat.not_lt_zero _)
        | succ fu ih_17 =>
          intro d hf_17 hd hs H locs ls hB hl
          refine lv_iload hx hb dX1_getsThere_17 (lv_at hl 0 rfl) ?_
          refine lv_aload_n hx hb dX1_getsThere_19 rfl (lv_at hl 1 rfl) ?_
          refine j_get (11, 0, 0) 0 (v := .ref (G.2.2.1 (1, 0, 0))) hC hB in_X1 lk_44 dX1_getsThere_20 jk11 rfl rfl (by decide) rfl ?_
          refine j_getN (1, 0, 0) 2 (v := .int (I 0 0)) hC hB in_X4 ln_95 dX1_getsThere_23 (jk1 (by omega)) rfl rfl (by decide) rfl ?_
          refine j_eqi (x := I 0 0) (y := nI nd) (hD) ?_
          refine jn_icmp_ge (tgt := 68) hx hb dX1_getsThere_26 (by decide) (by omega) (by omega) (fun c_26 => ?_) (fun c_26 => ?_)
          · refine lv_iconst (v := nI 0) hx hb dX1_getsThere_68 (by decide) ?_
            exact j_zret hC hB dX1_getsThere_69 (by decide) (⟨by rw [show d = nd by omega] at hs; rw [gtB_s, hs]; simp [b2, c_2], rfl⟩)
          · refine lv_aload_n hx hb dX1_getsThere_29 rfl (lv_at hl 1 rfl) ?_
            refine lv_iload_n hx hb dX1_getsThere_30 rfl (lv_at hl 2 rfl) ?_
            refine lv_iload hx hb dX1_getsThere_31 (lv_at hl 0 rfl) ?_
            refine lv_iload_n hx hb dX1_getsThere_33 rfl (lv_at hl 4 rfl) ?_
            refine j_cvi (11, 0, 0) [.int (nI here), .int (nI d), .int sh] hC hB hl.1 (c_X1_isOpen l_ G I J O here d sh (by omega)) (cwV 3 hts gX1_getsThere_X1_isOpen rfl rfl rfl (by decide +kernel) ⟨by decide, by decide⟩) dX1_getsThere_34 jk11 rfl rfl rfl rfl (Nat.le_of_ble_eq_true rfl) (fun r_34 u_34 H locs hp_34 hB => ?_)
            obtain ⟨rfl, rfl⟩ := hp_34
            refine j_eqi (y := b2 (ioB op here d sh)) (by rw [ioB_cong (ho _ hhe)]) ?_
            refine jb_if_eq (tgt := 62) hx hb dX1_getsThere_37 (by decide) (fun c_37 => ?_) (fun c_37 => ?_)
            · refine lv_iinc (v := nI (d + 1)) (lv' := [(5, .int (nI (d + 1))), (0, .ref (G.2.2.1 (11, 0, 0))), (1, .int (nI here)), (2, .int (nI cell)), (3, .int sh), (4, .int (nI 1))]) hx hb dX1_getsThere_62 hl (k := 0) rfl (jn_inc _ 1) (by decide) rfl (fun ls hl => ?_)
              refine lv_goto (tgt := 17) hx hb dX1_getsThere_65 (by decide) ?_
              exact ih_17 (d + 1) (by omega) (by omega) (by rw [it_s, hs]; simp [anyS, c_37]) _ _ _ hB (lv_sub hl [0, 1, 2, 3, 4, 5] rfl)
            · refine lv_aload_n hx hb dX1_getsThere_40 rfl (lv_at hl 1 rfl) ?_
              refine lv_aload_n hx hb dX1_getsThere_41 rfl (lv_at hl 1 rfl) ?_
              refine lv_iload_n hx hb dX1_getsThere_42 rfl (lv_at hl 2 rfl) ?_
              refine lv_iload hx hb dX1_getsThere_43 (lv_at hl 0 rfl) ?_
              refine j_cvi (11, 0, 0) [.int (nI here), .int (nI d)] hC hB hl.1 (c_X1_beyond l_ G I J O here d (by omega)) (cwV 2 hts gX1_getsThere_X1_beyond rfl rfl rfl (by decide +kernel) ⟨by decide, by decide⟩) dX1_getsThere_45 jk11 rfl rfl rfl rfl (Nat.le_of_ble_eq_true rfl) (fun r_45 u_45 H locs hp_45 hB => ?_)
              obtain ⟨rfl, rfl⟩ := hp_45
              have hbe := be_ok (c := here) hW (show d < nd by omega)
              refine j_eqi hbe.1 ?_
              refine lv_iload_n hx hb dX1_getsThere_48 rfl (lv_at hl 3 rfl) ?_
              refine lv_iload_n hx hb dX1_getsThere_49 rfl (lv_at hl 4 rfl) ?_
              refine lv_iload hx hb dX1_getsThere_50 (lv_at hl 5 rfl) ?_
              refine lv_iconst (v := nI 1) hx hb dX1_getsThere_52 (by decide) ?_
              refine jn_isub hx hb dX1_getsThere_53 (by omega) ?_
              refine j_eqi (y := nI 0) rfl ?_
              refine j_cvi (11, 0, 0) [.int (nI (beN (I 0) d here)), .int (nI cell), .int sh, .int (nI 0)] hC hB hl.1 (c_X1_getsThereStill_0 l_ G I J O (beN (I 0) d here) cell sh (op) (ho) (by omega) (by omega) (by omega) (hD) (hW)) (cwV 4 hts gX1_getsThere_X1_getsThereStill rfl rfl rfl (by decide +kernel) ⟨by decide, by decide⟩) dX1_getsThere_54 jk11 rfl rfl rfl rfl (Nat.le_of_ble_eq_true rfl) (fun r_54 u_54 H locs hp_54 hB => ?_)
              obtain ⟨rfl, rfl⟩ := hp_54
              refine jb_if_eq (tgt := 62) hx hb dX1_getsThere_57 (by decide) (fun c_57 => ?_) (fun c_57 => ?_)
              · refine lv_iinc (v := nI (d + 1)) (lv' := [(5, .int (nI (d + 1))), (0, .ref (G.2.2.1 (11, 0, 0))), (1, .int (nI here)), (2, .int (nI cell)), (3, .int sh), (4, .int (nI 1))]) hx hb dX1_getsThere_62 hl (k := 0) rfl (jn_inc _ 1) (by decide) rfl (fun ls hl => ?_)
                refine lv_goto (tgt := 17) hx hb dX1_getsThere_65 (by decide) ?_
                exact ih_17 (d + 1) (by omega) (by omega) (by rw [it_s, hs]; simp [anyS, c_37, c_57]) _ _ _ hB (lv_sub hl [0, 1, 2, 3, 4, 5] rfl)
              · refine lv_iconst (v := nI 1) hx hb dX1_getsThere_60 (by decide) ?_
                exact j_zret hC hB dX1_getsThere_61 (by decide) (⟨by rw [gtB_s, any_stop (d := d + 1) (by omega) (by rw [it_s, hs]; simp [anyS, c_37, c_57])]; simp [b2], rfl⟩)
      exact lp_17 _ 0 (Nat.lt_succ_self _) (by omega) (rfl) _ _ _ hB (lv_sub hl [0, 1, 2, 3, 4, 5] rfl)
    · exact absurd c_9 (by omega)
  · refine lv_iconst (v := nI 1) hx hb dX1_getsThere_5 (by decide) ?_
    exact j_zret hC hB dX1_getsThere_6 (by decide) (⟨by rw [c_2]; rw [gtB_s]; simp [b2], rfl⟩)


set_option maxHeartbeats 4000000 in
set_option maxRecDepth 100000 in
theorem c_X1_getsThere_u2 (l_ : Launch) (G : jG) (I : Nat → Nat → Int32) (J : Nat → Nat → Int64) (O : Nat → Nat → Nat) (here cell : Nat) (sh : Int32) (op : Nat → Int32) (ho : ∀ j, j < 8 → I 27 j = op j) (hhe : here < 8) (hce : cell < 8) {nd : Nat} (hnd : nd ≤ 10) (hD : I 0 0 = nI nd) (hW : wfD (I 0) nd) : jMi l_ G yX1_getsThere wsX1_getsThere ({ frames := 6, cells := 0, slots := 0, locals := 143 }) [.ref (G.2.2.1 (11, 0, 0)), .int (nI here), .int (nI cell), .int sh, .int (nI 2)] (I, J, O) (fun r u => r = b2 (gtB (I 0) op nd cell 2 here sh) ∧ u = (I, J, O)) := by
  refine jMi_of (cc := cX1_getsThere) (maxL := 6) (ret := (some .boolean)) (lv0 := [(0, .ref (G.2.2.1 (11, 0, 0))), (1, .int (nI here)), (2, .int (nI cell)), (3, .int sh), (4, .int (nI 2))]) (by decide) rfl (Nat.le_of_ble_eq_true rfl) rfl ?_
  intro pg_ ev_ s_ mi_ below meth cd_ A ls hC hB hl
  obtain ⟨hx, hb, hr, hml, hown, hts, hlocks, hK, hA⟩ := id hC
  have lk_44 := hts (.fieldLink RX1 44 "RiddlePrison$Foresight" "prison" "LRiddlePrison$Prison;") (by decide +kernel)
  have ln_95 := (by decide +kernel : Cond.fieldLinkNest RX1 95 "RiddlePrison$Prison" "doorCount" "I" "RiddlePrison" ∈ nsW)
  have in_X1 := (fun w h => List.mem_cons_of_mem _ (List.mem_append_left _ (List.mem_append_left _ (List.mem_append_right _ h))) : ∀ w ∈ wsX10, w ∈ wsX1_getsThere)
  have in_X4 := (fun w h => List.mem_cons_of_mem _ (List.mem_append_left _ (List.mem_append_right _ h)) : ∀ w ∈ wsX40, w ∈ wsX1_getsThere)
  refine lv_iload_n hx hb dX1_getsThere_0 rfl (lv_at hl 1 rfl) ?_
  refine lv_iload_n hx hb dX1_getsThere_1 rfl (lv_at hl 2 rfl) ?_
  refine jn_icmp_ne (tgt := 7) hx hb dX1_getsThere_2 (by decide) (by omega) (by omega) (fun c_2 => ?_) (fun c_2 => ?_)
  · refine lv_iload hx hb dX1_getsThere_7 (lv_at hl 4 rfl) ?_
    refine jn_if_gt (tgt := 14) hx hb dX1_getsThere_9 (by decide) (by omega) (fun c_9 => ?_) (fun c_9 => ?_)
    · refine lv_iconst (v := nI 0) hx hb dX1_getsThere_14 (by decide) ?_
      refine lv_istore (lv' := [(5, .int (nI 0)), (0, .ref (G.2.2.1 (11, 0, 0))), (1, .int (nI here)), (2, .int (nI cell)), (3, .int sh), (4, .int (nI 2))]) hx hb dX1_getsThere_15 hl (by decide) rfl (fun ls hl => ?_)
      have lp_17 : ∀ (fu : Nat) (d : Nat), nd - d < fu → (d ≤ nd) → (it (anyS (fun d => ioB op here d sh && gsB (I 0) op nd cell 1 (beN (I 0) d here) sh)) d false = false) → ∀ H locs ls, jB G A s_.heap (I, J, O) H locs → lv_has ls 6 [(5, .int (nI d)), (0, .ref (G.2.2.1 (11, 0, 0))), (1, .int (nI here)), (2, .int (nI cell)), (3, .int sh), (4, .int (nI 2))] → W pg_ l_ ev_ ({ frames := 6, cells := 0, slots := 0, locals := 143 }) s_ mi_ ([.ref (G.2.2.1 (11, 0, 0)), .int (nI here), .int (nI cell), .int sh, .int (nI 2)]).toArray below meth cd_ H locs 0 0 (jQi G A below [.ref (G.2.2.1 (11, 0, 0)), .int (nI here), .int (nI cell), .int sh, .int (nI 2)] s_ (fun r u => r = b2 (gtB (I 0) op nd cell 2 here sh) ∧ u = (I, J, O))) (F0 mi_ 17 ls []) := by
        intro fu
        induction fu with
        | zero => intro d hf; exact absurd hf (Nat.not_lt_zero _)
        | succ fu ih_17 =>
          intro d hf_17 hd hs H locs ls hB hl
          refine lv_iload hx hb dX1_getsThere_17 (lv_at hl 0 rfl) ?_
          refine lv_aload_n hx hb dX1_getsThere_19 rfl (lv_at hl 1 rfl) ?_
          refine j_get (11, 0, 0) 0 (v := .ref (G.2.2.1 (1, 0, 0))) hC hB in_X1 lk_44 dX1_getsThere_20 jk11 rfl rfl (by decide) rfl ?_
          refine j_getN (1, 0, 0) 2 (v := .int (I 0 0)) hC hB in_X4 ln_95 dX1_getsThere_23 (jk1 (by omega)) rfl rfl (by decide) rfl ?_
          refine j_eqi (x := I 0 0) (y := nI nd) (hD) ?_
          refine jn_icmp_ge (tgt := 68) hx hb dX1_getsThere_26 (by decide) (by omega) (by omega) (fun c_26 => ?_) (fun c_26 => ?_)
          · refine lv_iconst (v := nI 0) hx hb dX1_getsThere_68 (by decide) ?_
            exact j_zret hC hB dX1_getsThere_69 (by decide) (⟨by rw [show d = nd by omega] at hs; rw [gtB_s, hs]; simp [b2, c_2], rfl⟩)
          · refine lv_aload_n hx hb dX1_getsThere_29 rfl (lv_at hl 1 rfl) ?_
            refine lv_iload_n hx hb dX1_getsThere_30 rfl (lv_at hl 2 rfl) ?_
            refine lv_iload hx hb dX1_getsThere_31 (lv_at hl 0 rfl) ?_
            refine lv_iload_n hx hb dX1_getsThere_33 rfl (lv_at hl 4 rfl) ?_
            refine j_cvi (11, 0, 0) [.int (nI here), .int (nI d), .int sh] hC hB hl.1 (c_X1_isOpen l_ G I J O here d sh (by omega)) (cwV 3 hts gX1_getsThere_X1_isOpen rfl rfl rfl (by decide +kernel) ⟨by decide, by decide⟩) dX1_getsThere_34 jk11 rfl rfl rfl rfl (Nat.le_of_ble_eq_true rfl) (fun r_34 u_34 H locs hp_34 hB => ?_)
            obtain ⟨rfl, rfl⟩ := hp_34
            refine j_eqi (y := b2 (ioB op here d sh)) (by rw [ioB_cong (ho _ hhe)]) ?_
            refine jb_if_eq (tgt := 62) hx hb dX1_getsThere_37 (by decide) (fun c_37 => ?_) (fun c_37 => ?_)
            · refine lv_iinc (v := nI (d + 1)) (lv' := [(5, .int (nI (d + 1))), (0, .ref (G.2.2.1 (11, 0, 0))), (1, .int (nI here)), (2, .int (nI cell)), (3, .int sh), (4, .int (nI 2))]) hx hb dX1_getsThere_62 hl (k := 0) rfl (jn_inc _ 1) (by decide) rfl (fun ls hl => ?_)
              refine lv_goto (tgt := 17) hx hb dX1_getsThere_65 (by decide) ?_
              exact ih_17 (d + 1) (by omega) (by omega) (by rw [it_s, hs]; simp [anyS, c_37]) _ _ _ hB (lv_sub hl [0, 1, 2, 3, 4, 5] rfl)
            · refine lv_aload_n hx hb dX1_getsThere_40 rfl (lv_at hl 1 rfl) ?_
              refine lv_aload_n hx hb dX1_getsThere_41 rfl (lv_at hl 1 rfl) ?_
              refine lv_iload_n hx hb dX1_getsThere_42 rfl (lv_at hl 2 rfl) ?_
              refine lv_iload hx hb dX1_getsThere_43 (lv_at hl 0 rfl) ?_
              refine j_cvi (11, 0, 0) [.int (nI here), .int (nI d)] hC hB hl.1 (c_X1_beyond l_ G I J O here d (by omega)) (cwV 2 hts gX1_getsThere_X1_beyond rfl rfl rfl (by decide +kernel) ⟨by decide, by decide⟩) dX1_getsThere_45 jk11 rfl rfl rfl rfl (Nat.le_of_ble_eq_true rfl) (fun r_45 u_45 H locs hp_45 hB => ?_)
              obtain ⟨rfl, rfl⟩ := hp_45
              have hbe := be_ok (c := here) hW (show d < nd by omega)
              refine j_eqi hbe.1 ?_
              refine lv_iload_n hx hb dX1_getsThere_48 rfl (lv_at hl 3 rfl) ?_
              refine lv_iload_n hx hb dX1_getsThere_49 rfl (lv_at hl 4 rfl) ?_
              refine lv_iload hx hb dX1_getsThere_50 (lv_at hl 5 rfl) ?_
              refine lv_iconst (v := nI 1) hx hb dX1_getsThere_52 (by decide) ?_
              refine jn_isub hx hb dX1_getsThere_53 (by omega) ?_
              refine j_eqi (y := nI 1) rfl ?_
              refine j_cvi (11, 0, 0) [.int (nI (beN (I 0) d here)), .int (nI cell), .int sh, .int (nI 1)] hC hB hl.1 (c_X1_getsThereStill_1 l_ G I J O (beN (I 0) d here) cell sh (op) (ho) (by omega) (by omega) (by omega) (hD) (hW)) (cwV 4 hts gX1_getsThere_X1_getsThereStill rfl rfl rfl (by decide +kernel) ⟨by decide, by decide⟩) dX1_getsThere_54 jk11 rfl rfl rfl rfl (Nat.le_of_ble_eq_true rfl) (fun r_54 u_54 H locs hp_54 hB => ?_)
              obtain ⟨rfl, rfl⟩ := hp_54
              refine jb_if_eq (tgt := 62) hx hb dX1_getsThere_57 (by decide) (fun c_57 => ?_) (fun c_57 => ?_)
              · refine lv_iinc (v := nI (d + 1)) (lv' := [(5, .int (nI (d + 1))), (0, .ref (G.2.2.1 (11, 0, 0))), (1, .int (nI here)), (2, .int (nI cell)), (3, .int sh), (4, .int (nI 2))]) hx hb dX1_getsThere_62 hl (k := 0) rfl (jn_inc _ 1) (by decide) rfl (fun ls hl => ?_)
                refine lv_goto (tgt := 17) hx hb dX1_getsThere_65 (by decide) ?_
                exact ih_17 (d + 1) (by omega) (by omega) (by rw [it_s, hs]; simp [anyS, c_37, c_57]) _ _ _ hB (lv_sub hl [0, 1, 2, 3, 4, 5] rfl)
              · refine lv_iconst (v := nI 1) hx hb dX1_getsThere_60 (by decide) ?_
                exact j_zret hC hB dX1_getsThere_61 (by decide) (⟨by rw [gtB_s, any_stop (d := d + 1) (by omega) (by rw [it_s, hs]; simp [anyS, c_37, c_57])]; simp [b2], rfl⟩)
      exact lp_17 _ 0 (Nat.lt_succ_self _) (by omega) (rfl) _ _ _ hB (lv_sub hl [0, 1, 2, 3, 4, 5] rfl)
    · exact absurd c_9 (by omega)
  · refine lv_iconst (v := nI 1) hx hb dX1_getsThere_5 (by decide) ?_
    exact j_zret hC hB dX1_getsThere_6 (by decide) (⟨by rw [c_2]; rw [gtB_s]; simp [b2], rfl⟩)


set_option maxHeartbeats 4000000 in
set_option maxRecDepth 100000 in
theorem c_X1_getsThere_u3 (l_ : Launch) (G : jG) (I : Nat → Nat → Int32) (J : Nat → Nat → Int64) (O : Nat → Nat → Nat) (here cell : Nat) (sh : Int32) (op : Nat → Int32) (ho : ∀ j, j < 8 → I 27 j = op j) (hhe : here < 8) (hce : cell < 8) {nd : Nat} (hnd : nd ≤ 10) (hD : I 0 0 = nI nd) (hW : wfD (I 0) nd) : jMi l_ G yX1_getsThere wsX1_getsThere ({ frames := 6, cells := 0, slots := 0, locals := 143 }) [.ref (G.2.2.1 (11, 0, 0)), .int (nI here), .int (nI cell), .int sh, .int (nI 3)] (I, J, O) (fun r u => r = b2 (gtB (I 0) op nd cell 3 here sh) ∧ u = (I, J, O)) := by
  refine jMi_of (cc := cX1_getsThere) (maxL := 6) (ret := (some .boolean)) (lv0 := [(0, .ref (G.2.2.1 (11, 0, 0))), (1, .int (nI here)), (2, .int (nI cell)), (3, .int sh), (4, .int (nI 3))]) (by decide) rfl (Nat.le_of_ble_eq_true rfl) rfl ?_
  intro pg_ ev_ s_ mi_ below meth cd_ A ls hC hB hl
  obtain ⟨hx, hb, hr, hml, hown, hts, hlocks, hK, hA⟩ := id hC
  have lk_44 := hts (.fieldLink RX1 44 "RiddlePrison$Foresight" "prison" "LRiddlePrison$Prison;") (by decide +kernel)
  have ln_95 := (by decide +kernel : Cond.fieldLinkNest RX1 95 "RiddlePrison$Prison" "doorCount" "I" "RiddlePrison" ∈ nsW)
  have in_X1 := (fun w h => List.mem_cons_of_mem _ (List.mem_append_left _ (List.mem_append_left _ (List.mem_append_right _ h))) : ∀ w ∈ wsX10, w ∈ wsX1_getsThere)
  have in_X4 := (fun w h => List.mem_cons_of_mem _ (List.mem_append_left _ (List.mem_append_right _ h)) : ∀ w ∈ wsX40, w ∈ wsX1_getsThere)
  refine lv_iload_n hx hb dX1_getsThere_0 rfl (lv_at hl 1 rfl) ?_
  refine lv_iload_n hx hb dX1_getsThere_1 rfl (lv_at hl 2 rfl) ?_
  refine jn_icmp_ne (tgt := 7) hx hb dX1_getsThere_2 (by decide) (by omega) (by omega) (fun c_2 => ?_) (fun c_2 => ?_)
  · refine lv_iload hx hb dX1_getsThere_7 (lv_at hl 4 rfl) ?_
    refine jn_if_gt (tgt := 14) hx hb dX1_getsThere_9 (by decide) (by omega) (fun c_9 => ?_) (fun c_9 => ?_)
    · refine lv_iconst (v := nI 0) hx hb dX1_getsThere_14 (by decide) ?_
      refine lv_istore (lv' := [(5, .int (nI 0)), (0, .ref (G.2.2.1 (11, 0, 0))), (1, .int (nI here)), (2, .int (nI cell)), (3, .int sh), (4, .int (nI 3))]) hx hb dX1_getsThere_15 hl (by decide) rfl (fun ls hl => ?_)
      have lp_17 : ∀ (fu : Nat) (d : Nat), nd - d < fu → (d ≤ nd) → (it (anyS (fun d => ioB op here d sh && gsB (I 0) op nd cell 2 (beN (I 0) d here) sh)) d false = false) → ∀ H locs ls, jB G A s_.heap (I, J, O) H locs → lv_has ls 6 [(5, .int (nI d)), (0, .ref (G.2.2.1 (11, 0, 0))), (1, .int (nI here)), (2, .int (nI cell)), (3, .int sh), (4, .int (nI 3))] → W pg_ l_ ev_ ({ frames := 6, cells := 0, slots := 0, locals := 143 }) s_ mi_ ([.ref (G.2.2.1 (11, 0, 0)), .int (nI here), .int (nI cell), .int sh, .int (nI 3)]).toArray below meth cd_ H locs 0 0 (jQi G A below [.ref (G.2.2.1 (11, 0, 0)), .int (nI here), .int (nI cell), .int sh, .int (nI 3)] s_ (fun r u => r = b2 (gtB (I 0) op nd cell 3 here sh) ∧ u = (I, J, O))) (F0 mi_ 17 ls []) := by
        intro fu
        induction fu with
        | zero => intro d hf; exact absurd hf (Nat.not_lt_zero _)
        | succ fu ih_17 =>
          intro d hf_17 hd hs H locs ls hB hl
          refine lv_iload hx hb dX1_getsThere_17 (lv_at hl 0 rfl) ?_
          refine lv_aload_n hx hb dX1_getsThere_19 rfl (lv_at hl 1 rfl) ?_
          refine j_get (11, 0, 0) 0 (v := .ref (G.2.2.1 (1, 0, 0))) hC hB in_X1 lk_44 dX1_getsThere_20 jk11 rfl rfl (by decide) rfl ?_
          refine j_getN (1, 0, 0) 2 (v := .int (I 0 0)) hC hB in_X4 ln_95 dX1_getsThere_23 (jk1 (by omega)) rfl rfl (by decide) rfl ?_
          refine j_eqi (x := I 0 0) (y := nI nd) (hD) ?_
          refine jn_icmp_ge (tgt := 68) hx hb dX1_getsThere_26 (by decide) (by omega) (by omega) (fun c_26 => ?_) (fun c_26 => ?_)
          · refine lv_iconst (v := nI 0) hx hb dX1_getsThere_68 (by decide) ?_
            exact j_zret hC hB dX1_getsThere_69 (by decide) (⟨by rw [show d = nd by omega] at hs; rw [gtB_s, hs]; simp [b2, c_2], rfl⟩)
          · refine lv_aload_n hx hb dX1_getsThere_29 rfl (lv_at hl 1 rfl) ?_
            refine lv_iload_n hx hb dX1_getsThere_30 rfl (lv_at hl 2 rfl) ?_
            refine lv_iload hx hb dX1_getsThere_31 (lv_at hl 0 rfl) ?_
            refine lv_iload_n hx hb dX1_getsThere_33 rfl (lv_at hl 4 rfl) ?_
            refine j_cvi (11, 0, 0) [.int (nI here), .int (nI d), .int sh] hC hB hl.1 (c_X1_isOpen l_ G I J O here d sh (by omega)) (cwV 3 hts gX1_getsThere_X1_isOpen rfl rfl rfl (by decide +kernel) ⟨by decide, by decide⟩) dX1_getsThere_34 jk11 rfl rfl rfl rfl (Nat.le_of_ble_eq_true rfl) (fun r_34 u_34 H locs hp_34 hB => ?_)
            obtain ⟨rfl, rfl⟩ := hp_34
            refine j_eqi (y := b2 (ioB op here d sh)) (by rw [ioB_cong (ho _ hhe)]) ?_
            refine jb_if_eq (tgt := 62) hx hb dX1_getsThere_37 (by decide) (fun c_37 => ?_) (fun c_37 => ?_)
            · refine lv_iinc (v := nI (d + 1)) (lv' := [(5, .int (nI (d + 1))), (0, .ref (G.2.2.1 (11, 0, 0))), (1, .int (nI here)), (2, .int (nI cell)), (3, .int sh), (4, .int (nI 3))]) hx hb dX1_getsThere_62 hl (k := 0) rfl (jn_inc _ 1) (by decide) rfl (fun ls hl => ?_)
              refine lv_goto (tgt := 17) hx hb dX1_getsThere_65 (by decide) ?_
              exact ih_17 (d + 1) (by omega) (by omega) (by rw [it_s, hs]; simp [anyS, c_37]) _ _ _ hB (lv_sub hl [0, 1, 2, 3, 4, 5] rfl)
            · refine lv_aload_n hx hb dX1_getsThere_40 rfl (lv_at hl 1 rfl) ?_
              refine lv_aload_n hx hb dX1_getsThere_41 rfl (lv_at hl 1 rfl) ?_
              refine lv_iload_n hx hb dX1_getsThere_42 rfl (lv_at hl 2 rfl) ?_
              refine lv_iload hx hb dX1_getsThere_43 (lv_at hl 0 rfl) ?_
              refine j_cvi (11, 0, 0) [.int (nI here), .int (nI d)] hC hB hl.1 (c_X1_beyond l_ G I J O here d (by omega)) (cwV 2 hts gX1_getsThere_X1_beyond rfl rfl rfl (by decide +kernel) ⟨by decide, by decide⟩) dX1_getsThere_45 jk11 rfl rfl rfl rfl (Nat.le_of_ble_eq_true rfl) (fun r_45 u_45 H locs hp_45 hB => ?_)
              obtain ⟨rfl, rfl⟩ := hp_45
              have hbe := be_ok (c := here) hW (show d < nd by omega)
              refine j_eqi hbe.1 ?_
              refine lv_iload_n hx hb dX1_getsThere_48 rfl (lv_at hl 3 rfl) ?_
              refine lv_iload_n hx hb dX1_getsThere_49 rfl (lv_at hl 4 rfl) ?_
              refine lv_iload hx hb dX1_getsThere_50 (lv_at hl 5 rfl) ?_
              refine lv_iconst (v := nI 1) hx hb dX1_getsThere_52 (by decide) ?_
              refine jn_isub hx hb dX1_getsThere_53 (by omega) ?_
              refine j_eqi (y := nI 2) rfl ?_
              refine j_cvi (11, 0, 0) [.int (nI (beN (I 0) d here)), .int (nI cell), .int sh, .int (nI 2)] hC hB hl.1 (c_X1_getsThereStill_2 l_ G I J O (beN (I 0) d here) cell sh (op) (ho) (by omega) (by omega) (by omega) (hD) (hW)) (cwV 4 hts gX1_getsThere_X1_getsThereStill rfl rfl rfl (by decide +kernel) ⟨by decide, by decide⟩) dX1_getsThere_54 jk11 rfl rfl rfl rfl (Nat.le_of_ble_eq_true rfl) (fun r_54 u_54 H locs hp_54 hB => ?_)
              obtain ⟨rfl, rfl⟩ := hp_54
              refine jb_if_eq (tgt := 62) hx hb dX1_getsThere_57 (by decide) (fun c_57 => ?_) (fun c_57 => ?_)
              · refine lv_iinc (v := nI (d + 1)) (lv' := [(5, .int (nI (d + 1))), (0, .ref (G.2.2.1 (11, 0, 0))), (1, .int (nI here)), (2, .int (nI cell)), (3, .int sh), (4, .int (nI 3))]) hx hb dX1_getsThere_62 hl (k := 0) rfl (jn_inc _ 1) (by decide) rfl (fun ls hl => ?_)
                refine lv_goto (tgt := 17) hx hb dX1_getsThere_65 (by decide) ?_
                exact ih_17 (d + 1) (by omega) (by omega) (by rw [it_s, hs]; simp [anyS, c_37, c_57]) _ _ _ hB (lv_sub hl [0, 1, 2, 3, 4, 5] rfl)
              · refine lv_iconst (v := nI 1) hx hb dX1_getsThere_60 (by decide) ?_
                exact j_zret hC hB dX1_getsThere_61 (by decide) (⟨by rw [gtB_s, any_stop (d := d + 1) (by omega) (by rw [it_s, hs]; simp [anyS, c_37, c_57])]; simp [b2], rfl⟩)
      exact lp_17 _ 0 (Nat.lt_succ_self _) (by omega) (rfl) _ _ _ hB (lv_sub hl [0, 1, 2, 3, 4, 5] rfl)
    · exact absurd c_9 (by omega)
  · refine lv_iconst (v := nI 1) hx hb dX1_getsThere_5 (by decide) ?_
    exact j_zret hC hB dX1_getsThere_6 (by decide) (⟨by rw [c_2]; rw [gtB_s]; simp [b2], rfl⟩)

theorem c_X1_getsThere_n (l_ : Launch) (G : jG) (I : Nat → Nat → Int32) (J : Nat → Nat → Int64) (O : Nat → Nat → Nat) (here cell : Nat) (sh : Int32) (n : Nat) (op : Nat → Int32) (ho : ∀ j, j < 8 → I 27 j = op j) (hhe : here < 8) (hce : cell < 8) (hn : n ≤ 3) {nd : Nat} (hnd : nd ≤ 10) (hD : I 0 0 = nI nd) (hW : wfD (I 0) nd) : jMi l_ G yX1_getsThere wsX1_getsThere ({ frames := 6, cells := 0, slots := 0, locals := 143 }) [.ref (G.2.2.1 (11, 0, 0)), .int (nI here), .int (nI cell), .int sh, .int (nI n)] (I, J, O) (fun r u => r = b2 (gtB (I 0) op nd cell n here sh) ∧ u = (I, J, O)) := by
  rcases (show n = 0 ∨ n = 1 ∨ n = 2 ∨ n = 3 by omega) with rfl | rfl | rfl | rfl
  · exact c_X1_getsThere_u0 l_ G I J O here cell sh op ho hhe hce hnd hD hW
  · exact c_X1_getsThere_u1 l_ G I J O here cell sh op ho hhe hce hnd hD hW
  · exact c_X1_getsThere_u2 l_ G I J O here cell sh op ho hhe hce hnd hD hW
  · exact c_X1_getsThere_u3 l_ G I J O here cell sh op ho hhe hce hnd hD hW

set_option maxHeartbeats 4000000 in
set_option maxRecDepth 100000 in
theorem c_X1_huntedSteps (l_ : Launch) (G : jG) (I : Nat → Nat → Int32) (J : Nat → Nat → Int64) (O : Nat → Nat → Nat) (cell most : Nat) (op : Nat → Int32) (ho : ∀ j, j < 8 → I 27 j = op j) (hce : cell < 8) (hmo : most ≤ 3) {st : Nat} (hst : st < 8) (hSt : I 26 0 = nI st) {nd : Nat} (hnd : nd ≤ 10) (hD : I 0 0 = nI nd) (hW : wfD (I 0) nd) : jMi l_ G yX1_huntedSteps wsX1_huntedSteps ({ frames := 7, cells := 0, slots := 0, locals := 168 }) [.ref (G.2.2.1 (11, 0, 0)), .int (nI cell), .int (nI most)] (I, J, O) (fun r u => r = hsC (I 0) op nd cell st most ∧ u = (I, J, O)) := by
  refine jMi_of (cc := cX1_huntedSteps) (maxL := 4) (ret := (some .int)) (lv0 := [(0, .ref (G.2.2.1 (11, 0, 0))), (1, .int (nI cell)), (2, .int (nI most))]) (by decide) rfl (Nat.le_of_ble_eq_true rfl) rfl ?_
  intro pg_ ev_ s_ mi_ below meth cd_ A ls hC hB hl
  obtain ⟨hx, hb, hr, hml, hown, hts, hlocks, hK, hA⟩ := id hC
  have lk_66 := hts (.fieldLink RX1 66 "RiddlePrison$Foresight" "start" "I") (by decide +kernel)
  have in_X1 := (fun w h => List.mem_cons_of_mem _ (List.mem_append_left _ (List.mem_append_left _ (List.mem_append_right _ h))) : ∀ w ∈ wsX10, w ∈ wsX1_huntedSteps)
  refine lv_iconst (v := nI 0) hx hb dX1_huntedSteps_0 (by decide) ?_
  refine lv_istore_n (lv' := [(3, .int (nI 0)), (0, .ref (G.2.2.1 (11, 0, 0))), (1, .int (nI cell)), (2, .int (nI most))]) hx hb dX1_huntedSteps_1 rfl hl (by decide) rfl (fun ls hl => ?_)
  have lp_2 : ∀ (fu : Nat) (n : Nat), most + 1 - n < fu → (n ≤ most + 1) → (seI (hsP (I 0) op nd cell st) (most + 1 - n) n = hsC (I 0) op nd cell st most) → ∀ H locs ls, jB G A s_.heap (I, J, O) H locs → lv_has ls 4 [(3, .int (nI n)), (0, .ref (G.2.2.1 (11, 0, 0))), (1, .int (nI cell)), (2, .int (nI most))] → W pg_ l_ ev_ ({ frames := 7, cells := 0, slots := 0, locals := 168 }) s_ mi_ ([.ref (G.2.2.1 (11, 0, 0)), .int (nI cell), .int (nI most)]).toArray below meth cd_ H locs 0 0 (jQi G A below [.ref (G.2.2.1 (11, 0, 0)), .int (nI cell), .int (nI most)] s_ (fun r u => r = hsC (I 0) op nd cell st most ∧ u = (I, J, O))) (F0 mi_ 2 ls []) := by
    intro fu
    induction fu with
    | zero => intro n hf; exact absurd hf (Nat.not_lt_zero _)
    | succ fu ih_2 =>
      intro n hf_2 hn hs H locs ls hB hl
      refine lv_iload_n hx hb dX1_huntedSteps_2 rfl (lv_at hl 0 rfl) ?_
      refine lv_iload_n hx hb dX1_huntedSteps_3 rfl (lv_at hl 3 rfl) ?_
      refine jn_icmp_gt (tgt := 29) hx hb dX1_huntedSteps_4 (by decide) (by omega) (by omega) (fun c_4 => ?_) (fun c_4 => ?_)
      · refine lv_bipush (v := (-4 : Int32)) hx hb dX1_huntedSteps_29 (by decide) ?_
        exact j_iret hC hB dX1_huntedSteps_31 (⟨by rw [← hs, show most + 1 - n = 0 by omega]; rfl, rfl⟩)
      · refine lv_aload_n hx hb dX1_huntedSteps_7 rfl (lv_at hl 1 rfl) ?_
        refine lv_aload_n hx hb dX1_huntedSteps_8 rfl (lv_at hl 1 rfl) ?_
        refine j_get (11, 0, 0) 2 (v := .int (I 26 0)) hC hB in_X1 lk_66 dX1_huntedSteps_9 jk11 rfl rfl (by decide) rfl ?_
        refine j_eqi (x := I 26 0) (y := nI st) (hSt) ?_
        refine lv_iload_n hx hb dX1_huntedSteps_12 rfl (lv_at hl 2 rfl) ?_
        refine lv_iconst (v := nI 0) hx hb dX1_huntedSteps_13 (by decide) ?_
        refine lv_iload_n hx hb dX1_huntedSteps_14 rfl (lv_at hl 0 rfl) ?_
        refine j_cvi (11, 0, 0) [.int (nI st), .int (nI cell), .int (nI 0), .int (nI n)] hC hB hl.1 (c_X1_getsThere_n l_ G I J O st cell (nI 0) n (op) (ho) (by omega) (by omega) (by omega) (by omega) (hD) (hW)) (cwV 4 hts gX1_huntedSteps_X1_getsThere rfl rfl rfl (by decide +kernel) ⟨by decide, by decide⟩) dX1_huntedSteps_15 jk11 rfl rfl rfl rfl (Nat.le_of_ble_eq_true rfl) (fun r_15 u_15 H locs hp_15 hB => ?_)
        obtain ⟨rfl, rfl⟩ := hp_15
        refine jb_if_eq (tgt := 23) hx hb dX1_huntedSteps_18 (by decide) (fun c_18 => ?_) (fun c_18 => ?_)
        · refine lv_iinc (v := nI (n + 1)) (lv' := [(3, .int (nI (n + 1))), (0, .ref (G.2.2.1 (11, 0, 0))), (1, .int (nI cell)), (2, .int (nI most))]) hx hb dX1_huntedSteps_23 hl (k := 0) rfl (jn_inc _ 1) (by decide) rfl (fun ls hl => ?_)
          refine lv_goto (tgt := 2) hx hb dX1_huntedSteps_26 (by decide) ?_
          exact ih_2 (n + 1) (by omega) (by omega) (by rw [← hs]; exact (seI_no (by omega) c_18).symm) _ _ _ hB (lv_sub hl [0, 1, 2, 3] rfl)
        · refine lv_iload_n hx hb dX1_huntedSteps_21 rfl (lv_at hl 0 rfl) ?_
          exact j_iret hC hB dX1_huntedSteps_22 (⟨by rw [← hs]; exact (seI_yes (by omega) c_18).symm, rfl⟩)
  exact lp_2 _ 0 (Nat.lt_succ_self _) (by omega) (rfl) _ _ _ hB (lv_sub hl [0, 1, 2, 3] rfl)

set_option maxHeartbeats 4000000 in
set_option maxRecDepth 100000 in
theorem c_X1_shareOut (l_ : Launch) (G : jG) (I : Nat → Nat → Int32) (J : Nat → Nat → Int64) (O : Nat → Nat → Nat) (c : Nat) (op : Nat → Int32) (ho : ∀ j, j < 8 → I 27 j = op j) (hc : c < 8) {nd : Nat} (hnd : nd ≤ 10) (hD : I 0 0 = nI nd) (hW : wfD (I 0) nd) : jMv l_ G yX1_shareOut wsX1_shareOut ({ frames := 2, cells := 0, slots := 0, locals := 43 }) [.ref (G.2.2.1 (11, 0, 0)), .int (nI c)] (I, J, O) (fun u => u = (I, srJ J 1 (soC (I 0) op (J 0) nd c (J 1)), O)) := by
  refine jMv_of (cc := cX1_shareOut) (maxL := 6) (ret := none) (lv0 := [(0, .ref (G.2.2.1 (11, 0, 0))), (1, .int (nI c))]) (by decide) rfl (Nat.le_of_ble_eq_true rfl) rfl ?_
  intro pg_ ev_ s_ mi_ below meth cd_ A ls hC hB hl
  obtain ⟨hx, hb, hr, hml, hown, hts, hlocks, hK, hA⟩ := id hC
  have lk_18 := hts (.fieldLink RX1 18 "RiddlePrison$Foresight" "open" "[I") (by decide +kernel)
  have lk_37 := hts (.fieldLink RX1 37 "RiddlePrison$Foresight" "odds" "[J") (by decide +kernel)
  have lk_44 := hts (.fieldLink RX1 44 "RiddlePrison$Foresight" "prison" "LRiddlePrison$Prison;") (by decide +kernel)
  have ln_95 := (by decide +kernel : Cond.fieldLinkNest RX1 95 "RiddlePrison$Prison" "doorCount" "I" "RiddlePrison" ∈ nsW)
  have lk_41 := hts (.fieldLink RX1 41 "RiddlePrison$Foresight" "oddsAhead" "[J") (by decide +kernel)
  have in_X1 := (fun w h => List.mem_cons_of_mem _ (List.mem_append_left _ (List.mem_append_left _ (List.mem_append_right _ h))) : ∀ w ∈ wsX10, w ∈ wsX1_shareOut)
  have in_X4 := (fun w h => List.mem_cons_of_mem _ (List.mem_append_left _ (List.mem_append_right _ h)) : ∀ w ∈ wsX40, w ∈ wsX1_shareOut)
  refine lv_aload_n hx hb dX1_shareOut_0 rfl (lv_at hl 0 rfl) ?_
  refine j_get (11, 0, 0) 3 (v := .ref (G.2.2.1 (21, 27, 0))) hC hB in_X1 lk_18 dX1_shareOut_1 jk11 rfl rfl (by decide) rfl ?_
  refine lv_iload_n hx hb dX1_shareOut_4 rfl (lv_at hl 1 rfl) ?_
  refine j_iLd 27 c hC hB dX1_shareOut_5 (by decide) rfl (by simp only [lenI_27]; omega) ?_
  refine j_eqi (y := (I 27) c) rfl ?_
  refine j_eqi (y := op c) (ho c hc) ?_
  refine j_csi [.int (op c)] hC hB hl.1 (c_J6_bitCount_0f7a4 l_ G I J O (op c)) (va_cwS 1 hts gX1_shareOut_J6_bitCount_0f7a4 rfl rfl rfl (by decide +kernel) ⟨by decide, by decide⟩) dX1_shareOut_6 rfl rfl (Nat.le_of_ble_eq_true rfl) (fun r_6 u_6 H locs hp_6 hB => ?_)
  obtain ⟨rfl, rfl⟩ := hp_6
  refine lv_istore_n (lv' := [(2, .int (bcJ (op c))), (0, .ref (G.2.2.1 (11, 0, 0))), (1, .int (nI c))]) hx hb dX1_shareOut_9 rfl hl (by decide) rfl (fun ls hl => ?_)
  refine lv_iload_n hx hb dX1_shareOut_10 rfl (lv_at hl 0 rfl) ?_
  refine lv_if_gt (tgt := 34) hx hb dX1_shareOut_11 (by decide) (fun c_11 => ?_) (fun c_11 => ?_)
  · refine lv_aload_n hx hb dX1_shareOut_34 rfl (lv_at hl 1 rfl) ?_
    refine j_get (11, 0, 0) 9 (v := .ref (G.2.2.1 (22, 0, 0))) hC hB in_X1 lk_37 dX1_shareOut_35 jk11 rfl rfl (by decide) rfl ?_
    refine lv_iload_n hx hb dX1_shareOut_38 rfl (lv_at hl 2 rfl) ?_
    refine j_lLd 0 c hC hB dX1_shareOut_39 (by decide) rfl (by simp only [lenJ_0]; omega) ?_
    refine j_eql (y := (J 0) c) rfl ?_
    refine lv_sipush (v := nI 2520) hx hb dX1_shareOut_40 (by decide) ?_
    refine lv_iload_n hx hb dX1_shareOut_43 rfl (lv_at hl 0 rfl) ?_
    refine lv_idiv hx hb dX1_shareOut_44 (fun e => absurd c_11 (by rw [e]; decide)) ?_
    refine lv_i2l (v := ((nI 2520) / (bcJ (op c))).toInt64) hx hb dX1_shareOut_45 rfl ?_
    refine lv_lmul hx hb dX1_shareOut_46 ?_
    refine lv_lstore_n (lv' := [(3, .long (((J 0) c) * (((nI 2520) / (bcJ (op c))).toInt64))), (2, .int (bcJ (op c))), (0, .ref (G.2.2.1 (11, 0, 0))), (1, .int (nI c))]) hx hb dX1_shareOut_47 rfl hl (by decide) rfl (fun ls hl => ?_)
    refine lv_iconst (v := nI 0) hx hb dX1_shareOut_48 (by decide) ?_
    refine lv_istore (lv' := [(5, .int (nI 0)), (3, .long (((J 0) c) * (((nI 2520) / (bcJ (op c))).toInt64))), (2, .int (bcJ (op c))), (0, .ref (G.2.2.1 (11, 0, 0))), (1, .int (nI c))]) hx hb dX1_shareOut_49 hl (by decide) rfl (fun ls hl => ?_)
    have lp_51 : ∀ (fu : Nat) (y : Nat → Int64) (d : Nat), nd - d < fu → (d ≤ nd) → (y = it (soD (I 0) op (J 0 c * (nI 2520 / bcJ (op c)).toInt64) c) d (J 1)) → ∀ H locs ls, jB G A s_.heap (I, srJ J 1 (y), O) H locs → lv_has ls 6 [(5, .int (nI d)), (3, .long (((J 0) c) * (((nI 2520) / (bcJ (op c))).toInt64))), (2, .int (bcJ (op c))), (0, .ref (G.2.2.1 (11, 0, 0))), (1, .int (nI c))] → W pg_ l_ ev_ ({ frames := 2, cells := 0, slots := 0, locals := 43 }) s_ mi_ ([.ref (G.2.2.1 (11, 0, 0)), .int (nI c)]).toArray below meth cd_ H locs 0 0 (jQv G A below [.ref (G.2.2.1 (11, 0, 0)), .int (nI c)] s_ (fun u => u = (I, srJ J 1 (soC (I 0) op (J 0) nd c (J 1)), O))) (F0 mi_ 51 ls []) := by
      intro fu
      induction fu with
      | zero => intro y d hf; exact absurd hf (Nat.not_lt_zero _)
      | succ fu ih_51 =>
        intro y d hf_51 hd hs H locs ls hB hl
        refine lv_iload hx hb dX1_shareOut_51 (lv_at hl 0 rfl) ?_
        refine lv_aload_n hx hb dX1_shareOut_53 rfl (lv_at hl 3 rfl) ?_
        refine j_get (11, 0, 0) 0 (v := .ref (G.2.2.1 (1, 0, 0))) hC hB in_X1 lk_44 dX1_shareOut_54 jk11 rfl rfl (by decide) rfl ?_
        refine j_getN (1, 0, 0) 2 (v := .int (I 0 0)) hC hB in_X4 ln_95 dX1_shareOut_57 (jk1 (by omega)) rfl rfl (by decide) rfl ?_
        refine j_eqi (x := I 0 0) (y := nI nd) (hD) ?_
        refine jn_icmp_ge (tgt := 96) hx hb dX1_shareOut_60 (by decide) (by omega) (by omega) (fun c_60 => ?_) (fun c_60 => ?_)
        · exact j_vret hC hB dX1_shareOut_96 (by rw [soC, if_pos c_11, hs, show d = nd by omega])
        · refine lv_aload_n hx hb dX1_shareOut_63 rfl (lv_at hl 3 rfl) ?_
          refine lv_iload_n hx hb dX1_shareOut_64 rfl (lv_at hl 4 rfl) ?_
          refine lv_iload hx hb dX1_shareOut_65 (lv_at hl 0 rfl) ?_
          refine lv_iconst (v := nI 0) hx hb dX1_shareOut_67 (by decide) ?_
          refine j_cvi (11, 0, 0) [.int (nI c), .int (nI d), .int (nI 0)] hC hB hl.1 (c_X1_isOpen l_ G I (srJ J 1 (y)) O c d (nI 0) (by omega)) (cwV 3 hts gX1_shareOut_X1_isOpen rfl rfl rfl (by decide +kernel) ⟨by decide, by decide⟩) dX1_shareOut_68 jk11 rfl rfl rfl rfl (Nat.le_of_ble_eq_true rfl) (fun r_68 u_68 H locs hp_68 hB => ?_)
          obtain ⟨rfl, rfl⟩ := hp_68
          refine j_eqi (y := b2 (ioB (I 27) c d (nI 0))) (rfl) ?_
          refine j_eqi (y := b2 (ioB op c d (nI 0))) (by rw [ioB_cong (ho _ hc)]) ?_
          refine jb_if_eq (tgt := 90) hx hb dX1_shareOut_71 (by decide) (fun c_71 => ?_) (fun c_71 => ?_)
          · refine lv_iinc (v := nI (d + 1)) (lv' := [(5, .int (nI (d + 1))), (3, .long (((J 0) c) * (((nI 2520) / (bcJ (op c))).toInt64))), (2, .int (bcJ (op c))), (0, .ref (G.2.2.1 (11, 0, 0))), (1, .int (nI c))]) hx hb dX1_shareOut_90 hl (k := 0) rfl (jn_inc _ 1) (by decide) rfl (fun ls hl => ?_)
            refine lv_goto (tgt := 51) hx hb dX1_shareOut_93 (by decide) ?_
            exact ih_51 y (d + 1) (by omega) (by omega) (by rw [it_s, ← hs]; simp [soD, c_71]) _ _ _ hB (lv_sub hl [0, 1, 2, 3, 4] rfl)
          · refine lv_aload_n hx hb dX1_shareOut_74 rfl (lv_at hl 3 rfl) ?_
            refine j_get (11, 0, 0) 10 (v := .ref (G.2.2.1 (22, 1, 0))) hC hB in_X1 lk_41 dX1_shareOut_75 jk11 rfl rfl (by decide) rfl ?_
            refine lv_aload_n hx hb dX1_shareOut_78 rfl (lv_at hl 3 rfl) ?_
            refine lv_iload_n hx hb dX1_shareOut_79 rfl (lv_at hl 4 rfl) ?_
            refine lv_iload hx hb dX1_shareOut_80 (lv_at hl 0 rfl) ?_
            refine j_cvi (11, 0, 0) [.int (nI c), .int (nI d)] hC hB hl.1 (c_X1_beyond l_ G I (srJ J 1 (y)) O c d (by omega)) (cwV 2 hts gX1_shareOut_X1_beyond rfl rfl rfl (by decide +kernel) ⟨by decide, by decide⟩) dX1_shareOut_82 jk11 rfl rfl rfl rfl (Nat.le_of_ble_eq_true rfl) (fun r_82 u_82 H locs hp_82 hB => ?_)
            obtain ⟨rfl, rfl⟩ := hp_82
            refine j_eqi (y := beF (I 0) d (nI c)) (rfl) ?_
            have hbe := be_ok (c := c) hW (show d < nd by omega)
            refine j_eqi hbe.1 ?_
            refine lv_dup2_11 hx hb dX1_shareOut_85 rfl rfl ?_
            refine j_lLd 1 (beN (I 0) d c) hC hB dX1_shareOut_86 (by decide) rfl (by simp only [lenJ_1]; omega) ?_
            refine j_eql (x := (srJ J 1 (y)) 1 (beN (I 0) d c)) (y := y (beN (I 0) d c)) (srJ_sj) ?_
            refine lv_lload_n hx hb dX1_shareOut_87 rfl (lv_at hl 1 rfl) ?_
            refine lv_ladd hx hb dX1_shareOut_88 ?_
            refine j_lSt 1 (beN (I 0) d c) hC hB dX1_shareOut_89 (by decide) rfl (by simp only [lenJ_1]; omega) (fun H locs hB => ?_)
            have hB : jB G A s_.heap (I, srJ J 1 (vp_updL (y) (beN (I 0) d c) ((y (beN (I 0) d c)) + (((J 0) c) * (((nI 2520) / (bcJ (op c))).toInt64)))), O) H locs := by rw [show srJ J 1 (vp_updL (y) (beN (I 0) d c) ((y (beN (I 0) d c)) + (((J 0) c) * (((nI 2520) / (bcJ (op c))).toInt64)))) = v2 (srJ J 1 (y)) 1 (beN (I 0) d c) ((y (beN (I 0) d c)) + (((J 0) c) * (((nI 2520) / (bcJ (op c))).toInt64))) from (v2_srJ _ _ _ _ _).symm]; exact hB
            refine lv_iinc (v := nI (d + 1)) (lv' := [(5, .int (nI (d + 1))), (3, .long (((J 0) c) * (((nI 2520) / (bcJ (op c))).toInt64))), (2, .int (bcJ (op c))), (0, .ref (G.2.2.1 (11, 0, 0))), (1, .int (nI c))]) hx hb dX1_shareOut_90 hl (k := 0) rfl (jn_inc _ 1) (by decide) rfl (fun ls hl => ?_)
            refine lv_goto (tgt := 51) hx hb dX1_shareOut_93 (by decide) ?_
            exact ih_51 (vp_updL (y) (beN (I 0) d c) ((y (beN (I 0) d c)) + (((J 0) c) * (((nI 2520) / (bcJ (op c))).toInt64)))) (d + 1) (by omega) (by omega) (by rw [it_s, ← hs]; simp [soD, c_71]) _ _ _ hB (lv_sub hl [0, 1, 2, 3, 4] rfl)
    exact lp_51 _ (J 1) 0 (Nat.lt_succ_self _) (by omega) (rfl) _ _ _ (jB_cast2 hB rfl (by first | exact (srJ_id _ _).symm | (funext a_; simp +decide only [srJ]; (repeat' split) <;> first | rfl | (exfalso; omega) | (subst_vars; rfl)))) (lv_sub hl [0, 1, 2, 3, 4] rfl)
  · refine lv_aload_n hx hb dX1_shareOut_14 rfl (lv_at hl 1 rfl) ?_
    refine j_get (11, 0, 0) 10 (v := .ref (G.2.2.1 (22, 1, 0))) hC hB in_X1 lk_41 dX1_shareOut_15 jk11 rfl rfl (by decide) rfl ?_
    refine lv_iload_n hx hb dX1_shareOut_18 rfl (lv_at hl 2 rfl) ?_
    refine lv_dup2_11 hx hb dX1_shareOut_19 rfl rfl ?_
    refine j_lLd 1 c hC hB dX1_shareOut_20 (by decide) rfl (by simp only [lenJ_1]; omega) ?_
    refine j_eql (y := (J 1) c) rfl ?_
    refine lv_aload_n hx hb dX1_shareOut_21 rfl (lv_at hl 1 rfl) ?_
    refine j_get (11, 0, 0) 9 (v := .ref (G.2.2.1 (22, 0, 0))) hC hB in_X1 lk_37 dX1_shareOut_22 jk11 rfl rfl (by decide) rfl ?_
    refine lv_iload_n hx hb dX1_shareOut_25 rfl (lv_at hl 2 rfl) ?_
    refine j_lLd 0 c hC hB dX1_shareOut_26 (by decide) rfl (by simp only [lenJ_0]; omega) ?_
    refine j_eql (y := (J 0) c) rfl ?_
    refine lv_ldc2 (v := 2520) hx hb hown (hts (.constantLong RX1 146 (2520)) (by decide +kernel)) dX1_shareOut_27 ?_
    refine lv_lmul hx hb dX1_shareOut_30 ?_
    refine lv_ladd hx hb dX1_shareOut_31 ?_
    refine j_lSt 1 c hC hB dX1_shareOut_32 (by decide) rfl (by simp only [lenJ_1]; omega) (fun H locs hB => ?_)
    have hB : jB G A s_.heap (I, srJ J 1 (vp_updL (J 1) c (((J 1) c) + (((J 0) c) * ((2520 : Int64))))), O) H locs := by rw [show srJ J 1 (vp_updL (J 1) c (((J 1) c) + (((J 0) c) * ((2520 : Int64))))) = v2 J 1 c (((J 1) c) + (((J 0) c) * ((2520 : Int64)))) from (v2_eq _ _ _ _).symm]; exact hB
    exact j_vret hC hB dX1_shareOut_33 (by rw [soC, if_neg c_11])
