set_option maxHeartbeats 4000000 in
set_option maxRecDepth 100000 in
theorem c_X1_reached (l_ : Launch) (G : jG) (I : Nat → Nat → Int32) (J : Nat → Nat → Int64) (O : Nat → Nat → Nat)  : jMi l_ G yX1_reached wsX1_reached ({ frames := 0, cells := 0, slots := 0, locals := 0 }) [.ref (G.2.2.1 (11, 0, 0))] (I, J, O) (fun r u => r = rchC (I 28) 8 ∧ u = (I, J, O)) := by
  refine jMi_of (cc := cX1_reached) (maxL := 3) (ret := (some .int)) (lv0 := [(0, .ref (G.2.2.1 (11, 0, 0)))]) (by decide) rfl (Nat.le_of_ble_eq_true rfl) rfl ?_
  intro pg_ ev_ s_ mi_ below meth cd_ A ls hC hB hl
  obtain ⟨hx, hb, hr, hml, hown, hts, hlocks, hK, hA⟩ := id hC
  have lk_22 := hts (.fieldLink RX1 22 "RiddlePrison$Foresight" "far" "[I") (by decide +kernel)
  have in_X1 := (fun w h => List.mem_cons_of_mem _ (List.mem_append_right _ h) : ∀ w ∈ wsX10, w ∈ wsX1_reached)
  refine lv_iconst (v := nI 0) hx hb dX1_reached_0 (by decide) ?_
  refine lv_istore_n (lv' := [(1, .int (nI 0)), (0, .ref (G.2.2.1 (11, 0, 0)))]) hx hb dX1_reached_1 rfl hl (by decide) rfl (fun ls hl => ?_)
  refine lv_iconst (v := nI 0) hx hb dX1_reached_2 (by decide) ?_
  refine lv_istore_n (lv' := [(2, .int (nI 0)), (1, .int (nI 0)), (0, .ref (G.2.2.1 (11, 0, 0)))]) hx hb dX1_reached_3 rfl hl (by decide) rfl (fun ls hl => ?_)
  have lp_4 : ∀ (fu : Nat) (set : Int32) (k : Nat), 8 - k < fu → (k ≤ 8) → (set = rchC (I 28) k) → ∀ H locs ls, jB G A s_.heap (I, J, O) H locs → lv_has ls 3 [(2, .int (nI k)), (1, .int set), (0, .ref (G.2.2.1 (11, 0, 0)))] → W pg_ l_ ev_ ({ frames := 0, cells := 0, slots := 0, locals := 0 }) s_ mi_ ([.ref (G.2.2.1 (11, 0, 0))]).toArray below meth cd_ H locs 0 0 (jQi G A below [.ref (G.2.2.1 (11, 0, 0))] s_ (fun r u => r = rchC (I 28) 8 ∧ u = (I, J, O))) (F0 mi_ 4 ls []) := by
    intro fu
    induction fu with
    | zero => intro set k hf; exact absurd hf (Nat.not_lt_zero _)
    | succ fu ih_4 =>
      intro set k hf_4 hk hs H locs ls hB hl
      refine lv_iload_n hx hb dX1_reached_4 rfl (lv_at hl 0 rfl) ?_
      refine lv_bipush (v := nI 8) hx hb dX1_reached_5 (by decide) ?_
      refine jn_icmp_ge (tgt := 31) hx hb dX1_reached_7 (by decide) (by omega) (by omega) (fun c_7 => ?_) (fun c_7 => ?_)
      · refine lv_iload_n hx hb dX1_reached_31 rfl (lv_at hl 1 rfl) ?_
        exact j_iret hC hB dX1_reached_32 (⟨by rw [hs, show k = 8 by omega], rfl⟩)
      · refine lv_aload_n hx hb dX1_reached_10 rfl (lv_at hl 2 rfl) ?_
        refine j_get (11, 0, 0) 4 (v := .ref (G.2.2.1 (21, 28, 0))) hC hB in_X1 lk_22 dX1_reached_11 jk11 rfl rfl (by decide) rfl ?_
        refine lv_iload_n hx hb dX1_reached_14 rfl (lv_at hl 0 rfl) ?_
        refine j_iLd 28 k hC hB dX1_reached_15 (by decide) rfl (by simp only [lenI_28]; omega) ?_
        refine j_eqi (y := (I 28) k) rfl ?_
        refine lv_if_lt (tgt := 25) hx hb dX1_reached_16 (by decide) (fun c_16 => ?_) (fun c_16 => ?_)
        · refine lv_iinc (v := nI (k + 1)) (lv' := [(2, .int (nI (k + 1))), (1, .int set), (0, .ref (G.2.2.1 (11, 0, 0)))]) hx hb dX1_reached_25 hl (k := 0) rfl (jn_inc _ 1) (by decide) rfl (fun ls hl => ?_)
          refine lv_goto (tgt := 4) hx hb dX1_reached_28 (by decide) ?_
          exact ih_4 set (k + 1) (by omega) (by omega) (by simp [rchC, bitI, hs, c_16]) _ _ _ hB (lv_sub hl [0, 1, 2] rfl)
        · refine lv_iload_n hx hb dX1_reached_19 rfl (lv_at hl 1 rfl) ?_
          refine lv_iconst (v := nI 1) hx hb dX1_reached_20 (by decide) ?_
          refine lv_iload_n hx hb dX1_reached_21 rfl (lv_at hl 0 rfl) ?_
          refine lv_ishl hx hb dX1_reached_22 ?_
          refine lv_ior hx hb dX1_reached_23 ?_
          refine lv_istore_n (lv' := [(1, .int (set ||| ((nI 1) <<< ((nI k) &&& 31)))), (2, .int (nI k)), (0, .ref (G.2.2.1 (11, 0, 0)))]) hx hb dX1_reached_24 rfl hl (by decide) rfl (fun ls hl => ?_)
          refine lv_iinc (v := nI (k + 1)) (lv' := [(2, .int (nI (k + 1))), (1, .int (set ||| ((nI 1) <<< ((nI k) &&& 31)))), (0, .ref (G.2.2.1 (11, 0, 0)))]) hx hb dX1_reached_25 hl (k := 1) rfl (jn_inc _ 1) (by decide) rfl (fun ls hl => ?_)
          refine lv_goto (tgt := 4) hx hb dX1_reached_28 (by decide) ?_
          exact ih_4 (set ||| ((nI 1) <<< ((nI k) &&& 31))) (k + 1) (by omega) (by omega) (by simp [rchC, bitI, hs, c_16]) _ _ _ hB (lv_sub hl [0, 1, 2] rfl)
  exact lp_4 _ (nI 0) 0 (Nat.lt_succ_self _) (by omega) (rfl) _ _ _ hB (lv_sub hl [0, 1, 2] rfl)

set_option maxHeartbeats 4000000 in
set_option maxRecDepth 100000 in
theorem c_X1_distance (l_ : Launch) (G : jG) (I : Nat → Nat → Int32) (J : Nat → Nat → Int64) (O : Nat → Nat → Nat) (fr to_ : Nat) (sh : Int32) (op : Nat → Int32) (ho : ∀ j, j < 8 → I 27 j = op j) (hfr : fr < 8) (hto : to_ < 8) {nd : Nat} (hnd : nd ≤ 10) (hD : I 0 0 = nI nd) (hW : wfD (I 0) nd) : jMi l_ G yX1_distance wsX1_distance ({ frames := 3, cells := 0, slots := 0, locals := 72 }) [.ref (G.2.2.1 (11, 0, 0)), .int (nI fr), .int (nI to_), .int sh] (I, J, O) (fun r u => r = (spZ (I 0) op sh fr nd).1 to_ ∧ ∃ (x28 x29 : Nat → Int32) , u = (sr (sr I 28 (x28)) 29 (x29), J, O)) := by
  refine jMi_of (cc := cX1_distance) (maxL := 4) (ret := (some .int)) (lv0 := [(0, .ref (G.2.2.1 (11, 0, 0))), (1, .int (nI fr)), (2, .int (nI to_)), (3, .int sh)]) (by decide) rfl (Nat.le_of_ble_eq_true rfl) rfl ?_
  intro pg_ ev_ s_ mi_ below meth cd_ A ls hC hB hl
  obtain ⟨hx, hb, hr, hml, hown, hts, hlocks, hK, hA⟩ := id hC
  have lk_22 := hts (.fieldLink RX1 22 "RiddlePrison$Foresight" "far" "[I") (by decide +kernel)
  have in_X1 := (fun w h => List.mem_cons_of_mem _ (List.mem_append_left _ (List.mem_append_left _ (List.mem_append_right _ h))) : ∀ w ∈ wsX10, w ∈ wsX1_distance)
  refine lv_aload_n hx hb dX1_distance_0 rfl (lv_at hl 0 rfl) ?_
  refine lv_iload_n hx hb dX1_distance_1 rfl (lv_at hl 1 rfl) ?_
  refine lv_iload_n hx hb dX1_distance_2 rfl (lv_at hl 3 rfl) ?_
  refine j_cvv (11, 0, 0) [.int (nI fr), .int sh] hC hB hl.1 (c_X1_spread l_ G I J O fr sh (by omega) (by omega) (hD) (hW)) (cwV 2 hts gX1_distance_X1_spread rfl rfl rfl (by decide +kernel) ⟨by decide, by decide⟩) dX1_distance_3 jk11 rfl rfl rfl rfl (Nat.le_of_ble_eq_true rfl) (fun u_3 H locs hp_3 hB => ?_)
  obtain rfl := hp_3
  have hB : jB G A s_.heap (sr (sr I 28 ((spF (I 0) (I 27) (I 28) (I 29) sh fr nd).1)) 29 ((spF (I 0) (I 27) (I 28) (I 29) sh fr nd).2), J, O) H locs := hB
  refine lv_aload_n hx hb dX1_distance_6 rfl (lv_at hl 0 rfl) ?_
  refine j_get (11, 0, 0) 4 (v := .ref (G.2.2.1 (21, 28, 0))) hC hB in_X1 lk_22 dX1_distance_7 jk11 rfl rfl (by decide) rfl ?_
  refine lv_iload_n hx hb dX1_distance_10 rfl (lv_at hl 2 rfl) ?_
  refine j_iLd 28 to_ hC hB dX1_distance_11 (by decide) rfl (by simp only [lenI_28]; omega) ?_
  refine j_eqi (x := (sr (sr I 28 ((spF (I 0) (I 27) (I 28) (I 29) sh fr nd).1)) 29 ((spF (I 0) (I 27) (I 28) (I 29) sh fr nd).2)) 28 to_) (y := ((spF (I 0) (I 27) (I 28) (I 29) sh fr nd).1) to_) ((sr_nj (show (28 : Nat) ≠ 29 by omega)).trans (sr_sj)) ?_
  exact j_iret hC hB dX1_distance_12 (⟨(spF_Z hW hfr ho (I 28) (I 29) sh to_ hto).1, _, _, rfl⟩)

set_option maxHeartbeats 4000000 in
set_option maxRecDepth 100000 in
theorem c_X1_followAs (l_ : Launch) (G : jG) (I : Nat → Nat → Int32) (J : Nat → Nat → Int64) (O : Nat → Nat → Nat) (m : Nat) (wit own : Int32) (hm : m < 4) {cc : Nat} (hcc : cc < 8) (ecc : I 0 (51 + m) = nI cc) {nd : Nat} (hnd : nd ≤ 10) (hD : I 0 0 = nI nd) (hW : wfD (I 0) nd) : jMv l_ G yX1_followAs wsX1_followAs ({ frames := 5, cells := 0, slots := 0, locals := 120 }) [.ref (G.2.2.1 (11, 0, 0)), .ref (G.2.2.1 (5, 0, m)), .int wit, .int own] (I, J, O) (fun u => ∃ (x19 x27 x28 x29 : Nat → Int32) , foOK (I 0) m wit own nd cc x27 x28 x29 ∧ u = (sr (sr (sr (sr (sr I 26 (upd (I 26) 0 (nI cc))) 19 (x19)) 27 (x27)) 28 (x28)) 29 (x29), J, O)) := by
  refine jMv_of (cc := cX1_followAs) (maxL := 5) (ret := none) (lv0 := [(0, .ref (G.2.2.1 (11, 0, 0))), (1, .ref (G.2.2.1 (5, 0, m))), (2, .int wit), (3, .int own)]) (by decide) rfl (Nat.le_of_ble_eq_true rfl) rfl ?_
  intro pg_ ev_ s_ mi_ below meth cd_ A ls hC hB hl
  obtain ⟨hx, hb, hr, hml, hown, hts, hlocks, hK, hA⟩ := id hC
  have lk_14 := hts (.fieldLink RX1 14 "RiddlePrison$Foresight" "who" "LRiddlePrison$Man;") (by decide +kernel)
  have ln_45 := (by decide +kernel : Cond.fieldLinkNest RX1 45 "RiddlePrison$Man" "wit" "I" "RiddlePrison" ∈ nsW)
  have ln_49 := (by decide +kernel : Cond.fieldLinkNest RX1 49 "RiddlePrison$Man" "own" "I" "RiddlePrison" ∈ nsW)
  have ln_60 := (by decide +kernel : Cond.fieldLinkNest RX1 60 "RiddlePrison$Man" "cell" "I" "RiddlePrison" ∈ nsW)
  have lk_63 := hts (.fieldLink RX1 63 "RiddlePrison$Foresight" "start" "I") (by decide +kernel)
  have lk_18 := hts (.fieldLink RX1 18 "RiddlePrison$Foresight" "open" "[I") (by decide +kernel)
  have lk_41 := hts (.fieldLink RX1 41 "RiddlePrison$Foresight" "prison" "LRiddlePrison$Prison;") (by decide +kernel)
  have in_X1 := (fun w h => List.mem_cons_of_mem _ (List.mem_append_left _ (List.mem_append_left _ (List.mem_append_left _ (List.mem_append_right _ h)))) : ∀ w ∈ wsX10, w ∈ wsX1_followAs)
  have in_X3 := (fun w h => List.mem_cons_of_mem _ (List.mem_append_left _ (List.mem_append_left _ (List.mem_append_right _ h))) : ∀ w ∈ wsX30, w ∈ wsX1_followAs)
  refine lv_aload_n hx hb dX1_followAs_0 rfl (lv_at hl 0 rfl) ?_
  refine j_get (11, 0, 0) 1 (v := .ref (G.2.2.1 (5, 19, 0))) hC hB in_X1 lk_14 dX1_followAs_1 jk11 rfl rfl (by decide) rfl ?_
  refine lv_aload_n hx hb dX1_followAs_4 rfl (lv_at hl 1 rfl) ?_
  refine j_cvv (5, 19, 0) [.ref (G.2.2.1 (5, 0, m))] hC hB hl.1 (c_X3_become l_ G I J O 19 0 0 m (jk5w) ((jk5 (by omega) (by omega))) (by omega)) (cwV 1 hts gX1_followAs_X3_become rfl rfl rfl (by decide +kernel) ⟨by decide, by decide⟩) dX1_followAs_5 jk5w rfl rfl rfl rfl (Nat.le_of_ble_eq_true rfl) (fun u_5 H locs hp_5 hB => ?_)
  obtain rfl := hp_5
  have hB : jB G A s_.heap (sr I 19 (mbR (I 19) (I 0) 0 m), J, O) H locs := hB
  refine lv_aload_n hx hb dX1_followAs_8 rfl (lv_at hl 0 rfl) ?_
  refine j_get (11, 0, 0) 1 (v := .ref (G.2.2.1 (5, 19, 0))) hC hB in_X1 lk_14 dX1_followAs_9 jk11 rfl rfl (by decide) rfl ?_
  refine lv_iload_n hx hb dX1_followAs_12 rfl (lv_at hl 2 rfl) ?_
  refine j_putN (5, 19, 0) 1 (u2 (sr I 19 (mbR (I 19) (I 0) 0 m)) 19 63 wit, J, O) (ty := .int) hC hB in_X3 tyX3_ok nmX3 ln_45 dX1_followAs_13 jk5w rfl rfl (by decide) rfl (by decide +kernel) rfl rfl (Nat.le_of_ble_eq_true rfl) (fun z hz hne => jw_fr z hz (by rw [(by decide : jof 19 63 = (5, 19, 0))]; exact hne)) (by simp [jw, u2]) (fun H locs hB => ?_)
  have hB : jB G A s_.heap (sr I 19 (upd (mbR (I 19) (I 0) 0 m) 63 wit), J, O) H locs := by rw [show sr I 19 (upd (mbR (I 19) (I 0) 0 m) 63 wit) = u2 (sr I 19 (mbR (I 19) (I 0) 0 m)) 19 63 wit from (u2_sr _ _ _ _ _).symm]; exact hB
  refine lv_aload_n hx hb dX1_followAs_16 rfl (lv_at hl 0 rfl) ?_
  refine j_get (11, 0, 0) 1 (v := .ref (G.2.2.1 (5, 19, 0))) hC hB in_X1 lk_14 dX1_followAs_17 jk11 rfl rfl (by decide) rfl ?_
  refine lv_iload_n hx hb dX1_followAs_20 rfl (lv_at hl 3 rfl) ?_
  refine j_putN (5, 19, 0) 2 (u2 (sr I 19 (upd (mbR (I 19) (I 0) 0 m) 63 wit)) 19 7 own, J, O) (ty := .int) hC hB in_X3 tyX3_ok nmX3 ln_49 dX1_followAs_21 jk5w rfl rfl (by decide) rfl (by decide +kernel) rfl rfl (Nat.le_of_ble_eq_true rfl) (fun z hz hne => jw_fr z hz (by rw [(by decide : jof 19 7 = (5, 19, 0))]; exact hne)) (by simp [jw, u2]) (fun H locs hB => ?_)
  have hB : jB G A s_.heap (sr I 19 (upd (upd (mbR (I 19) (I 0) 0 m) 63 wit) 7 own), J, O) H locs := by rw [show sr I 19 (upd (upd (mbR (I 19) (I 0) 0 m) 63 wit) 7 own) = u2 (sr I 19 (upd (mbR (I 19) (I 0) 0 m) 63 wit)) 19 7 own from (u2_sr _ _ _ _ _).symm]; exact hB
  have hB : jB G A s_.heap (sr I 19 (wh0 (I 19) (I 0) m wit own), J, O) H locs := by rw [← show upd (upd (mbR (I 19) (I 0) 0 m) 63 wit) 7 own = wh0 (I 19) (I 0) m wit own from rfl]; exact hB
  refine lv_aload_n hx hb dX1_followAs_24 rfl (lv_at hl 0 rfl) ?_
  refine lv_aload_n hx hb dX1_followAs_25 rfl (lv_at hl 1 rfl) ?_
  refine j_getN (5, 0, m) 3 (v := .int ((sr I 19 (wh0 (I 19) (I 0) m wit own)) 0 (51 + m))) hC hB in_X3 ln_60 dX1_followAs_26 (jk5 (by omega) (by omega)) rfl rfl (by decide) rfl ?_
  refine j_eqi (x := (sr I 19 (wh0 (I 19) (I 0) m wit own)) 0 (51 + m)) (y := nI cc) ((sr_nj (show (0 : Nat) ≠ 19 by omega)).trans (ecc)) ?_
  refine j_put (11, 0, 0) 2 (u2 (sr I 19 (wh0 (I 19) (I 0) m wit own)) 26 0 (nI cc), J, O) (ty := .int) hC hB in_X1 tyX1_ok nmX1 lk_63 dX1_followAs_29 jk11 rfl rfl (by decide) rfl (by decide +kernel) rfl rfl (Nat.le_of_ble_eq_true rfl) (fun z hz hne => jw_fr z hz hne) (rfl) (fun H locs hB => ?_)
  have hB : jB G A s_.heap (sr (sr I 19 (wh0 (I 19) (I 0) m wit own)) 26 (upd (I 26) 0 (nI cc)), J, O) H locs := by rw [show sr (sr I 19 (wh0 (I 19) (I 0) m wit own)) 26 (upd (I 26) 0 (nI cc)) = u2 (sr I 19 (wh0 (I 19) (I 0) m wit own)) 26 0 (nI cc) from (u2_sr1 (show (26 : Nat) ≠ 19 by omega)).symm]; exact hB
  refine lv_iconst (v := nI 0) hx hb dX1_followAs_32 (by decide) ?_
  refine lv_istore (lv' := [(4, .int (nI 0)), (0, .ref (G.2.2.1 (11, 0, 0))), (1, .ref (G.2.2.1 (5, 0, m))), (2, .int wit), (3, .int own)]) hx hb dX1_followAs_33 hl (by decide) rfl (fun ls hl => ?_)
  have lp_35 : ∀ (fu : Nat) (w : Nat → Int32) (f : Nat → Int32) (k : Nat) (x : Int32), 8 - k < fu → (k ≤ 8) → (w = upd (wh0 (I 19) (I 0) m wit own) 51 x) → (f = fwR (I 0) (wh0 (I 19) (I 0) m wit own) (I 27) nd k) → ∀ H locs ls, jB G A s_.heap (sr (sr (sr I 26 (upd (I 26) 0 (nI cc))) 19 (w)) 27 (f), J, O) H locs → lv_has ls 5 [(4, .int (nI k)), (0, .ref (G.2.2.1 (11, 0, 0))), (1, .ref (G.2.2.1 (5, 0, m))), (2, .int wit), (3, .int own)] → W pg_ l_ ev_ ({ frames := 5, cells := 0, slots := 0, locals := 120 }) s_ mi_ ([.ref (G.2.2.1 (11, 0, 0)), .ref (G.2.2.1 (5, 0, m)), .int wit, .int own]).toArray below meth cd_ H locs 0 0 (jQv G A below [.ref (G.2.2.1 (11, 0, 0)), .ref (G.2.2.1 (5, 0, m)), .int wit, .int own] s_ (fun u => ∃ (x19 x27 x28 x29 : Nat → Int32) , foOK (I 0) m wit own nd cc x27 x28 x29 ∧ u = (sr (sr (sr (sr (sr I 26 (upd (I 26) 0 (nI cc))) 19 (x19)) 27 (x27)) 28 (x28)) 29 (x29), J, O))) (F0 mi_ 35 ls []) := by
    intro fu
    induction fu with
    | zero => intro w f k x hf; exact absurd hf (Nat.not_lt_zero _)
    | succ fu ih_35 =>
      intro w f k x hf_35 hk hw hf H locs ls hB hl
      refine lv_iload hx hb dX1_followAs_35 (lv_at hl 0 rfl) ?_
      refine lv_bipush (v := nI 8) hx hb dX1_followAs_37 (by decide) ?_
      refine jn_icmp_ge (tgt := 75) hx hb dX1_followAs_39 (by decide) (by omega) (by omega) (fun c_39 => ?_) (fun c_39 => ?_)
      · refine lv_aload_n hx hb dX1_followAs_75 rfl (lv_at hl 1 rfl) ?_
        refine lv_aload_n hx hb dX1_followAs_76 rfl (lv_at hl 1 rfl) ?_
        refine j_get (11, 0, 0) 2 (v := .int ((sr (sr (sr I 26 (upd (I 26) 0 (nI cc))) 19 (w)) 27 (f)) 26 0)) hC hB in_X1 lk_63 dX1_followAs_77 jk11 rfl rfl (by decide) rfl ?_
        refine j_eqi (x := (sr (sr (sr I 26 (upd (I 26) 0 (nI cc))) 19 (w)) 27 (f)) 26 0) (y := nI cc) ((sr_nj (show (26 : Nat) ≠ 27 by omega)).trans ((sr_nj (show (26 : Nat) ≠ 19 by omega)).trans (sr_sj.trans (pk_us)))) ?_
        refine lv_iconst (v := nI 0) hx hb dX1_followAs_80 (by decide) ?_
        refine j_cvv (11, 0, 0) [.int (nI cc), .int (nI 0)] hC hB hl.1 (c_X1_spread l_ G (sr (sr (sr I 26 (upd (I 26) 0 (nI cc))) 19 (w)) 27 (f)) J O cc (nI 0) (by omega) (by omega) ((sr_nj (show (0 : Nat) ≠ 27 by omega)).trans ((sr_nj (show (0 : Nat) ≠ 19 by omega)).trans ((sr_nj (show (0 : Nat) ≠ 26 by omega)).trans (hD)))) (hW)) (cwV 2 hts gX1_followAs_X1_spread rfl rfl rfl (by decide +kernel) ⟨by decide, by decide⟩) dX1_followAs_81 jk11 rfl rfl rfl rfl (Nat.le_of_ble_eq_true rfl) (fun u_81 H locs hp_81 hB => ?_)
        obtain rfl := hp_81
        try simp only [show (sr (sr (sr I 26 (upd (I 26) 0 (nI cc))) 19 (w)) 27 (f)) 0 = I 0 from (sr_ne (show (0 : Nat) ≠ 27 by omega)).trans ((sr_ne (show (0 : Nat) ≠ 19 by omega)).trans ((sr_ne (show (0 : Nat) ≠ 26 by omega)))), show (sr (sr (sr I 26 (upd (I 26) 0 (nI cc))) 19 (w)) 27 (f)) 27 = f from sr_self, show (sr (sr (sr I 26 (upd (I 26) 0 (nI cc))) 19 (w)) 27 (f)) 28 = I 28 from (sr_ne (show (28 : Nat) ≠ 27 by omega)).trans ((sr_ne (show (28 : Nat) ≠ 19 by omega)).trans ((sr_ne (show (28 : Nat) ≠ 26 by omega)))), show (sr (sr (sr I 26 (upd (I 26) 0 (nI cc))) 19 (w)) 27 (f)) 29 = I 29 from (sr_ne (show (29 : Nat) ≠ 27 by omega)).trans ((sr_ne (show (29 : Nat) ≠ 19 by omega)).trans ((sr_ne (show (29 : Nat) ≠ 26 by omega))))] at hB
        have hB : jB G A s_.heap (sr (sr (sr (sr (sr I 26 (upd (I 26) 0 (nI cc))) 19 (w)) 27 (f)) 28 ((spF (I 0) (f) (I 28) (I 29) (nI 0) cc nd).1)) 29 ((spF (I 0) (f) (I 28) (I 29) (nI 0) cc nd).2), J, O) H locs := hB
        exact j_vret hC hB dX1_followAs_84 (⟨w, f, _, _, by rw [hf, show k = 8 by omega]; exact foOK_of hW hcc, rfl⟩)
      · refine lv_aload_n hx hb dX1_followAs_42 rfl (lv_at hl 1 rfl) ?_
        refine j_get (11, 0, 0) 1 (v := .ref (G.2.2.1 (5, 19, 0))) hC hB in_X1 lk_14 dX1_followAs_43 jk11 rfl rfl (by decide) rfl ?_
        refine lv_iload hx hb dX1_followAs_46 (lv_at hl 0 rfl) ?_
        refine j_putN (5, 19, 0) 3 (u2 (sr (sr (sr I 26 (upd (I 26) 0 (nI cc))) 19 (w)) 27 (f)) 19 51 (nI k), J, O) (ty := .int) hC hB in_X3 tyX3_ok nmX3 ln_60 dX1_followAs_48 jk5w rfl rfl (by decide) rfl (by decide +kernel) rfl rfl (Nat.le_of_ble_eq_true rfl) (fun z hz hne => jw_fr z hz (by rw [(by decide : jof 19 51 = (5, 19, 0))]; exact hne)) (by simp [jw, u2]) (fun H locs hB => ?_)
        have hB : jB G A s_.heap (sr (sr (sr I 26 (upd (I 26) 0 (nI cc))) 27 (f)) 19 (upd (w) 51 (nI k)), J, O) H locs := by rw [show sr (sr (sr I 26 (upd (I 26) 0 (nI cc))) 27 (f)) 19 (upd (w) 51 (nI k)) = u2 (sr (sr (sr I 26 (upd (I 26) 0 (nI cc))) 19 (w)) 27 (f)) 19 51 (nI k) from by (rw [u2_eq, show (sr (sr (sr I 26 (upd (I 26) 0 (nI cc))) 19 (w)) 27 (f)) 19 = w from (sr_ne (show (19 : Nat) ≠ 27 by omega)).trans (sr_self)]; funext a_; by_cases ha_ : a_ = 19; (rw [ha_, sr_self, sr_self]); (rw [sr_ne ha_, sr_ne ha_]; simp only [sr, if_neg ha_]))]; exact hB
        refine lv_aload_n hx hb dX1_followAs_51 rfl (lv_at hl 1 rfl) ?_
        refine j_get (11, 0, 0) 3 (v := .ref (G.2.2.1 (21, 27, 0))) hC hB in_X1 lk_18 dX1_followAs_52 jk11 rfl rfl (by decide) rfl ?_
        refine lv_iload hx hb dX1_followAs_55 (lv_at hl 0 rfl) ?_
        refine lv_aload_n hx hb dX1_followAs_57 rfl (lv_at hl 1 rfl) ?_
        refine j_get (11, 0, 0) 0 (v := .ref (G.2.2.1 (1, 0, 0))) hC hB in_X1 lk_41 dX1_followAs_58 jk11 rfl rfl (by decide) rfl ?_
        refine lv_aload_n hx hb dX1_followAs_61 rfl (lv_at hl 1 rfl) ?_
        refine j_get (11, 0, 0) 1 (v := .ref (G.2.2.1 (5, 19, 0))) hC hB in_X1 lk_14 dX1_followAs_62 jk11 rfl rfl (by decide) rfl ?_
        refine j_cvi (1, 0, 0) [.ref (G.2.2.1 (5, 19, 0))] hC hB hl.1 (c_X4_doorsOpenTo l_ G (sr (sr (sr I 26 (upd (I 26) 0 (nI cc))) 27 (f)) 19 (upd (w) 51 (nI k))) J O 0 19 0 (by omega) (jk5w) (by omega) ((sr_nj (show (0 : Nat) ≠ 19 by omega)).trans ((sr_nj (show (0 : Nat) ≠ 27 by omega)).trans ((sr_nj (show (0 : Nat) ≠ 26 by omega)).trans (hD))))) (cwV 1 hts gX1_followAs_X4_doorsOpenTo rfl rfl rfl (by decide +kernel) ⟨by decide, by decide⟩) dX1_followAs_65 (jk1 (by omega)) rfl rfl rfl rfl (Nat.le_of_ble_eq_true rfl) (fun r_65 u_65 H locs hp_65 hB => ?_)
        obtain ⟨rfl, rfl⟩ := hp_65
        refine j_eqi (y := doF (I 0) (upd (w) 51 (nI k)) 0 nd) (rfl) ?_
        refine j_iSt 27 k hC hB dX1_followAs_68 (by decide) rfl (by simp only [lenI_27]; omega) (fun H locs hB => ?_)
        have hB : jB G A s_.heap (sr (sr (sr I 26 (upd (I 26) 0 (nI cc))) 19 (upd (w) 51 (nI k))) 27 (upd (f) k (doF (I 0) (upd (w) 51 (nI k)) 0 nd)), J, O) H locs := by rw [show sr (sr (sr I 26 (upd (I 26) 0 (nI cc))) 19 (upd (w) 51 (nI k))) 27 (upd (f) k (doF (I 0) (upd (w) 51 (nI k)) 0 nd)) = u2 (sr (sr (sr I 26 (upd (I 26) 0 (nI cc))) 27 (f)) 19 (upd (w) 51 (nI k))) 27 k (doF (I 0) (upd (w) 51 (nI k)) 0 nd) from by (rw [u2_eq, show (sr (sr (sr I 26 (upd (I 26) 0 (nI cc))) 27 (f)) 19 (upd (w) 51 (nI k))) 27 = f from (sr_ne (show (27 : Nat) ≠ 19 by omega)).trans (sr_self)]; funext a_; by_cases ha_ : a_ = 27; (rw [ha_, sr_self, sr_self]); (rw [sr_ne ha_, sr_ne ha_]; simp only [sr, if_neg ha_]))]; exact hB
        refine lv_iinc (v := nI (k + 1)) (lv' := [(4, .int (nI (k + 1))), (0, .ref (G.2.2.1 (11, 0, 0))), (1, .ref (G.2.2.1 (5, 0, m))), (2, .int wit), (3, .int own)]) hx hb dX1_followAs_69 hl (k := 0) rfl (jn_inc _ 1) (by decide) rfl (fun ls hl => ?_)
        refine lv_goto (tgt := 35) hx hb dX1_followAs_72 (by decide) ?_
        exact ih_35 (upd (w) 51 (nI k)) (upd (f) k (doF (I 0) (upd (w) 51 (nI k)) 0 nd)) (k + 1) (nI k) (by omega) (by omega) (by rw [hw, upd_upd]) (by rw [hw, upd_upd, hf]; exact fwR_step _ _ _ _ _) _ _ _ hB (lv_sub hl [0, 1, 2, 3, 4] rfl)
  exact lp_35 _ (wh0 (I 19) (I 0) m wit own) (I 27) 0 ((wh0 (I 19) (I 0) m wit own) 51) (Nat.lt_succ_self _) (by omega) ((upd_same _ _).symm) ((fwR_0 _ _ _ _).symm) _ _ _ (jB_cast2 hB (by first | exact (sr_id _ _).symm | (funext a_; simp +decide only [sr]; (repeat' split) <;> first | rfl | (exfalso; omega) | (subst_vars; rfl))) rfl) (lv_sub hl [0, 1, 2, 3, 4] rfl)

set_option maxHeartbeats 4000000 in
set_option maxRecDepth 100000 in
theorem c_X1_follow (l_ : Launch) (G : jG) (I : Nat → Nat → Int32) (J : Nat → Nat → Int64) (O : Nat → Nat → Nat) (m : Nat) (hm : m < 4) {cc : Nat} (hcc : cc < 8) (ecc : I 0 (51 + m) = nI cc) {nd : Nat} (hnd : nd ≤ 10) (hD : I 0 0 = nI nd) (hW : wfD (I 0) nd) : jMv l_ G yX1_follow wsX1_follow ({ frames := 6, cells := 0, slots := 0, locals := 144 }) [.ref (G.2.2.1 (11, 0, 0)), .ref (G.2.2.1 (5, 0, m))] (I, J, O) (fun u => ∃ (x19 x27 x28 x29 : Nat → Int32) , foOK (I 0) m (I 0 (63 + m)) (I 0 (7 + m)) nd cc x27 x28 x29 ∧ u = (sr (sr (sr (sr (sr I 26 (upd (I 26) 0 (nI cc))) 19 (x19)) 27 (x27)) 28 (x28)) 29 (x29), J, O)) := by
  refine jMv_of (cc := cX1_follow) (maxL := 2) (ret := none) (lv0 := [(0, .ref (G.2.2.1 (11, 0, 0))), (1, .ref (G.2.2.1 (5, 0, m)))]) (by decide) rfl (Nat.le_of_ble_eq_true rfl) rfl ?_
  intro pg_ ev_ s_ mi_ below meth cd_ A ls hC hB hl
  obtain ⟨hx, hb, hr, hml, hown, hts, hlocks, hK, hA⟩ := id hC
  have ln_45 := (by decide +kernel : Cond.fieldLinkNest RX1 45 "RiddlePrison$Man" "wit" "I" "RiddlePrison" ∈ nsW)
  have ln_49 := (by decide +kernel : Cond.fieldLinkNest RX1 49 "RiddlePrison$Man" "own" "I" "RiddlePrison" ∈ nsW)
  have in_X3 := (fun w h => List.mem_cons_of_mem _ (List.mem_append_left _ (List.mem_append_left _ (List.mem_append_left _ (List.mem_append_right _ h)))) : ∀ w ∈ wsX30, w ∈ wsX1_follow)
  refine lv_aload_n hx hb dX1_follow_0 rfl (lv_at hl 0 rfl) ?_
  refine lv_aload_n hx hb dX1_follow_1 rfl (lv_at hl 1 rfl) ?_
  refine lv_aload_n hx hb dX1_follow_2 rfl (lv_at hl 1 rfl) ?_
  refine j_getN (5, 0, m) 1 (v := .int (I 0 (63 + m))) hC hB in_X3 ln_45 dX1_follow_3 (jk5 (by omega) (by omega)) rfl rfl (by decide) rfl ?_
  refine lv_aload_n hx hb dX1_follow_6 rfl (lv_at hl 1 rfl) ?_
  refine j_getN (5, 0, m) 2 (v := .int (I 0 (7 + m))) hC hB in_X3 ln_49 dX1_follow_7 (jk5 (by omega) (by omega)) rfl rfl (by decide) rfl ?_
  refine j_cvv (11, 0, 0) [.ref (G.2.2.1 (5, 0, m)), .int ((I 0) (63 + m)), .int ((I 0) (7 + m))] hC hB hl.1 (c_X1_followAs l_ G I J O m ((I 0) (63 + m)) ((I 0) (7 + m)) (by omega) (by omega) (ecc) (by omega) (hD) (hW)) (cwV 3 hts gX1_follow_X1_followAs rfl rfl rfl (by decide +kernel) ⟨by decide, by decide⟩) dX1_follow_10 jk11 rfl rfl rfl rfl (Nat.le_of_ble_eq_true rfl) (fun u_10 H locs hp_10 hB => ?_)
  obtain ⟨x19_10, x27_10, x28_10, x29_10, hx_10, rfl⟩ := hp_10
  have hB : jB G A s_.heap (sr (sr (sr (sr (sr I 26 (upd (I 26) 0 (nI cc))) 19 (x19_10)) 27 (x27_10)) 28 (x28_10)) 29 (x29_10), J, O) H locs := hB
  exact j_vret hC hB dX1_follow_13 (⟨_, _, _, _, hx_10, rfl⟩)
