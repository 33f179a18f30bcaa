set_option maxHeartbeats 4000000 in
set_option maxRecDepth 100000 in
theorem c_X8_reached (l_ : Launch) (G : jG) (I : Nat → Nat → Int32) (J : Nat → Nat → Int64) (O : Nat → Nat → Nat)  : jMi l_ G yX8_reached wsX8_reached ({ frames := 0, cells := 0, slots := 0, locals := 0 }) [.ref (G.2.2.1 (20, 0, 0))] (I, J, O) (fun r u => r = rchF (I 43) 8 ∧ u = (I, J, O)) := by
  refine jMi_of (cc := cX8_reached) (maxL := 3) (ret := (some .int)) (lv0 := [(0, .ref (G.2.2.1 (20, 0, 0)))]) (by decide) rfl (Nat.le_of_ble_eq_true rfl) rfl ?_
  intro pg_ ev_ s_ mi_ below meth cd_ A ls hC hB hl
  obtain ⟨hx, hb, hr, hml, hown, hts, hlocks, hK, hA⟩ := id hC
  have lk_16 := hts (.fieldLink RX8 16 "RiddlePrisonModel" "steps" "[I") (by decide +kernel)
  have in_X8 := (fun w h => List.mem_cons_of_mem _ (List.mem_append_right _ h) : ∀ w ∈ wsX80, w ∈ wsX8_reached)
  refine lv_iconst (v := nI 0) hx hb dX8_reached_0 (by decide) ?_
  refine lv_istore_n (lv' := [(1, .int (nI 0)), (0, .ref (G.2.2.1 (20, 0, 0)))]) hx hb dX8_reached_1 rfl hl (by decide) rfl (fun ls hl => ?_)
  refine lv_iconst (v := nI 0) hx hb dX8_reached_2 (by decide) ?_
  refine lv_istore_n (lv' := [(2, .int (nI 0)), (1, .int (nI 0)), (0, .ref (G.2.2.1 (20, 0, 0)))]) hx hb dX8_reached_3 rfl hl (by decide) rfl (fun ls hl => ?_)
  have lp_4 : ∀ (fu : Nat) (set : Int32) (k : Nat), 8 - k < fu → (k ≤ 8) → (set = rchF (I 43) k) → ∀ H locs ls, jB G A s_.heap (I, J, O) H locs → lv_has ls 3 [(2, .int (nI k)), (1, .int set), (0, .ref (G.2.2.1 (20, 0, 0)))] → W pg_ l_ ev_ ({ frames := 0, cells := 0, slots := 0, locals := 0 }) s_ mi_ ([.ref (G.2.2.1 (20, 0, 0))]).toArray below meth cd_ H locs 0 0 (jQi G A below [.ref (G.2.2.1 (20, 0, 0))] s_ (fun r u => r = rchF (I 43) 8 ∧ u = (I, J, O))) (F0 mi_ 4 ls []) := by
    intro fu
    induction fu with
    | zero => intro set k hf; exact absurd hf (Nat.not_lt_zero _)
    | succ fu ih_4 =>
      intro set k hf_4 hk hs H locs ls hB hl
      refine lv_iload_n hx hb dX8_reached_4 rfl (lv_at hl 0 rfl) ?_
      refine lv_bipush (v := nI 8) hx hb dX8_reached_5 (by decide) ?_
      refine jn_icmp_ge (tgt := 37) hx hb dX8_reached_7 (by decide) (by omega) (by omega) (fun c_7 => ?_) (fun c_7 => ?_)
      · refine lv_iload_n hx hb dX8_reached_37 rfl (lv_at hl 1 rfl) ?_
        exact j_iret hC hB dX8_reached_38 (⟨by rw [hs, show k = 8 by omega], rfl⟩)
      · refine lv_iload_n hx hb dX8_reached_10 rfl (lv_at hl 1 rfl) ?_
        refine lv_aload_n hx hb dX8_reached_11 rfl (lv_at hl 2 rfl) ?_
        refine j_get (20, 0, 0) 4 (v := .ref (G.2.2.1 (21, 43, 0))) hC hB in_X8 lk_16 dX8_reached_12 jk20 rfl rfl (by decide) rfl ?_
        refine lv_iload_n hx hb dX8_reached_15 rfl (lv_at hl 0 rfl) ?_
        refine j_ild 43 k hC hB dX8_reached_16 (by decide) rfl (by simp only [lenI_43]; omega) ?_
        refine j_eqi (y := (I 43) k) rfl ?_
        refine lv_ldc (v := 1000000) hx hb hown (hts (.constant RX8 148 (1000000)) (by decide +kernel)) dX8_reached_17 ?_
        refine j_eqi (y := nI 1000000) rfl ?_
        refine lv_icmp_ge (tgt := 28) hx hb dX8_reached_19 (by decide) (fun c_19 => ?_) (fun c_19 => ?_)
        · refine lv_iconst (v := nI 0) hx hb dX8_reached_28 (by decide) ?_
          refine lv_ior hx hb dX8_reached_29 ?_
          refine lv_istore_n (lv' := [(1, .int (set ||| (nI 0))), (2, .int (nI k)), (0, .ref (G.2.2.1 (20, 0, 0)))]) hx hb dX8_reached_30 rfl hl (by decide) rfl (fun ls hl => ?_)
          refine lv_iinc (v := nI (k + 1)) (lv' := [(2, .int (nI (k + 1))), (1, .int (set ||| (nI 0))), (0, .ref (G.2.2.1 (20, 0, 0)))]) hx hb dX8_reached_31 hl (k := 1) rfl (jn_inc _ 1) (by decide) rfl (fun ls hl => ?_)
          refine lv_goto (tgt := 4) hx hb dX8_reached_34 (by decide) ?_
          exact ih_4 (set ||| (nI 0)) (k + 1) (by omega) (by omega) (by simp [rchF, bitI, hs, c_19]) _ _ _ hB (lv_sub hl [0, 1, 2] rfl)
        · refine lv_iconst (v := nI 1) hx hb dX8_reached_22 (by decide) ?_
          refine lv_iload_n hx hb dX8_reached_23 rfl (lv_at hl 0 rfl) ?_
          refine lv_ishl hx hb dX8_reached_24 ?_
          refine lv_goto (tgt := 29) hx hb dX8_reached_25 (by decide) ?_
          refine lv_ior hx hb dX8_reached_29 ?_
          refine lv_istore_n (lv' := [(1, .int (set ||| ((nI 1) <<< ((nI k) &&& 31)))), (2, .int (nI k)), (0, .ref (G.2.2.1 (20, 0, 0)))]) hx hb dX8_reached_30 rfl hl (by decide) rfl (fun ls hl => ?_)
          refine lv_iinc (v := nI (k + 1)) (lv' := [(2, .int (nI (k + 1))), (1, .int (set ||| ((nI 1) <<< ((nI k) &&& 31)))), (0, .ref (G.2.2.1 (20, 0, 0)))]) hx hb dX8_reached_31 hl (k := 1) rfl (jn_inc _ 1) (by decide) rfl (fun ls hl => ?_)
          refine lv_goto (tgt := 4) hx hb dX8_reached_34 (by decide) ?_
          exact ih_4 (set ||| ((nI 1) <<< ((nI k) &&& 31))) (k + 1) (by omega) (by omega) (by simp [rchF, bitI, hs, c_19]) _ _ _ hB (lv_sub hl [0, 1, 2] rfl)
  exact lp_4 _ (nI 0) 0 (Nat.lt_succ_self _) (by omega) (rfl) _ _ _ hB (lv_sub hl [0, 1, 2] rfl)

set_option maxHeartbeats 4000000 in
set_option maxRecDepth 100000 in
theorem c_X8_reachesBut (l_ : Launch) (G : jG) (I : Nat → Nat → Int32) (J : Nat → Nat → Int64) (O : Nat → Nat → Nat) (m cell : Nat) (but : Int32) (hm : m < 4) (hcell : cell < 8) {cc : Nat} (hcc : cc < 8) (ecc : I 41 (51 + m) = nI cc) {nd : Nat} (hnd : nd ≤ 10) (hD : I 41 0 = nI nd) (hW : wfD (I 41) nd) : jMi l_ G yX8_reachesBut wsX8_reachesBut ({ frames := 4, cells := 0, slots := 0, locals := 99 }) [.ref (G.2.2.1 (20, 0, 0)), .int (nI m), .int (nI cell), .int but] (I, J, O) (fun r u => r = b2 (rbB (I 41) m but cc nd cell) ∧ u = (sr (sr (sr I 40 (upd (I 40) 1 but)) 43 ((lsF (I 41) (I 43) (I 44) m but cc nd).1)) 44 ((lsF (I 41) (I 43) (I 44) m but cc nd).2), J, O)) := by
  refine jMi_of (cc := cX8_reachesBut) (maxL := 4) (ret := (some .boolean)) (lv0 := [(0, .ref (G.2.2.1 (20, 0, 0))), (1, .int (nI m)), (2, .int (nI cell)), (3, .int but)]) (by decide) rfl (Nat.le_of_ble_eq_true rfl) rfl ?_
  intro pg_ ev_ s_ mi_ below meth cd_ A ls hC hB hl
  obtain ⟨hx, hb, hr, hml, hown, hts, hlocks, hK, hA⟩ := id hC
  have lk_149 := hts (.fieldLink RX8 149 "RiddlePrisonModel" "shut" "I") (by decide +kernel)
  have lk_7 := hts (.fieldLink RX8 7 "RiddlePrisonModel" "now" "[I") (by decide +kernel)
  have lk_16 := hts (.fieldLink RX8 16 "RiddlePrisonModel" "steps" "[I") (by decide +kernel)
  have in_X8 := (fun w h => List.mem_cons_of_mem _ (List.mem_append_right _ h) : ∀ w ∈ wsX80, w ∈ wsX8_reachesBut)
  refine lv_aload_n hx hb dX8_reachesBut_0 rfl (lv_at hl 0 rfl) ?_
  refine lv_iload_n hx hb dX8_reachesBut_1 rfl (lv_at hl 3 rfl) ?_
  refine j_put (20, 0, 0) 3 (u2 I 40 1 but, J, O) (ty := .int) hC hB in_X8 tyX8_ok nmX8 lk_149 dX8_reachesBut_2 jk20 rfl rfl (by decide) rfl (by decide +kernel) rfl rfl (Nat.le_of_ble_eq_true rfl) (fun z hz hne => jw_fr z hz hne) (rfl) (fun H locs hB => ?_)
  have hB : jB G A s_.heap (sr I 40 (upd (I 40) 1 but), J, O) H locs := by rw [show sr I 40 (upd (I 40) 1 but) = u2 I 40 1 but from (u2_eq _ _ _ _).symm]; exact hB
  refine lv_aload_n hx hb dX8_reachesBut_5 rfl (lv_at hl 0 rfl) ?_
  refine lv_iload_n hx hb dX8_reachesBut_6 rfl (lv_at hl 1 rfl) ?_
  refine lv_aload_n hx hb dX8_reachesBut_7 rfl (lv_at hl 0 rfl) ?_
  refine j_get (20, 0, 0) 0 (v := .ref (G.2.2.1 (21, 41, 0))) hC hB in_X8 lk_7 dX8_reachesBut_8 jk20 rfl rfl (by decide) rfl ?_
  refine lv_bipush (v := nI 51) hx hb dX8_reachesBut_11 (by decide) ?_
  refine lv_iload_n hx hb dX8_reachesBut_13 rfl (lv_at hl 1 rfl) ?_
  refine jn_iadd hx hb dX8_reachesBut_14 ?_
  refine j_ild 41 (51 + m) hC hB dX8_reachesBut_15 (by decide) rfl (by simp only [lenI_41]; omega) ?_
  refine j_eqi (x := (sr I 40 (upd (I 40) 1 but)) 41 (51 + m)) (y := nI cc) ((congrFun (sr_ne (show (41 : Nat) ≠ 40 by omega)) _).trans (ecc)) ?_
  refine j_cvv (20, 0, 0) [.int (nI m), .int (nI cc)] hC hB hl.1 (c_X8_laySteps l_ G (sr I 40 (upd (I 40) 1 but)) J O m cc (by omega) (by omega) (by omega) ((congrFun (sr_ne (show (41 : Nat) ≠ 40 by omega)) _).trans (hD)) (hW) ((congrFun sr_self _).trans (pk_us))) (cwV 2 hts gX8_reachesBut_X8_laySteps rfl rfl rfl (by decide +kernel) ⟨by decide, by decide⟩) dX8_reachesBut_16 jk20 rfl rfl rfl rfl (Nat.le_of_ble_eq_true rfl) (fun u_16 H locs hp_16 hB => ?_)
  obtain rfl := hp_16
  have hB : jB G A s_.heap (sr (sr (sr I 40 (upd (I 40) 1 but)) 43 ((lsF (I 41) (I 43) (I 44) m but cc nd).1)) 44 ((lsF (I 41) (I 43) (I 44) m but cc nd).2), J, O) H locs := hB
  refine lv_aload_n hx hb dX8_reachesBut_19 rfl (lv_at hl 0 rfl) ?_
  refine j_get (20, 0, 0) 4 (v := .ref (G.2.2.1 (21, 43, 0))) hC hB in_X8 lk_16 dX8_reachesBut_20 jk20 rfl rfl (by decide) rfl ?_
  refine lv_iload_n hx hb dX8_reachesBut_23 rfl (lv_at hl 2 rfl) ?_
  refine j_ild 43 cell hC hB dX8_reachesBut_24 (by decide) rfl (by simp only [lenI_43]; omega) ?_
  refine j_eqi (x := (sr (sr (sr I 40 (upd (I 40) 1 but)) 43 ((lsF (I 41) (I 43) (I 44) m but cc nd).1)) 44 ((lsF (I 41) (I 43) (I 44) m but cc nd).2)) 43 cell) (y := ((lsF (I 41) (I 43) (I 44) m but cc nd).1) cell) ((congrFun (sr_ne (show (43 : Nat) ≠ 44 by omega)) _).trans ((congrFun sr_self _))) ?_
  refine lv_ldc (v := 1000000) hx hb hown (hts (.constant RX8 148 (1000000)) (by decide +kernel)) dX8_reachesBut_25 ?_
  refine j_eqi (y := nI 1000000) rfl ?_
  refine lv_icmp_ge (tgt := 34) hx hb dX8_reachesBut_27 (by decide) (fun c_27 => ?_) (fun c_27 => ?_)
  · refine lv_iconst (v := nI 0) hx hb dX8_reachesBut_34 (by decide) ?_
    exact j_zret hC hB dX8_reachesBut_35 (by decide) (⟨by have hz := ((lsF_Z hW (I 43) (I 44) m but cc) cell hcell).1; rw [hz] at c_27; simp [rbB, b2, c_27], rfl⟩)
  · refine lv_iconst (v := nI 1) hx hb dX8_reachesBut_30 (by decide) ?_
    refine lv_goto (tgt := 35) hx hb dX8_reachesBut_31 (by decide) ?_
    exact j_zret hC hB dX8_reachesBut_35 (by decide) (⟨by have hz := ((lsF_Z hW (I 43) (I 44) m but cc) cell hcell).1; rw [hz] at c_27; simp [rbB, b2, c_27], rfl⟩)

set_option maxHeartbeats 4000000 in
set_option maxRecDepth 100000 in
theorem c_X8_bits (l_ : Launch) (G : jG) (I : Nat → Nat → Int32) (J : Nat → Nat → Int64) (O : Nat → Nat → Nat) (x : Int32) : jMi l_ G yX8_bits wsX8_bits ({ frames := 0, cells := 0, slots := 0, locals := 0 }) [.int x] (I, J, O) (fun r u => r = bitsF x ∧ u = (I, J, O)) := by
  refine jMi_of (cc := cX8_bits) (maxL := 3) (ret := (some .int)) (lv0 := [(0, .int x)]) (by decide) rfl (Nat.le_of_ble_eq_true rfl) rfl ?_
  intro pg_ ev_ s_ mi_ below meth cd_ A ls hC hB hl
  obtain ⟨hx, hb, hr, hml, hown, hts, hlocks, hK, hA⟩ := id hC
  refine lv_iconst (v := nI 0) hx hb dX8_bits_0 (by decide) ?_
  refine lv_istore_n (lv' := [(1, .int (nI 0)), (0, .int x)]) hx hb dX8_bits_1 rfl hl (by decide) rfl (fun ls hl => ?_)
  refine lv_iload_n hx hb dX8_bits_2 rfl (lv_at hl 1 rfl) ?_
  refine lv_istore_n (lv' := [(2, .int x), (1, .int (nI 0)), (0, .int x)]) hx hb dX8_bits_3 rfl hl (by decide) rfl (fun ls hl => ?_)
  have lp_4 : ∀ (fu : Nat) (n : Int32) (rest : Int32) (f : Nat) (r : Nat), r < fu → (r < 2 ^ f) → (f ≤ 31) → (rest = nI r ∨ (rest < 0 ∧ r = 0)) → (pcF f r n = bitsF x) → ∀ H locs ls, jB G A s_.heap (I, J, O) H locs → lv_has ls 3 [(2, .int rest), (1, .int n), (0, .int x)] → W pg_ l_ ev_ ({ frames := 0, cells := 0, slots := 0, locals := 0 }) s_ mi_ ([.int x]).toArray below meth cd_ H locs 0 0 (jQi G A below [.int x] s_ (fun r u => r = bitsF x ∧ u = (I, J, O))) (F0 mi_ 4 ls []) := by
    intro fu
    induction fu with
    | zero => intro n rest f r hf; exact absurd hf (Nat.not_lt_zero _)
    | succ fu ih_4 =>
      intro n rest f r hf_4 hr hf he hn H locs ls hB hl
      refine lv_iload_n hx hb dX8_bits_4 rfl (lv_at hl 0 rfl) ?_
      refine lv_if_le (tgt := 21) hx hb dX8_bits_5 (by decide) (fun c_5 => ?_) (fun c_5 => ?_)
      · refine lv_iload_n hx hb dX8_bits_21 rfl (lv_at hl 1 rfl) ?_
        exact j_iret hC hB dX8_bits_22 (⟨by rw [← hn, zero_of hr hf he c_5, pcF_0], rfl⟩)
      · refine lv_iload_n hx hb dX8_bits_8 rfl (lv_at hl 1 rfl) ?_
        refine lv_iload_n hx hb dX8_bits_9 rfl (lv_at hl 0 rfl) ?_
        refine lv_iconst (v := nI 1) hx hb dX8_bits_10 (by decide) ?_
        refine lv_iand hx hb dX8_bits_11 ?_
        refine lv_iadd hx hb dX8_bits_12 ?_
        refine lv_istore_n (lv' := [(1, .int (n + (rest &&& (nI 1)))), (2, .int rest), (0, .int x)]) hx hb dX8_bits_13 rfl hl (by decide) rfl (fun ls hl => ?_)
        refine lv_iload_n hx hb dX8_bits_14 rfl (lv_at hl 1 rfl) ?_
        refine lv_iconst (v := nI 1) hx hb dX8_bits_15 (by decide) ?_
        refine lv_ishr hx hb dX8_bits_16 ?_
        refine lv_istore_n (lv' := [(2, .int (rest >>> ((nI 1) &&& 31))), (1, .int (n + (rest &&& (nI 1)))), (0, .int x)]) hx hb dX8_bits_17 rfl hl (by decide) rfl (fun ls hl => ?_)
        refine lv_goto (tgt := 4) hx hb dX8_bits_18 (by decide) ?_
        exact ih_4 (n + (rest &&& (nI 1))) (rest >>> ((nI 1) &&& 31)) (f - 1) (r / 2) (by have := pos_of he c_5; omega) (half_lt (pos_of he c_5) hr) (by omega) (Or.inl (half_eq (pos_of he c_5) hr hf he)) (pcF_step (pos_of he c_5) hr he hn) _ _ _ hB (lv_sub hl [0, 1, 2] rfl)
  exact lp_4 _ (nI 0) x 31 x.toNatClampNeg (Nat.lt_succ_self _) (toNat_lt x) (by omega) (toNat_or x) (rfl) _ _ _ hB (lv_sub hl [0, 1, 2] rfl)
