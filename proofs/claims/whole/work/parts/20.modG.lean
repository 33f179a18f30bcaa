set_option maxHeartbeats 4000000 in
set_option maxRecDepth 100000 in
theorem c_X8_isOne (l_ : Launch) (G : jG) (I : Nat → Nat → Int32) (J : Nat → Nat → Int64) (O : Nat → Nat → Nat) (m fr to_ : Nat) (but : Int32) (hm : m < 4) (hfr : fr < 8) (hto : to_ < 8) {nd : Nat} (hnd : nd ≤ 10) (hD : I 41 0 = nI nd) (hW : wfD (I 41) nd) : jMi l_ G yX8_isOne wsX8_isOne ({ frames := 3, cells := 0, slots := 0, locals := 73 }) [.ref (G.2.2.1 (20, 0, 0)), .int (nI m), .int (nI fr), .int (nI to_), .int but] (I, J, O) (fun r u => r = b2 (oneB (I 41) m fr to_ but nd) ∧ u = (I, J, O)) := by
  refine jMi_of (cc := cX8_isOne) (maxL := 7) (ret := (some .boolean)) (lv0 := [(0, .ref (G.2.2.1 (20, 0, 0))), (1, .int (nI m)), (2, .int (nI fr)), (3, .int (nI to_)), (4, .int but)]) (by decide) rfl (Nat.le_of_ble_eq_true rfl) rfl ?_
  intro pg_ ev_ s_ mi_ below meth cd_ A ls hC hB hl
  obtain ⟨hx, hb, hr, hml, hown, hts, hlocks, hK, hA⟩ := id hC
  have lk_7 := hts (.fieldLink RX8 7 "RiddlePrisonModel" "now" "[I") (by decide +kernel)
  have in_X8 := (fun w h => List.mem_cons_of_mem _ (List.mem_append_right _ h) : ∀ w ∈ wsX80, w ∈ wsX8_isOne)
  refine lv_iconst (v := nI 0) hx hb dX8_isOne_0 (by decide) ?_
  refine lv_istore (lv' := [(5, .int (nI 0)), (0, .ref (G.2.2.1 (20, 0, 0))), (1, .int (nI m)), (2, .int (nI fr)), (3, .int (nI to_)), (4, .int but)]) hx hb dX8_isOne_1 hl (by decide) rfl (fun ls hl => ?_)
  refine lv_iconst (v := nI 0) hx hb dX8_isOne_3 (by decide) ?_
  refine lv_istore (lv' := [(6, .int (nI 0)), (5, .int (nI 0)), (0, .ref (G.2.2.1 (20, 0, 0))), (1, .int (nI m)), (2, .int (nI fr)), (3, .int (nI to_)), (4, .int but)]) hx hb dX8_isOne_4 hl (by decide) rfl (fun ls hl => ?_)
  have lp_6 : ∀ (fu : Nat) (is_ : Bool) (d : Nat), nd - d < fu → (d ≤ nd) → (is_ = it (anyS (oneP (I 41) m fr to_ but)) d false) → ∀ H locs ls, jB G A s_.heap (I, J, O) H locs → lv_has ls 7 [(6, .int (nI d)), (5, .int (b2 is_)), (0, .ref (G.2.2.1 (20, 0, 0))), (1, .int (nI m)), (2, .int (nI fr)), (3, .int (nI to_)), (4, .int but)] → W pg_ l_ ev_ ({ frames := 3, cells := 0, slots := 0, locals := 73 }) s_ mi_ ([.ref (G.2.2.1 (20, 0, 0)), .int (nI m), .int (nI fr), .int (nI to_), .int but]).toArray below meth cd_ H locs 0 0 (jQi G A below [.ref (G.2.2.1 (20, 0, 0)), .int (nI m), .int (nI fr), .int (nI to_), .int but] s_ (fun r u => r = b2 (oneB (I 41) m fr to_ but nd) ∧ u = (I, J, O))) (F0 mi_ 6 ls []) := by
    intro fu
    induction fu with
    | zero => intro is_ d hf; exact absurd hf (Nat.not_lt_zero _)
    | succ fu ih_6 =>
      intro is_ d hf_6 hd hb_ H locs ls hB hl
      refine lv_iload hx hb dX8_isOne_6 (lv_at hl 0 rfl) ?_
      refine lv_aload_n hx hb dX8_isOne_8 rfl (lv_at hl 2 rfl) ?_
      refine j_get (20, 0, 0) 0 (v := .ref (G.2.2.1 (21, 41, 0))) hC hB in_X8 lk_7 dX8_isOne_9 jk20 rfl rfl (by decide) rfl ?_
      refine lv_iconst (v := nI 0) hx hb dX8_isOne_12 (by decide) ?_
      refine j_ild 41 0 hC hB dX8_isOne_13 (by decide) rfl (by simp only [lenI_41]; omega) ?_
      refine j_eqi (x := I 41 0) (y := nI nd) (hD) ?_
      refine jn_icmp_ge (tgt := 67) hx hb dX8_isOne_14 (by decide) (by omega) (by omega) (fun c_14 => ?_) (fun c_14 => ?_)
      · refine lv_iload hx hb dX8_isOne_67 (lv_at hl 1 rfl) ?_
        exact j_zret hC hB dX8_isOne_69 (b2_01 _) (⟨by rw [hb_, show d = nd by omega]; rfl, rfl⟩)
      · refine lv_iload hx hb dX8_isOne_17 (lv_at hl 1 rfl) ?_
        refine jb_if_ne (tgt := 67) hx hb dX8_isOne_19 (by decide) (fun c_19 => ?_) (fun c_19 => ?_)
        · refine lv_iload hx hb dX8_isOne_67 (lv_at hl 1 rfl) ?_
          exact j_zret hC hB dX8_isOne_69 (b2_01 _) (⟨by rw [c_19]; rw [c_19] at hb_; exact congrArg b2 (any_stop hd hb_.symm).symm, rfl⟩)
        · refine lv_iload hx hb dX8_isOne_22 (lv_at hl 6 rfl) ?_
          refine lv_iload hx hb dX8_isOne_24 (lv_at hl 0 rfl) ?_
          refine j_csi [.int but, .int (nI d)] hC hB hl.1 (c_X8_has l_ G I J O but d) (va_cwS 2 hts gX8_isOne_X8_has rfl rfl rfl (by decide +kernel) ⟨by decide, by decide⟩) dX8_isOne_26 rfl rfl (Nat.le_of_ble_eq_true rfl) (fun r_26 u_26 H locs hp_26 hB => ?_)
          obtain ⟨rfl, rfl⟩ := hp_26
          refine jb_if_ne (tgt := 58) hx hb dX8_isOne_29 (by decide) (fun c_29 => ?_) (fun c_29 => ?_)
          · refine lv_iconst (v := nI 0) hx hb dX8_isOne_58 (by decide) ?_
            refine lv_istore (lv' := [(5, .int (nI 0)), (6, .int (nI d)), (0, .ref (G.2.2.1 (20, 0, 0))), (1, .int (nI m)), (2, .int (nI fr)), (3, .int (nI to_)), (4, .int but)]) hx hb dX8_isOne_59 hl (by decide) rfl (fun ls hl => ?_)
            refine lv_iinc (v := nI (d + 1)) (lv' := [(6, .int (nI (d + 1))), (5, .int (nI 0)), (0, .ref (G.2.2.1 (20, 0, 0))), (1, .int (nI m)), (2, .int (nI fr)), (3, .int (nI to_)), (4, .int but)]) hx hb dX8_isOne_61 hl (k := 1) rfl (jn_inc _ 1) (by decide) rfl (fun ls hl => ?_)
            refine lv_goto (tgt := 6) hx hb dX8_isOne_64 (by decide) ?_
            exact ih_6 false (d + 1) (by omega) (by omega) (by show _ = anyS _ _ (it _ _ _); rw [← hb_]; simp [anyS, oneP, c_19, c_29]) _ _ _ hB (lv_sub hl [0, 1, 2, 3, 4, 5, 6] rfl)
          · refine lv_aload_n hx hb dX8_isOne_32 rfl (lv_at hl 2 rfl) ?_
            refine lv_iload_n hx hb dX8_isOne_33 rfl (lv_at hl 3 rfl) ?_
            refine lv_iload hx hb dX8_isOne_34 (lv_at hl 0 rfl) ?_
            refine lv_iload_n hx hb dX8_isOne_36 rfl (lv_at hl 4 rfl) ?_
            refine j_cvi (20, 0, 0) [.int (nI m), .int (nI d), .int (nI fr)] hC hB hl.1 (c_X8_passes l_ G I J O m d (nI fr) (by omega) (by omega)) (cwV 3 hts gX8_isOne_X8_passes rfl rfl rfl (by decide +kernel) ⟨by decide, by decide⟩) dX8_isOne_37 jk20 rfl rfl rfl rfl (Nat.le_of_ble_eq_true rfl) (fun r_37 u_37 H locs hp_37 hB => ?_)
            obtain ⟨rfl, rfl⟩ := hp_37
            refine jb_if_eq (tgt := 58) hx hb dX8_isOne_40 (by decide) (fun c_40 => ?_) (fun c_40 => ?_)
            · refine lv_iconst (v := nI 0) hx hb dX8_isOne_58 (by decide) ?_
              refine lv_istore (lv' := [(5, .int (nI 0)), (6, .int (nI d)), (0, .ref (G.2.2.1 (20, 0, 0))), (1, .int (nI m)), (2, .int (nI fr)), (3, .int (nI to_)), (4, .int but)]) hx hb dX8_isOne_59 hl (by decide) rfl (fun ls hl => ?_)
              refine lv_iinc (v := nI (d + 1)) (lv' := [(6, .int (nI (d + 1))), (5, .int (nI 0)), (0, .ref (G.2.2.1 (20, 0, 0))), (1, .int (nI m)), (2, .int (nI fr)), (3, .int (nI to_)), (4, .int but)]) hx hb dX8_isOne_61 hl (k := 1) rfl (jn_inc _ 1) (by decide) rfl (fun ls hl => ?_)
              refine lv_goto (tgt := 6) hx hb dX8_isOne_64 (by decide) ?_
              exact ih_6 false (d + 1) (by omega) (by omega) (by show _ = anyS _ _ (it _ _ _); rw [← hb_]; simp [anyS, oneP, c_19, c_29, c_40]) _ _ _ hB (lv_sub hl [0, 1, 2, 3, 4, 5, 6] rfl)
            · refine lv_aload_n hx hb dX8_isOne_43 rfl (lv_at hl 2 rfl) ?_
              refine lv_iload hx hb dX8_isOne_44 (lv_at hl 0 rfl) ?_
              refine lv_iload_n hx hb dX8_isOne_46 rfl (lv_at hl 4 rfl) ?_
              refine j_cvi (20, 0, 0) [.int (nI d), .int (nI fr)] hC hB hl.1 (c_X8_behind l_ G I J O d (nI fr) (by omega)) (cwV 2 hts gX8_isOne_X8_behind rfl rfl rfl (by decide +kernel) ⟨by decide, by decide⟩) dX8_isOne_47 jk20 rfl rfl rfl rfl (Nat.le_of_ble_eq_true rfl) (fun r_47 u_47 H locs hp_47 hB => ?_)
              obtain ⟨rfl, rfl⟩ := hp_47
              refine lv_iload_n hx hb dX8_isOne_50 rfl (lv_at hl 5 rfl) ?_
              refine lv_icmp_ne (tgt := 58) hx hb dX8_isOne_51 (by decide) (fun c_51 => ?_) (fun c_51 => ?_)
              · refine lv_iconst (v := nI 0) hx hb dX8_isOne_58 (by decide) ?_
                refine lv_istore (lv' := [(5, .int (nI 0)), (6, .int (nI d)), (0, .ref (G.2.2.1 (20, 0, 0))), (1, .int (nI m)), (2, .int (nI fr)), (3, .int (nI to_)), (4, .int but)]) hx hb dX8_isOne_59 hl (by decide) rfl (fun ls hl => ?_)
                refine lv_iinc (v := nI (d + 1)) (lv' := [(6, .int (nI (d + 1))), (5, .int (nI 0)), (0, .ref (G.2.2.1 (20, 0, 0))), (1, .int (nI m)), (2, .int (nI fr)), (3, .int (nI to_)), (4, .int but)]) hx hb dX8_isOne_61 hl (k := 1) rfl (jn_inc _ 1) (by decide) rfl (fun ls hl => ?_)
                refine lv_goto (tgt := 6) hx hb dX8_isOne_64 (by decide) ?_
                exact ih_6 false (d + 1) (by omega) (by omega) (by show _ = anyS _ _ (it _ _ _); rw [← hb_]; simp [anyS, oneP, c_19, c_29, c_40, c_51]) _ _ _ hB (lv_sub hl [0, 1, 2, 3, 4, 5, 6] rfl)
              · refine lv_iconst (v := nI 1) hx hb dX8_isOne_54 (by decide) ?_
                refine lv_goto (tgt := 59) hx hb dX8_isOne_55 (by decide) ?_
                refine lv_istore (lv' := [(5, .int (nI 1)), (6, .int (nI d)), (0, .ref (G.2.2.1 (20, 0, 0))), (1, .int (nI m)), (2, .int (nI fr)), (3, .int (nI to_)), (4, .int but)]) hx hb dX8_isOne_59 hl (by decide) rfl (fun ls hl => ?_)
                refine lv_iinc (v := nI (d + 1)) (lv' := [(6, .int (nI (d + 1))), (5, .int (nI 1)), (0, .ref (G.2.2.1 (20, 0, 0))), (1, .int (nI m)), (2, .int (nI fr)), (3, .int (nI to_)), (4, .int but)]) hx hb dX8_isOne_61 hl (k := 1) rfl (jn_inc _ 1) (by decide) rfl (fun ls hl => ?_)
                refine lv_goto (tgt := 6) hx hb dX8_isOne_64 (by decide) ?_
                exact ih_6 true (d + 1) (by omega) (by omega) (by show _ = anyS _ _ (it _ _ _); rw [← hb_]; simp [anyS, oneP, c_19, c_29, c_40, eq_true c_51]) _ _ _ hB (lv_sub hl [0, 1, 2, 3, 4, 5, 6] rfl)
  exact lp_6 _ false 0 (Nat.lt_succ_self _) (by omega) (rfl) _ _ _ hB (lv_sub hl [0, 1, 2, 3, 4, 5, 6] rfl)

set_option maxHeartbeats 4000000 in
set_option maxRecDepth 100000 in
theorem c_X8_isTwo (l_ : Launch) (G : jG) (I : Nat → Nat → Int32) (J : Nat → Nat → Int64) (O : Nat → Nat → Nat) (m fr to_ : Nat) (but : Int32) (hm : m < 4) (hfr : fr < 8) (hto : to_ < 8) {nd : Nat} (hnd : nd ≤ 10) (hD : I 41 0 = nI nd) (hW : wfD (I 41) nd) : jMi l_ G yX8_isTwo wsX8_isTwo ({ frames := 4, cells := 0, slots := 0, locals := 99 }) [.ref (G.2.2.1 (20, 0, 0)), .int (nI m), .int (nI fr), .int (nI to_), .int but] (I, J, O) (fun r u => r = b2 (twoB (I 41) m fr to_ but nd) ∧ u = (I, J, O)) := by
  refine jMi_of (cc := cX8_isTwo) (maxL := 10) (ret := (some .boolean)) (lv0 := [(0, .ref (G.2.2.1 (20, 0, 0))), (1, .int (nI m)), (2, .int (nI fr)), (3, .int (nI to_)), (4, .int but)]) (by decide) rfl (Nat.le_of_ble_eq_true rfl) rfl ?_
  intro pg_ ev_ s_ mi_ below meth cd_ A ls hC hB hl
  obtain ⟨hx, hb, hr, hml, hown, hts, hlocks, hK, hA⟩ := id hC
  have lk_7 := hts (.fieldLink RX8 7 "RiddlePrisonModel" "now" "[I") (by decide +kernel)
  have in_X8 := (fun w h => List.mem_cons_of_mem _ (List.mem_append_right _ h) : ∀ w ∈ wsX80, w ∈ wsX8_isTwo)
  refine lv_iconst (v := nI 0) hx hb dX8_isTwo_0 (by decide) ?_
  refine lv_istore (lv' := [(5, .int (nI 0)), (0, .ref (G.2.2.1 (20, 0, 0))), (1, .int (nI m)), (2, .int (nI fr)), (3, .int (nI to_)), (4, .int but)]) hx hb dX8_isTwo_1 hl (by decide) rfl (fun ls hl => ?_)
  refine lv_iconst (v := nI 0) hx hb dX8_isTwo_3 (by decide) ?_
  refine lv_istore (lv' := [(6, .int (nI 0)), (5, .int (nI 0)), (0, .ref (G.2.2.1 (20, 0, 0))), (1, .int (nI m)), (2, .int (nI fr)), (3, .int (nI to_)), (4, .int but)]) hx hb dX8_isTwo_4 hl (by decide) rfl (fun ls hl => ?_)
  have lp_6 : ∀ (fu : Nat) (is_ : Bool) (d : Nat), nd - d < fu → (d ≤ nd) → (is_ = it (anyS (twoP (I 41) m fr to_ but nd)) d false) → ∀ H locs ls, jB G A s_.heap (I, J, O) H locs → lv_has ls 10 [(6, .int (nI d)), (5, .int (b2 is_)), (0, .ref (G.2.2.1 (20, 0, 0))), (1, .int (nI m)), (2, .int (nI fr)), (3, .int (nI to_)), (4, .int but)] → W pg_ l_ ev_ ({ frames := 4, cells := 0, slots := 0, locals := 99 }) s_ mi_ ([.ref (G.2.2.1 (20, 0, 0)), .int (nI m), .int (nI fr), .int (nI to_), .int but]).toArray below meth cd_ H locs 0 0 (jQi G A below [.ref (G.2.2.1 (20, 0, 0)), .int (nI m), .int (nI fr), .int (nI to_), .int but] s_ (fun r u => r = b2 (twoB (I 41) m fr to_ but nd) ∧ u = (I, J, O))) (F0 mi_ 6 ls []) := by
    intro fu
    induction fu with
    | zero => intro is_ d hf; exact absurd hf (Nat.not_lt_zero _)
    | succ fu ih_6 =>
      intro is_ d hf_6 hd hb_ H locs ls hB hl
      refine lv_iload hx hb dX8_isTwo_6 (lv_at hl 0 rfl) ?_
      refine lv_aload_n hx hb dX8_isTwo_8 rfl (lv_at hl 2 rfl) ?_
      refine j_get (20, 0, 0) 0 (v := .ref (G.2.2.1 (21, 41, 0))) hC hB in_X8 lk_7 dX8_isTwo_9 jk20 rfl rfl (by decide) rfl ?_
      refine lv_iconst (v := nI 0) hx hb dX8_isTwo_12 (by decide) ?_
      refine j_ild 41 0 hC hB dX8_isTwo_13 (by decide) rfl (by simp only [lenI_41]; omega) ?_
      refine j_eqi (x := I 41 0) (y := nI nd) (hD) ?_
      refine jn_icmp_ge (tgt := 113) hx hb dX8_isTwo_14 (by decide) (by omega) (by omega) (fun c_14 => ?_) (fun c_14 => ?_)
      · refine lv_iload hx hb dX8_isTwo_113 (lv_at hl 1 rfl) ?_
        exact j_zret hC hB dX8_isTwo_115 (b2_01 _) (⟨by rw [hb_, show d = nd by omega]; rfl, rfl⟩)
      · refine lv_iload hx hb dX8_isTwo_17 (lv_at hl 1 rfl) ?_
        refine jb_if_ne (tgt := 113) hx hb dX8_isTwo_19 (by decide) (fun c_19 => ?_) (fun c_19 => ?_)
        · refine lv_iload hx hb dX8_isTwo_113 (lv_at hl 1 rfl) ?_
          exact j_zret hC hB dX8_isTwo_115 (b2_01 _) (⟨by rw [c_19]; rw [c_19] at hb_; exact congrArg b2 (any_stop hd hb_.symm).symm, rfl⟩)
        · refine lv_iload hx hb dX8_isTwo_22 (lv_at hl 6 rfl) ?_
          refine lv_iload hx hb dX8_isTwo_24 (lv_at hl 0 rfl) ?_
          refine j_csi [.int but, .int (nI d)] hC hB hl.1 (c_X8_has l_ G I J O but d) (va_cwS 2 hts gX8_isTwo_X8_has rfl rfl rfl (by decide +kernel) ⟨by decide, by decide⟩) dX8_isTwo_26 rfl rfl (Nat.le_of_ble_eq_true rfl) (fun r_26 u_26 H locs hp_26 hB => ?_)
          obtain ⟨rfl, rfl⟩ := hp_26
          refine jb_if_ne (tgt := 107) hx hb dX8_isTwo_29 (by decide) (fun c_29 => ?_) (fun c_29 => ?_)
          · refine lv_iinc (v := nI (d + 1)) (lv' := [(6, .int (nI (d + 1))), (5, .int (b2 is_)), (0, .ref (G.2.2.1 (20, 0, 0))), (1, .int (nI m)), (2, .int (nI fr)), (3, .int (nI to_)), (4, .int but)]) hx hb dX8_isTwo_107 hl (k := 0) rfl (jn_inc _ 1) (by decide) rfl (fun ls hl => ?_)
            refine lv_goto (tgt := 6) hx hb dX8_isTwo_110 (by decide) ?_
            exact ih_6 is_ (d + 1) (by omega) (by omega) (by show _ = anyS _ _ (it _ _ _); rw [← hb_]; simp [anyS, twoP, c_19, c_29]) _ _ _ hB (lv_sub hl [0, 1, 2, 3, 4, 5, 6] rfl)
          · refine lv_aload_n hx hb dX8_isTwo_32 rfl (lv_at hl 2 rfl) ?_
            refine lv_iload_n hx hb dX8_isTwo_33 rfl (lv_at hl 3 rfl) ?_
            refine lv_iload hx hb dX8_isTwo_34 (lv_at hl 0 rfl) ?_
            refine lv_iload_n hx hb dX8_isTwo_36 rfl (lv_at hl 4 rfl) ?_
            refine j_cvi (20, 0, 0) [.int (nI m), .int (nI d), .int (nI fr)] hC hB hl.1 (c_X8_passes l_ G I J O m d (nI fr) (by omega) (by omega)) (cwV 3 hts gX8_isTwo_X8_passes rfl rfl rfl (by decide +kernel) ⟨by decide, by decide⟩) dX8_isTwo_37 jk20 rfl rfl rfl rfl (Nat.le_of_ble_eq_true rfl) (fun r_37 u_37 H locs hp_37 hB => ?_)
            obtain ⟨rfl, rfl⟩ := hp_37
            refine jb_if_eq (tgt := 107) hx hb dX8_isTwo_40 (by decide) (fun c_40 => ?_) (fun c_40 => ?_)
            · refine lv_iinc (v := nI (d + 1)) (lv' := [(6, .int (nI (d + 1))), (5, .int (b2 is_)), (0, .ref (G.2.2.1 (20, 0, 0))), (1, .int (nI m)), (2, .int (nI fr)), (3, .int (nI to_)), (4, .int but)]) hx hb dX8_isTwo_107 hl (k := 0) rfl (jn_inc _ 1) (by decide) rfl (fun ls hl => ?_)
              refine lv_goto (tgt := 6) hx hb dX8_isTwo_110 (by decide) ?_
              exact ih_6 is_ (d + 1) (by omega) (by omega) (by show _ = anyS _ _ (it _ _ _); rw [← hb_]; simp [anyS, twoP, c_19, c_29, c_40]) _ _ _ hB (lv_sub hl [0, 1, 2, 3, 4, 5, 6] rfl)
            · refine lv_aload_n hx hb dX8_isTwo_43 rfl (lv_at hl 2 rfl) ?_
              refine lv_iload hx hb dX8_isTwo_44 (lv_at hl 0 rfl) ?_
              refine lv_iload_n hx hb dX8_isTwo_46 rfl (lv_at hl 4 rfl) ?_
              refine j_cvi (20, 0, 0) [.int (nI d), .int (nI fr)] hC hB hl.1 (c_X8_behind l_ G I J O d (nI fr) (by omega)) (cwV 2 hts gX8_isTwo_X8_behind rfl rfl rfl (by decide +kernel) ⟨by decide, by decide⟩) dX8_isTwo_47 jk20 rfl rfl rfl rfl (Nat.le_of_ble_eq_true rfl) (fun r_47 u_47 H locs hp_47 hB => ?_)
              obtain ⟨rfl, rfl⟩ := hp_47
              have hbt := ps_ok hW (show d < nd by omega) c_40
              refine j_eqi hbt.1 ?_
              refine lv_istore (lv' := [(7, .int (nI (btF (I 41) d fr))), (6, .int (nI d)), (5, .int (b2 is_)), (0, .ref (G.2.2.1 (20, 0, 0))), (1, .int (nI m)), (2, .int (nI fr)), (3, .int (nI to_)), (4, .int but)]) hx hb dX8_isTwo_50 hl (by decide) rfl (fun ls hl => ?_)
              refine lv_iconst (v := nI 1) hx hb dX8_isTwo_52 (by decide) ?_
              refine lv_istore (lv' := [(8, .int (nI 1)), (7, .int (nI (btF (I 41) d fr))), (6, .int (nI d)), (5, .int (b2 is_)), (0, .ref (G.2.2.1 (20, 0, 0))), (1, .int (nI m)), (2, .int (nI fr)), (3, .int (nI to_)), (4, .int but)]) hx hb dX8_isTwo_53 hl (by decide) rfl (fun ls hl => ?_)
              refine lv_iconst (v := nI 0) hx hb dX8_isTwo_55 (by decide) ?_
              refine lv_istore (lv' := [(9, .int (nI 0)), (8, .int (nI 1)), (7, .int (nI (btF (I 41) d fr))), (6, .int (nI d)), (5, .int (b2 is_)), (0, .ref (G.2.2.1 (20, 0, 0))), (1, .int (nI m)), (2, .int (nI fr)), (3, .int (nI to_)), (4, .int but)]) hx hb dX8_isTwo_56 hl (by decide) rfl (fun ls hl => ?_)
              have lp_58 : ∀ (fu : Nat) (al : Bool) (e : Nat), nd - e < fu → (e ≤ nd) → (btF (I 41) d fr = to_ → e = 0) → (al = it (allS (fun e => oneB (I 41) m (btF (I 41) d fr) to_ (but ||| bitI e) nd)) e true) → ∀ H locs ls, jB G A s_.heap (I, J, O) H locs → lv_has ls 10 [(9, .int (nI e)), (8, .int (b2 al)), (7, .int (nI (btF (I 41) d fr))), (6, .int (nI d)), (5, .int (b2 is_)), (0, .ref (G.2.2.1 (20, 0, 0))), (1, .int (nI m)), (2, .int (nI fr)), (3, .int (nI to_)), (4, .int but)] → W pg_ l_ ev_ ({ frames := 4, cells := 0, slots := 0, locals := 99 }) s_ mi_ ([.ref (G.2.2.1 (20, 0, 0)), .int (nI m), .int (nI fr), .int (nI to_), .int but]).toArray below meth cd_ H locs 0 0 (jQi G A below [.ref (G.2.2.1 (20, 0, 0)), .int (nI m), .int (nI fr), .int (nI to_), .int but] s_ (fun r u => r = b2 (twoB (I 41) m fr to_ but nd) ∧ u = (I, J, O))) (F0 mi_ 58 ls []) := by
                intro fu
                induction fu with
                | zero => intro al e hf; exact absurd hf (Nat.not_lt_zero _)
                | succ fu ih_58 =>
                  intro al e hf_58 he hct hal H locs ls hB hl
                  refine lv_iload hx hb dX8_isTwo_58 (lv_at hl 0 rfl) ?_
                  refine lv_aload_n hx hb dX8_isTwo_60 rfl (lv_at hl 5 rfl) ?_
                  refine j_get (20, 0, 0) 0 (v := .ref (G.2.2.1 (21, 41, 0))) hC hB in_X8 lk_7 dX8_isTwo_61 jk20 rfl rfl (by decide) rfl ?_
                  refine lv_iconst (v := nI 0) hx hb dX8_isTwo_64 (by decide) ?_
                  refine j_ild 41 0 hC hB dX8_isTwo_65 (by decide) rfl (by simp only [lenI_41]; omega) ?_
                  refine j_eqi (x := I 41 0) (y := nI nd) (hD) ?_
                  refine jn_icmp_ge (tgt := 103) hx hb dX8_isTwo_66 (by decide) (by omega) (by omega) (fun c_66 => ?_) (fun c_66 => ?_)
                  · refine lv_iload hx hb dX8_isTwo_103 (lv_at hl 1 rfl) ?_
                    refine lv_istore (lv' := [(5, .int (b2 al)), (9, .int (nI e)), (8, .int (b2 al)), (7, .int (nI (btF (I 41) d fr))), (6, .int (nI d)), (0, .ref (G.2.2.1 (20, 0, 0))), (1, .int (nI m)), (2, .int (nI fr)), (3, .int (nI to_)), (4, .int but)]) hx hb dX8_isTwo_105 hl (by decide) rfl (fun ls hl => ?_)
                    refine lv_iinc (v := nI (d + 1)) (lv' := [(6, .int (nI (d + 1))), (5, .int (b2 al)), (9, .int (nI e)), (8, .int (b2 al)), (7, .int (nI (btF (I 41) d fr))), (0, .ref (G.2.2.1 (20, 0, 0))), (1, .int (nI m)), (2, .int (nI fr)), (3, .int (nI to_)), (4, .int but)]) hx hb dX8_isTwo_107 hl (k := 4) rfl (jn_inc _ 1) (by decide) rfl (fun ls hl => ?_)
                    refine lv_goto (tgt := 6) hx hb dX8_isTwo_110 (by decide) ?_
                    exact ih_6 al (d + 1) (by omega) (by omega) (by show _ = anyS _ _ (it _ _ _); rw [← hb_]; exact two_end c_19 c_29 c_40 hct hal he (Or.inl (by omega))) _ _ _ hB (lv_sub hl [0, 1, 5, 6, 7, 8, 9] rfl)
                  · refine lv_iload hx hb dX8_isTwo_69 (lv_at hl 2 rfl) ?_
                    refine lv_iload_n hx hb dX8_isTwo_71 rfl (lv_at hl 8 rfl) ?_
                    refine jn_icmp_eq (tgt := 103) hx hb dX8_isTwo_72 (by decide) (by omega) (by omega) (fun c_72 => ?_) (fun c_72 => ?_)
                    · refine lv_iload hx hb dX8_isTwo_103 (lv_at hl 1 rfl) ?_
                      refine lv_istore (lv' := [(5, .int (b2 al)), (9, .int (nI e)), (8, .int (b2 al)), (7, .int (nI (btF (I 41) d fr))), (6, .int (nI d)), (0, .ref (G.2.2.1 (20, 0, 0))), (1, .int (nI m)), (2, .int (nI fr)), (3, .int (nI to_)), (4, .int but)]) hx hb dX8_isTwo_105 hl (by decide) rfl (fun ls hl => ?_)
                      refine lv_iinc (v := nI (d + 1)) (lv' := [(6, .int (nI (d + 1))), (5, .int (b2 al)), (9, .int (nI e)), (8, .int (b2 al)), (7, .int (nI (btF (I 41) d fr))), (0, .ref (G.2.2.1 (20, 0, 0))), (1, .int (nI m)), (2, .int (nI fr)), (3, .int (nI to_)), (4, .int but)]) hx hb dX8_isTwo_107 hl (k := 4) rfl (jn_inc _ 1) (by decide) rfl (fun ls hl => ?_)
                      refine lv_goto (tgt := 6) hx hb dX8_isTwo_110 (by decide) ?_
                      exact ih_6 al (d + 1) (by omega) (by omega) (by show _ = anyS _ _ (it _ _ _); rw [← hb_]; exact two_end c_19 c_29 c_40 hct hal he (Or.inr (Or.inl c_72))) _ _ _ hB (lv_sub hl [0, 1, 5, 6, 7, 8, 9] rfl)
                    · refine lv_iload hx hb dX8_isTwo_75 (lv_at hl 1 rfl) ?_
                      refine jb_if_eq (tgt := 103) hx hb dX8_isTwo_77 (by decide) (fun c_77 => ?_) (fun c_77 => ?_)
                      · refine lv_iload hx hb dX8_isTwo_103 (lv_at hl 1 rfl) ?_
                        refine lv_istore (lv' := [(5, .int (b2 al)), (9, .int (nI e)), (8, .int (b2 al)), (7, .int (nI (btF (I 41) d fr))), (6, .int (nI d)), (0, .ref (G.2.2.1 (20, 0, 0))), (1, .int (nI m)), (2, .int (nI fr)), (3, .int (nI to_)), (4, .int but)]) hx hb dX8_isTwo_105 hl (by decide) rfl (fun ls hl => ?_)
                        refine lv_iinc (v := nI (d + 1)) (lv' := [(6, .int (nI (d + 1))), (5, .int (b2 al)), (9, .int (nI e)), (8, .int (b2 al)), (7, .int (nI (btF (I 41) d fr))), (0, .ref (G.2.2.1 (20, 0, 0))), (1, .int (nI m)), (2, .int (nI fr)), (3, .int (nI to_)), (4, .int but)]) hx hb dX8_isTwo_107 hl (k := 4) rfl (jn_inc _ 1) (by decide) rfl (fun ls hl => ?_)
                        refine lv_goto (tgt := 6) hx hb dX8_isTwo_110 (by decide) ?_
                        exact ih_6 al (d + 1) (by omega) (by omega) (by show _ = anyS _ _ (it _ _ _); rw [← hb_]; exact two_end c_19 c_29 c_40 hct hal he (Or.inr (Or.inr c_77))) _ _ _ hB (lv_sub hl [0, 1, 5, 6, 7, 8, 9] rfl)
                      · refine lv_aload_n hx hb dX8_isTwo_80 rfl (lv_at hl 5 rfl) ?_
                        refine lv_iload_n hx hb dX8_isTwo_81 rfl (lv_at hl 6 rfl) ?_
                        refine lv_iload hx hb dX8_isTwo_82 (lv_at hl 2 rfl) ?_
                        refine lv_iload_n hx hb dX8_isTwo_84 rfl (lv_at hl 8 rfl) ?_
                        refine lv_iload hx hb dX8_isTwo_85 (lv_at hl 9 rfl) ?_
                        refine lv_iconst (v := nI 1) hx hb dX8_isTwo_87 (by decide) ?_
                        refine lv_iload hx hb dX8_isTwo_88 (lv_at hl 0 rfl) ?_
                        refine lv_ishl hx hb dX8_isTwo_90 ?_
                        refine lv_ior hx hb dX8_isTwo_91 ?_
                        refine j_cvi (20, 0, 0) [.int (nI m), .int (nI (btF (I 41) d fr)), .int (nI to_), .int (but ||| ((nI 1) <<< ((nI e) &&& 31)))] hC hB hl.1 (c_X8_isOne l_ G I J O m (btF (I 41) d fr) to_ (but ||| ((nI 1) <<< ((nI e) &&& 31))) (by omega) (by omega) (by omega) (by omega) (hD) (hW)) (cwV 4 hts gX8_isTwo_X8_isOne rfl rfl rfl (by decide +kernel) ⟨by decide, by decide⟩) dX8_isTwo_92 jk20 rfl rfl rfl rfl (Nat.le_of_ble_eq_true rfl) (fun r_92 u_92 H locs hp_92 hB => ?_)
                        obtain ⟨rfl, rfl⟩ := hp_92
                        refine lv_istore (lv' := [(8, .int (b2 (oneB (I 41) m (btF (I 41) d fr) to_ (but ||| ((nI 1) <<< ((nI e) &&& 31))) nd))), (9, .int (nI e)), (7, .int (nI (btF (I 41) d fr))), (6, .int (nI d)), (5, .int (b2 is_)), (0, .ref (G.2.2.1 (20, 0, 0))), (1, .int (nI m)), (2, .int (nI fr)), (3, .int (nI to_)), (4, .int but)]) hx hb dX8_isTwo_95 hl (by decide) rfl (fun ls hl => ?_)
                        refine lv_iinc (v := nI (e + 1)) (lv' := [(9, .int (nI (e + 1))), (8, .int (b2 (oneB (I 41) m (btF (I 41) d fr) to_ (but ||| ((nI 1) <<< ((nI e) &&& 31))) nd))), (7, .int (nI (btF (I 41) d fr))), (6, .int (nI d)), (5, .int (b2 is_)), (0, .ref (G.2.2.1 (20, 0, 0))), (1, .int (nI m)), (2, .int (nI fr)), (3, .int (nI to_)), (4, .int but)]) hx hb dX8_isTwo_97 hl (k := 1) rfl (jn_inc _ 1) (by decide) rfl (fun ls hl => ?_)
                        refine lv_goto (tgt := 58) hx hb dX8_isTwo_100 (by decide) ?_
                        exact ih_58 (oneB (I 41) m (btF (I 41) d fr) to_ (but ||| ((nI 1) <<< ((nI e) &&& 31))) nd) (e + 1) (by omega) (by omega) (fun q => absurd q c_72) (by show _ = allS _ _ (it _ _ _); rw [← hal]; simp [allS, bitI, c_77]) _ _ _ hB (lv_sub hl [0, 1, 2, 3, 4, 5, 6, 7, 8, 9] rfl)
              exact lp_58 _ true 0 (Nat.lt_succ_self _) (by omega) (fun _ => rfl) (rfl) _ _ _ hB (lv_sub hl [0, 1, 2, 3, 4, 5, 6, 7, 8, 9] rfl)
  exact lp_6 _ false 0 (Nat.lt_succ_self _) (by omega) (rfl) _ _ _ hB (lv_sub hl [0, 1, 2, 3, 4, 5, 6] rfl)

set_option maxHeartbeats 4000000 in
set_option maxRecDepth 100000 in
theorem c_X8_isThree (l_ : Launch) (G : jG) (I : Nat → Nat → Int32) (J : Nat → Nat → Int64) (O : Nat → Nat → Nat) (m fr to_ : Nat) (hm : m < 4) (hfr : fr < 8) (hto : to_ < 8) {nd : Nat} (hnd : nd ≤ 10) (hD : I 41 0 = nI nd) (hW : wfD (I 41) nd) : jMi l_ G yX8_isThree wsX8_isThree ({ frames := 5, cells := 0, slots := 0, locals := 128 }) [.ref (G.2.2.1 (20, 0, 0)), .int (nI m), .int (nI fr), .int (nI to_)] (I, J, O) (fun r u => r = b2 (thrB (I 41) m fr to_ nd) ∧ u = (I, J, O)) := by
  refine jMi_of (cc := cX8_isThree) (maxL := 9) (ret := (some .boolean)) (lv0 := [(0, .ref (G.2.2.1 (20, 0, 0))), (1, .int (nI m)), (2, .int (nI fr)), (3, .int (nI to_))]) (by decide) rfl (Nat.le_of_ble_eq_true rfl) rfl ?_
  intro pg_ ev_ s_ mi_ below meth cd_ A ls hC hB hl
  obtain ⟨hx, hb, hr, hml, hown, hts, hlocks, hK, hA⟩ := id hC
  have lk_7 := hts (.fieldLink RX8 7 "RiddlePrisonModel" "now" "[I") (by decide +kernel)
  have in_X8 := (fun w h => List.mem_cons_of_mem _ (List.mem_append_right _ h) : ∀ w ∈ wsX80, w ∈ wsX8_isThree)
  refine lv_iconst (v := nI 0) hx hb dX8_isThree_0 (by decide) ?_
  refine lv_istore (lv' := [(4, .int (nI 0)), (0, .ref (G.2.2.1 (20, 0, 0))), (1, .int (nI m)), (2, .int (nI fr)), (3, .int (nI to_))]) hx hb dX8_isThree_1 hl (by decide) rfl (fun ls hl => ?_)
  refine lv_iconst (v := nI 0) hx hb dX8_isThree_3 (by decide) ?_
  refine lv_istore (lv' := [(5, .int (nI 0)), (4, .int (nI 0)), (0, .ref (G.2.2.1 (20, 0, 0))), (1, .int (nI m)), (2, .int (nI fr)), (3, .int (nI to_))]) hx hb dX8_isThree_4 hl (by decide) rfl (fun ls hl => ?_)
  have lp_6 : ∀ (fu : Nat) (is_ : Bool) (d : Nat), nd - d < fu → (d ≤ nd) → (is_ = it (anyS (thrP (I 41) m fr to_ nd)) d false) → ∀ H locs ls, jB G A s_.heap (I, J, O) H locs → lv_has ls 9 [(5, .int (nI d)), (4, .int (b2 is_)), (0, .ref (G.2.2.1 (20, 0, 0))), (1, .int (nI m)), (2, .int (nI fr)), (3, .int (nI to_))] → W pg_ l_ ev_ ({ frames := 5, cells := 0, slots := 0, locals := 128 }) s_ mi_ ([.ref (G.2.2.1 (20, 0, 0)), .int (nI m), .int (nI fr), .int (nI to_)]).toArray below meth cd_ H locs 0 0 (jQi G A below [.ref (G.2.2.1 (20, 0, 0)), .int (nI m), .int (nI fr), .int (nI to_)] s_ (fun r u => r = b2 (thrB (I 41) m fr to_ nd) ∧ u = (I, J, O))) (F0 mi_ 6 ls []) := by
    intro fu
    induction fu with
    | zero => intro is_ d hf; exact absurd hf (Nat.not_lt_zero _)
    | succ fu ih_6 =>
      intro is_ d hf_6 hd hb_ H locs ls hB hl
      refine lv_iload hx hb dX8_isThree_6 (lv_at hl 0 rfl) ?_
      refine lv_aload_n hx hb dX8_isThree_8 rfl (lv_at hl 2 rfl) ?_
      refine j_get (20, 0, 0) 0 (v := .ref (G.2.2.1 (21, 41, 0))) hC hB in_X8 lk_7 dX8_isThree_9 jk20 rfl rfl (by decide) rfl ?_
      refine lv_iconst (v := nI 0) hx hb dX8_isThree_12 (by decide) ?_
      refine j_ild 41 0 hC hB dX8_isThree_13 (by decide) rfl (by simp only [lenI_41]; omega) ?_
      refine j_eqi (x := I 41 0) (y := nI nd) (hD) ?_
      refine jn_icmp_ge (tgt := 100) hx hb dX8_isThree_14 (by decide) (by omega) (by omega) (fun c_14 => ?_) (fun c_14 => ?_)
      · refine lv_iload hx hb dX8_isThree_100 (lv_at hl 1 rfl) ?_
        exact j_zret hC hB dX8_isThree_102 (b2_01 _) (⟨by rw [hb_, show d = nd by omega]; rfl, rfl⟩)
      · refine lv_iload hx hb dX8_isThree_17 (lv_at hl 1 rfl) ?_
        refine jb_if_ne (tgt := 100) hx hb dX8_isThree_19 (by decide) (fun c_19 => ?_) (fun c_19 => ?_)
        · refine lv_iload hx hb dX8_isThree_100 (lv_at hl 1 rfl) ?_
          exact j_zret hC hB dX8_isThree_102 (b2_01 _) (⟨by rw [c_19]; rw [c_19] at hb_; exact congrArg b2 (any_stop hd hb_.symm).symm, rfl⟩)
        · refine lv_aload_n hx hb dX8_isThree_22 rfl (lv_at hl 2 rfl) ?_
          refine lv_iload_n hx hb dX8_isThree_23 rfl (lv_at hl 3 rfl) ?_
          refine lv_iload hx hb dX8_isThree_24 (lv_at hl 0 rfl) ?_
          refine lv_iload_n hx hb dX8_isThree_26 rfl (lv_at hl 4 rfl) ?_
          refine j_cvi (20, 0, 0) [.int (nI m), .int (nI d), .int (nI fr)] hC hB hl.1 (c_X8_passes l_ G I J O m d (nI fr) (by omega) (by omega)) (cwV 3 hts gX8_isThree_X8_passes rfl rfl rfl (by decide +kernel) ⟨by decide, by decide⟩) dX8_isThree_27 jk20 rfl rfl rfl rfl (Nat.le_of_ble_eq_true rfl) (fun r_27 u_27 H locs hp_27 hB => ?_)
          obtain ⟨rfl, rfl⟩ := hp_27
          refine jb_if_eq (tgt := 94) hx hb dX8_isThree_30 (by decide) (fun c_30 => ?_) (fun c_30 => ?_)
          · refine lv_iinc (v := nI (d + 1)) (lv' := [(5, .int (nI (d + 1))), (4, .int (b2 is_)), (0, .ref (G.2.2.1 (20, 0, 0))), (1, .int (nI m)), (2, .int (nI fr)), (3, .int (nI to_))]) hx hb dX8_isThree_94 hl (k := 0) rfl (jn_inc _ 1) (by decide) rfl (fun ls hl => ?_)
            refine lv_goto (tgt := 6) hx hb dX8_isThree_97 (by decide) ?_
            exact ih_6 is_ (d + 1) (by omega) (by omega) (by show _ = anyS _ _ (it _ _ _); rw [← hb_]; simp [anyS, thrP, c_19, c_30]) _ _ _ hB (lv_sub hl [0, 1, 2, 3, 4, 5] rfl)
          · refine lv_aload_n hx hb dX8_isThree_33 rfl (lv_at hl 2 rfl) ?_
            refine lv_iload hx hb dX8_isThree_34 (lv_at hl 0 rfl) ?_
            refine lv_iload_n hx hb dX8_isThree_36 rfl (lv_at hl 4 rfl) ?_
            refine j_cvi (20, 0, 0) [.int (nI d), .int (nI fr)] hC hB hl.1 (c_X8_behind l_ G I J O d (nI fr) (by omega)) (cwV 2 hts gX8_isThree_X8_behind rfl rfl rfl (by decide +kernel) ⟨by decide, by decide⟩) dX8_isThree_37 jk20 rfl rfl rfl rfl (Nat.le_of_ble_eq_true rfl) (fun r_37 u_37 H locs hp_37 hB => ?_)
            obtain ⟨rfl, rfl⟩ := hp_37
            have hbt := ps_ok hW (show d < nd by omega) c_30
            refine j_eqi hbt.1 ?_
            refine lv_istore (lv' := [(6, .int (nI (btF (I 41) d fr))), (5, .int (nI d)), (4, .int (b2 is_)), (0, .ref (G.2.2.1 (20, 0, 0))), (1, .int (nI m)), (2, .int (nI fr)), (3, .int (nI to_))]) hx hb dX8_isThree_40 hl (by decide) rfl (fun ls hl => ?_)
            refine lv_iconst (v := nI 1) hx hb dX8_isThree_42 (by decide) ?_
            refine lv_istore (lv' := [(7, .int (nI 1)), (6, .int (nI (btF (I 41) d fr))), (5, .int (nI d)), (4, .int (b2 is_)), (0, .ref (G.2.2.1 (20, 0, 0))), (1, .int (nI m)), (2, .int (nI fr)), (3, .int (nI to_))]) hx hb dX8_isThree_43 hl (by decide) rfl (fun ls hl => ?_)
            refine lv_iconst (v := nI 0) hx hb dX8_isThree_45 (by decide) ?_
            refine lv_istore (lv' := [(8, .int (nI 0)), (7, .int (nI 1)), (6, .int (nI (btF (I 41) d fr))), (5, .int (nI d)), (4, .int (b2 is_)), (0, .ref (G.2.2.1 (20, 0, 0))), (1, .int (nI m)), (2, .int (nI fr)), (3, .int (nI to_))]) hx hb dX8_isThree_46 hl (by decide) rfl (fun ls hl => ?_)
            have lp_48 : ∀ (fu : Nat) (al : Bool) (e : Nat), nd - e < fu → (e ≤ nd) → (btF (I 41) d fr = to_ → e = 0) → (al = it (allS (fun e => twoB (I 41) m (btF (I 41) d fr) to_ (bitI e) nd)) e true) → ∀ H locs ls, jB G A s_.heap (I, J, O) H locs → lv_has ls 9 [(8, .int (nI e)), (7, .int (b2 al)), (6, .int (nI (btF (I 41) d fr))), (5, .int (nI d)), (4, .int (b2 is_)), (0, .ref (G.2.2.1 (20, 0, 0))), (1, .int (nI m)), (2, .int (nI fr)), (3, .int (nI to_))] → W pg_ l_ ev_ ({ frames := 5, cells := 0, slots := 0, locals := 128 }) s_ mi_ ([.ref (G.2.2.1 (20, 0, 0)), .int (nI m), .int (nI fr), .int (nI to_)]).toArray below meth cd_ H locs 0 0 (jQi G A below [.ref (G.2.2.1 (20, 0, 0)), .int (nI m), .int (nI fr), .int (nI to_)] s_ (fun r u => r = b2 (thrB (I 41) m fr to_ nd) ∧ u = (I, J, O))) (F0 mi_ 48 ls []) := by
              intro fu
              induction fu with
              | zero => intro al e hf; exact absurd hf (Nat.not_lt_zero _)
              | succ fu ih_48 =>
                intro al e hf_48 he hct hal H locs ls hB hl
                refine lv_iload hx hb dX8_isThree_48 (lv_at hl 0 rfl) ?_
                refine lv_aload_n hx hb dX8_isThree_50 rfl (lv_at hl 5 rfl) ?_
                refine j_get (20, 0, 0) 0 (v := .ref (G.2.2.1 (21, 41, 0))) hC hB in_X8 lk_7 dX8_isThree_51 jk20 rfl rfl (by decide) rfl ?_
                refine lv_iconst (v := nI 0) hx hb dX8_isThree_54 (by decide) ?_
                refine j_ild 41 0 hC hB dX8_isThree_55 (by decide) rfl (by simp only [lenI_41]; omega) ?_
                refine j_eqi (x := I 41 0) (y := nI nd) (hD) ?_
                refine jn_icmp_ge (tgt := 90) hx hb dX8_isThree_56 (by decide) (by omega) (by omega) (fun c_56 => ?_) (fun c_56 => ?_)
                · refine lv_iload hx hb dX8_isThree_90 (lv_at hl 1 rfl) ?_
                  refine lv_istore (lv' := [(4, .int (b2 al)), (8, .int (nI e)), (7, .int (b2 al)), (6, .int (nI (btF (I 41) d fr))), (5, .int (nI d)), (0, .ref (G.2.2.1 (20, 0, 0))), (1, .int (nI m)), (2, .int (nI fr)), (3, .int (nI to_))]) hx hb dX8_isThree_92 hl (by decide) rfl (fun ls hl => ?_)
                  refine lv_iinc (v := nI (d + 1)) (lv' := [(5, .int (nI (d + 1))), (4, .int (b2 al)), (8, .int (nI e)), (7, .int (b2 al)), (6, .int (nI (btF (I 41) d fr))), (0, .ref (G.2.2.1 (20, 0, 0))), (1, .int (nI m)), (2, .int (nI fr)), (3, .int (nI to_))]) hx hb dX8_isThree_94 hl (k := 4) rfl (jn_inc _ 1) (by decide) rfl (fun ls hl => ?_)
                  refine lv_goto (tgt := 6) hx hb dX8_isThree_97 (by decide) ?_
                  exact ih_6 al (d + 1) (by omega) (by omega) (by show _ = anyS _ _ (it _ _ _); rw [← hb_]; exact thr_end c_19 c_30 hct hal he (Or.inl (by omega))) _ _ _ hB (lv_sub hl [0, 1, 5, 6, 7, 8] rfl)
                · refine lv_iload hx hb dX8_isThree_59 (lv_at hl 2 rfl) ?_
                  refine lv_iload_n hx hb dX8_isThree_61 rfl (lv_at hl 8 rfl) ?_
                  refine jn_icmp_eq (tgt := 90) hx hb dX8_isThree_62 (by decide) (by omega) (by omega) (fun c_62 => ?_) (fun c_62 => ?_)
                  · refine lv_iload hx hb dX8_isThree_90 (lv_at hl 1 rfl) ?_
                    refine lv_istore (lv' := [(4, .int (b2 al)), (8, .int (nI e)), (7, .int (b2 al)), (6, .int (nI (btF (I 41) d fr))), (5, .int (nI d)), (0, .ref (G.2.2.1 (20, 0, 0))), (1, .int (nI m)), (2, .int (nI fr)), (3, .int (nI to_))]) hx hb dX8_isThree_92 hl (by decide) rfl (fun ls hl => ?_)
                    refine lv_iinc (v := nI (d + 1)) (lv' := [(5, .int (nI (d + 1))), (4, .int (b2 al)), (8, .int (nI e)), (7, .int (b2 al)), (6, .int (nI (btF (I 41) d fr))), (0, .ref (G.2.2.1 (20, 0, 0))), (1, .int (nI m)), (2, .int (nI fr)), (3, .int (nI to_))]) hx hb dX8_isThree_94 hl (k := 4) rfl (jn_inc _ 1) (by decide) rfl (fun ls hl => ?_)
                    refine lv_goto (tgt := 6) hx hb dX8_isThree_97 (by decide) ?_
                    exact ih_6 al (d + 1) (by omega) (by omega) (by show _ = anyS _ _ (it _ _ _); rw [← hb_]; exact thr_end c_19 c_30 hct hal he (Or.inr (Or.inl c_62))) _ _ _ hB (lv_sub hl [0, 1, 5, 6, 7, 8] rfl)
                  · refine lv_iload hx hb dX8_isThree_65 (lv_at hl 1 rfl) ?_
                    refine jb_if_eq (tgt := 90) hx hb dX8_isThree_67 (by decide) (fun c_67 => ?_) (fun c_67 => ?_)
                    · refine lv_iload hx hb dX8_isThree_90 (lv_at hl 1 rfl) ?_
                      refine lv_istore (lv' := [(4, .int (b2 al)), (8, .int (nI e)), (7, .int (b2 al)), (6, .int (nI (btF (I 41) d fr))), (5, .int (nI d)), (0, .ref (G.2.2.1 (20, 0, 0))), (1, .int (nI m)), (2, .int (nI fr)), (3, .int (nI to_))]) hx hb dX8_isThree_92 hl (by decide) rfl (fun ls hl => ?_)
                      refine lv_iinc (v := nI (d + 1)) (lv' := [(5, .int (nI (d + 1))), (4, .int (b2 al)), (8, .int (nI e)), (7, .int (b2 al)), (6, .int (nI (btF (I 41) d fr))), (0, .ref (G.2.2.1 (20, 0, 0))), (1, .int (nI m)), (2, .int (nI fr)), (3, .int (nI to_))]) hx hb dX8_isThree_94 hl (k := 4) rfl (jn_inc _ 1) (by decide) rfl (fun ls hl => ?_)
                      refine lv_goto (tgt := 6) hx hb dX8_isThree_97 (by decide) ?_
                      exact ih_6 al (d + 1) (by omega) (by omega) (by show _ = anyS _ _ (it _ _ _); rw [← hb_]; exact thr_end c_19 c_30 hct hal he (Or.inr (Or.inr c_67))) _ _ _ hB (lv_sub hl [0, 1, 5, 6, 7, 8] rfl)
                    · refine lv_aload_n hx hb dX8_isThree_70 rfl (lv_at hl 5 rfl) ?_
                      refine lv_iload_n hx hb dX8_isThree_71 rfl (lv_at hl 6 rfl) ?_
                      refine lv_iload hx hb dX8_isThree_72 (lv_at hl 2 rfl) ?_
                      refine lv_iload_n hx hb dX8_isThree_74 rfl (lv_at hl 8 rfl) ?_
                      refine lv_iconst (v := nI 1) hx hb dX8_isThree_75 (by decide) ?_
                      refine lv_iload hx hb dX8_isThree_76 (lv_at hl 0 rfl) ?_
                      refine lv_ishl hx hb dX8_isThree_78 ?_
                      refine j_cvi (20, 0, 0) [.int (nI m), .int (nI (btF (I 41) d fr)), .int (nI to_), .int ((nI 1) <<< ((nI e) &&& 31))] hC hB hl.1 (c_X8_isTwo l_ G I J O m (btF (I 41) d fr) to_ ((nI 1) <<< ((nI e) &&& 31)) (by omega) (by omega) (by omega) (by omega) (hD) (hW)) (cwV 4 hts gX8_isThree_X8_isTwo rfl rfl rfl (by decide +kernel) ⟨by decide, by decide⟩) dX8_isThree_79 jk20 rfl rfl rfl rfl (Nat.le_of_ble_eq_true rfl) (fun r_79 u_79 H locs hp_79 hB => ?_)
                      obtain ⟨rfl, rfl⟩ := hp_79
                      refine lv_istore (lv' := [(7, .int (b2 (twoB (I 41) m (btF (I 41) d fr) to_ ((nI 1) <<< ((nI e) &&& 31)) nd))), (8, .int (nI e)), (6, .int (nI (btF (I 41) d fr))), (5, .int (nI d)), (4, .int (b2 is_)), (0, .ref (G.2.2.1 (20, 0, 0))), (1, .int (nI m)), (2, .int (nI fr)), (3, .int (nI to_))]) hx hb dX8_isThree_82 hl (by decide) rfl (fun ls hl => ?_)
                      refine lv_iinc (v := nI (e + 1)) (lv' := [(8, .int (nI (e + 1))), (7, .int (b2 (twoB (I 41) m (btF (I 41) d fr) to_ ((nI 1) <<< ((nI e) &&& 31)) nd))), (6, .int (nI (btF (I 41) d fr))), (5, .int (nI d)), (4, .int (b2 is_)), (0, .ref (G.2.2.1 (20, 0, 0))), (1, .int (nI m)), (2, .int (nI fr)), (3, .int (nI to_))]) hx hb dX8_isThree_84 hl (k := 1) rfl (jn_inc _ 1) (by decide) rfl (fun ls hl => ?_)
                      refine lv_goto (tgt := 48) hx hb dX8_isThree_87 (by decide) ?_
                      exact ih_48 (twoB (I 41) m (btF (I 41) d fr) to_ ((nI 1) <<< ((nI e) &&& 31)) nd) (e + 1) (by omega) (by omega) (fun q => absurd q c_62) (by show _ = allS _ _ (it _ _ _); rw [← hal]; simp [allS, bitI, c_67]) _ _ _ hB (lv_sub hl [0, 1, 2, 3, 4, 5, 6, 7, 8] rfl)
            exact lp_48 _ true 0 (Nat.lt_succ_self _) (by omega) (fun _ => rfl) (rfl) _ _ _ hB (lv_sub hl [0, 1, 2, 3, 4, 5, 6, 7, 8] rfl)
  exact lp_6 _ false 0 (Nat.lt_succ_self _) (by omega) (rfl) _ _ _ hB (lv_sub hl [0, 1, 2, 3, 4, 5] rfl)

set_option maxHeartbeats 4000000 in
set_option maxRecDepth 100000 in
theorem c_X8_hunt (l_ : Launch) (G : jG) (I : Nat → Nat → Int32) (J : Nat → Nat → Int64) (O : Nat → Nat → Nat) (man cell n : Int32) {nd : Nat} (hnd : nd ≤ 10) (hD : I 41 0 = nI nd) {nm : Nat} (hnm : nm ≤ 4) (hM : I 41 1 = nI nm) (hW : wfD (I 41) nd) (hWc : ∀ m, m < nm → ∃ c, c < 8 ∧ I 41 (51 + m) = nI c) : jMi l_ G yX8_hunt wsX8_hunt ({ frames := 6, cells := 0, slots := 0, locals := 156 }) [.ref (G.2.2.1 (20, 0, 0)), .int man, .int cell, .int n] (I, J, O) (fun r u => r = hunA (I 41) nd nm man cell n ∧ SMs (I, J, O) u) := by
  refine jMi_of (cc := cX8_hunt) (maxL := 5) (ret := (some .int)) (lv0 := [(0, .ref (G.2.2.1 (20, 0, 0))), (1, .int man), (2, .int cell), (3, .int n)]) (by decide) rfl (Nat.le_of_ble_eq_true rfl) rfl ?_
  intro pg_ ev_ s_ mi_ below meth cd_ A ls hC hB hl
  obtain ⟨hx, hb, hr, hml, hown, hts, hlocks, hK, hA⟩ := id hC
  have lk_7 := hts (.fieldLink RX8 7 "RiddlePrisonModel" "now" "[I") (by decide +kernel)
  have in_X8 := (fun w h => List.mem_cons_of_mem _ (List.mem_append_right _ h) : ∀ w ∈ wsX80, w ∈ wsX8_hunt)
  refine lv_aload_n hx hb dX8_hunt_0 rfl (lv_at hl 0 rfl) ?_
  refine lv_iload_n hx hb dX8_hunt_1 rfl (lv_at hl 1 rfl) ?_
  refine j_cvi (20, 0, 0) [.int man] hC hB hl.1 (c_X8_isMan l_ G I J O man (by omega) (hM)) (cwV 1 hts gX8_hunt_X8_isMan rfl rfl rfl (by decide +kernel) ⟨by decide, by decide⟩) dX8_hunt_2 jk20 rfl rfl rfl rfl (Nat.le_of_ble_eq_true rfl) (fun r_2 u_2 H locs hp_2 hB => ?_)
  obtain ⟨rfl, rfl⟩ := hp_2
  refine jb_if_eq (tgt := 27) hx hb dX8_hunt_5 (by decide) (fun c_5 => ?_) (fun c_5 => ?_)
  · refine lv_iconst (v := (-1 : Int32)) hx hb dX8_hunt_27 (by decide) ?_
    exact j_iret hC hB dX8_hunt_28 (⟨by simp [hunA, c_5], ⟨SM.rf, SMJ.rf, rfl⟩⟩)
  · obtain ⟨mm, hmm, rfl⟩ := isB_nat c_5 (by omega)
    obtain ⟨cc, hcc, ecc⟩ := hWc mm hmm
    refine lv_iload_n hx hb dX8_hunt_8 rfl (lv_at hl 2 rfl) ?_
    refine j_csi [.int cell] hC hB hl.1 (c_X8_isCell l_ G I J O cell) (va_cwS 1 hts gX8_hunt_X8_isCell rfl rfl rfl (by decide +kernel) ⟨by decide, by decide⟩) dX8_hunt_9 rfl rfl (Nat.le_of_ble_eq_true rfl) (fun r_9 u_9 H locs hp_9 hB => ?_)
    obtain ⟨rfl, rfl⟩ := hp_9
    refine jb_if_eq (tgt := 27) hx hb dX8_hunt_12 (by decide) (fun c_12 => ?_) (fun c_12 => ?_)
    · refine lv_iconst (v := (-1 : Int32)) hx hb dX8_hunt_27 (by decide) ?_
      exact j_iret hC hB dX8_hunt_28 (⟨by simp [hunA, c_5, c_12], ⟨SM.rf, SMJ.rf, rfl⟩⟩)
    · obtain ⟨xx, hxx, rfl⟩ := isB_nat c_12 (by omega)
      refine lv_iload_n hx hb dX8_hunt_15 rfl (lv_at hl 3 rfl) ?_
      refine lv_i2l (v := n.toInt64) hx hb dX8_hunt_16 rfl ?_
      refine lv_lconst (v := 0) hx hb dX8_hunt_17 rfl ?_
      refine lv_ldc2 (v := 3) hx hb hown (hts (.constantLong RX8 68 (3)) (by decide +kernel)) dX8_hunt_18 ?_
      refine j_csi [.long n.toInt64, .long ((0 : Int64)), .long ((3 : Int64))] hC hB hl.1 (c_X8_in l_ G I J O n.toInt64 ((0 : Int64)) ((3 : Int64))) (va_cwS 3 hts gX8_hunt_X8_in rfl rfl rfl (by decide +kernel) ⟨by decide, by decide⟩) dX8_hunt_21 rfl rfl (Nat.le_of_ble_eq_true rfl) (fun r_21 u_21 H locs hp_21 hB => ?_)
      obtain ⟨rfl, rfl⟩ := hp_21
      refine j_eqi (y := b2 (isB n 4)) (by rw [inR_isB (n := 4) (by decide)]) ?_
      refine jb_if_ne (tgt := 29) hx hb dX8_hunt_24 (by decide) (fun c_24 => ?_) (fun c_24 => ?_)
      · obtain ⟨nn, hnn, rfl⟩ := isB_nat c_24 (by omega)
        refine lv_aload_n hx hb dX8_hunt_29 rfl (lv_at hl 0 rfl) ?_
        refine j_get (20, 0, 0) 0 (v := .ref (G.2.2.1 (21, 41, 0))) hC hB in_X8 lk_7 dX8_hunt_30 jk20 rfl rfl (by decide) rfl ?_
        refine lv_bipush (v := nI 51) hx hb dX8_hunt_33 (by decide) ?_
        refine lv_iload_n hx hb dX8_hunt_35 rfl (lv_at hl 1 rfl) ?_
        refine jn_iadd hx hb dX8_hunt_36 ?_
        refine j_ild 41 (51 + mm) hC hB dX8_hunt_37 (by decide) rfl (by simp only [lenI_41]; omega) ?_
        refine j_eqi (x := I 41 (51 + mm)) (y := nI cc) (ecc) ?_
        refine lv_istore (lv' := [(4, .int (nI cc)), (0, .ref (G.2.2.1 (20, 0, 0))), (1, .int (nI mm)), (2, .int (nI xx)), (3, .int (nI nn))]) hx hb dX8_hunt_38 hl (by decide) rfl (fun ls hl => ?_)
        refine lv_iload hx hb dX8_hunt_40 (lv_at hl 0 rfl) ?_
        refine lv_iload_n hx hb dX8_hunt_42 rfl (lv_at hl 3 rfl) ?_
        refine jn_icmp_ne (tgt := 48) hx hb dX8_hunt_43 (by decide) (by omega) (by omega) (fun c_43 => ?_) (fun c_43 => ?_)
        · refine lv_iload_n hx hb dX8_hunt_48 rfl (lv_at hl 4 rfl) ?_
          refine jn_if_le (tgt := 66) hx hb dX8_hunt_49 (by decide) (by omega) (fun c_49 => ?_) (fun c_49 => ?_)
          · refine lv_iload_n hx hb dX8_hunt_66 rfl (lv_at hl 4 rfl) ?_
            refine lv_iconst (v := nI 1) hx hb dX8_hunt_67 (by decide) ?_
            refine jn_icmp_le (tgt := 85) hx hb dX8_hunt_68 (by decide) (by omega) (by omega) (fun c_68 => ?_) (fun c_68 => ?_)
            · refine lv_iload_n hx hb dX8_hunt_85 rfl (lv_at hl 4 rfl) ?_
              refine lv_iconst (v := nI 2) hx hb dX8_hunt_86 (by decide) ?_
              refine jn_icmp_le (tgt := 105) hx hb dX8_hunt_87 (by decide) (by omega) (by omega) (fun c_87 => ?_) (fun c_87 => ?_)
              · refine lv_bipush (v := (-4 : Int32)) hx hb dX8_hunt_105 (by decide) ?_
                exact j_iret hC hB dX8_hunt_107 (⟨by first | (exfalso; omega) | simp [hunA, hunF, nIc (show nn < 2147483648 by omega), tN, ceF, nIc (show mm < 2147483648 by omega), nIc (show cc < 2147483648 by omega), ecc, nIc (show xx < 2147483648 by omega), c_5, c_12, c_24, c_43, show ¬ 0 < nn by omega, show ¬ 1 < nn by omega, show ¬ 2 < nn by omega], ⟨SM.rf, SMJ.rf, rfl⟩⟩)
              · refine lv_aload_n hx hb dX8_hunt_90 rfl (lv_at hl 1 rfl) ?_
                refine lv_iload_n hx hb dX8_hunt_91 rfl (lv_at hl 2 rfl) ?_
                refine lv_iload hx hb dX8_hunt_92 (lv_at hl 0 rfl) ?_
                refine lv_iload_n hx hb dX8_hunt_94 rfl (lv_at hl 3 rfl) ?_
                refine j_cvi (20, 0, 0) [.int (nI mm), .int (nI cc), .int (nI xx)] hC hB hl.1 (c_X8_isThree l_ G I J O mm cc xx (by omega) (by omega) (by omega) (by omega) (hD) (hW)) (cwV 3 hts gX8_hunt_X8_isThree rfl rfl rfl (by decide +kernel) ⟨by decide, by decide⟩) dX8_hunt_95 jk20 rfl rfl rfl rfl (Nat.le_of_ble_eq_true rfl) (fun r_95 u_95 H locs hp_95 hB => ?_)
                obtain ⟨rfl, rfl⟩ := hp_95
                refine jb_if_eq (tgt := 105) hx hb dX8_hunt_98 (by decide) (fun c_98 => ?_) (fun c_98 => ?_)
                · refine lv_bipush (v := (-4 : Int32)) hx hb dX8_hunt_105 (by decide) ?_
                  exact j_iret hC hB dX8_hunt_107 (⟨by first | (exfalso; omega) | simp [hunA, hunF, nIc (show nn < 2147483648 by omega), tN, ceF, nIc (show mm < 2147483648 by omega), nIc (show cc < 2147483648 by omega), ecc, nIc (show xx < 2147483648 by omega), c_5, c_12, c_24, c_43, c_98, show ¬ 0 < nn by omega, show ¬ 1 < nn by omega, show 2 < nn by omega], ⟨SM.rf, SMJ.rf, rfl⟩⟩)
                · refine lv_iconst (v := nI 3) hx hb dX8_hunt_101 (by decide) ?_
                  refine lv_goto (tgt := 107) hx hb dX8_hunt_102 (by decide) ?_
                  exact j_iret hC hB dX8_hunt_107 (⟨by first | (exfalso; omega) | simp [hunA, hunF, nIc (show nn < 2147483648 by omega), tN, ceF, nIc (show mm < 2147483648 by omega), nIc (show cc < 2147483648 by omega), ecc, nIc (show xx < 2147483648 by omega), c_5, c_12, c_24, c_43, c_98, show ¬ 0 < nn by omega, show ¬ 1 < nn by omega, show 2 < nn by omega], ⟨SM.rf, SMJ.rf, rfl⟩⟩)
            · refine lv_aload_n hx hb dX8_hunt_71 rfl (lv_at hl 1 rfl) ?_
              refine lv_iload_n hx hb dX8_hunt_72 rfl (lv_at hl 2 rfl) ?_
              refine lv_iload hx hb dX8_hunt_73 (lv_at hl 0 rfl) ?_
              refine lv_iload_n hx hb dX8_hunt_75 rfl (lv_at hl 3 rfl) ?_
              refine lv_iconst (v := nI 0) hx hb dX8_hunt_76 (by decide) ?_
              refine j_cvi (20, 0, 0) [.int (nI mm), .int (nI cc), .int (nI xx), .int (nI 0)] hC hB hl.1 (c_X8_isTwo l_ G I J O mm cc xx (nI 0) (by omega) (by omega) (by omega) (by omega) (hD) (hW)) (cwV 4 hts gX8_hunt_X8_isTwo rfl rfl rfl (by decide +kernel) ⟨by decide, by decide⟩) dX8_hunt_77 jk20 rfl rfl rfl rfl (Nat.le_of_ble_eq_true rfl) (fun r_77 u_77 H locs hp_77 hB => ?_)
              obtain ⟨rfl, rfl⟩ := hp_77
              refine jb_if_eq (tgt := 85) hx hb dX8_hunt_80 (by decide) (fun c_80 => ?_) (fun c_80 => ?_)
              · refine lv_iload_n hx hb dX8_hunt_85 rfl (lv_at hl 4 rfl) ?_
                refine lv_iconst (v := nI 2) hx hb dX8_hunt_86 (by decide) ?_
                refine jn_icmp_le (tgt := 105) hx hb dX8_hunt_87 (by decide) (by omega) (by omega) (fun c_87 => ?_) (fun c_87 => ?_)
                · refine lv_bipush (v := (-4 : Int32)) hx hb dX8_hunt_105 (by decide) ?_
                  exact j_iret hC hB dX8_hunt_107 (⟨by first | (exfalso; omega) | simp [hunA, hunF, nIc (show nn < 2147483648 by omega), tN, ceF, nIc (show mm < 2147483648 by omega), nIc (show cc < 2147483648 by omega), ecc, nIc (show xx < 2147483648 by omega), c_5, c_12, c_24, c_43, c_80, show ¬ 0 < nn by omega, show 1 < nn by omega, show ¬ 2 < nn by omega], ⟨SM.rf, SMJ.rf, rfl⟩⟩)
                · refine lv_aload_n hx hb dX8_hunt_90 rfl (lv_at hl 1 rfl) ?_
                  refine lv_iload_n hx hb dX8_hunt_91 rfl (lv_at hl 2 rfl) ?_
                  refine lv_iload hx hb dX8_hunt_92 (lv_at hl 0 rfl) ?_
                  refine lv_iload_n hx hb dX8_hunt_94 rfl (lv_at hl 3 rfl) ?_
                  refine j_cvi (20, 0, 0) [.int (nI mm), .int (nI cc), .int (nI xx)] hC hB hl.1 (c_X8_isThree l_ G I J O mm cc xx (by omega) (by omega) (by omega) (by omega) (hD) (hW)) (cwV 3 hts gX8_hunt_X8_isThree rfl rfl rfl (by decide +kernel) ⟨by decide, by decide⟩) dX8_hunt_95 jk20 rfl rfl rfl rfl (Nat.le_of_ble_eq_true rfl) (fun r_95 u_95 H locs hp_95 hB => ?_)
                  obtain ⟨rfl, rfl⟩ := hp_95
                  refine jb_if_eq (tgt := 105) hx hb dX8_hunt_98 (by decide) (fun c_98 => ?_) (fun c_98 => ?_)
                  · refine lv_bipush (v := (-4 : Int32)) hx hb dX8_hunt_105 (by decide) ?_
                    exact j_iret hC hB dX8_hunt_107 (⟨by first | (exfalso; omega) | simp [hunA, hunF, nIc (show nn < 2147483648 by omega), tN, ceF, nIc (show mm < 2147483648 by omega), nIc (show cc < 2147483648 by omega), ecc, nIc (show xx < 2147483648 by omega), c_5, c_12, c_24, c_43, c_80, c_98, show ¬ 0 < nn by omega, show 1 < nn by omega, show 2 < nn by omega], ⟨SM.rf, SMJ.rf, rfl⟩⟩)
                  · refine lv_iconst (v := nI 3) hx hb dX8_hunt_101 (by decide) ?_
                    refine lv_goto (tgt := 107) hx hb dX8_hunt_102 (by decide) ?_
                    exact j_iret hC hB dX8_hunt_107 (⟨by first | (exfalso; omega) | simp [hunA, hunF, nIc (show nn < 2147483648 by omega), tN, ceF, nIc (show mm < 2147483648 by omega), nIc (show cc < 2147483648 by omega), ecc, nIc (show xx < 2147483648 by omega), c_5, c_12, c_24, c_43, c_80, c_98, show ¬ 0 < nn by omega, show 1 < nn by omega, show 2 < nn by omega], ⟨SM.rf, SMJ.rf, rfl⟩⟩)
              · refine lv_iconst (v := nI 2) hx hb dX8_hunt_83 (by decide) ?_
                exact j_iret hC hB dX8_hunt_84 (⟨by first | (exfalso; omega) | simp [hunA, hunF, nIc (show nn < 2147483648 by omega), tN, ceF, nIc (show mm < 2147483648 by omega), nIc (show cc < 2147483648 by omega), ecc, nIc (show xx < 2147483648 by omega), c_5, c_12, c_24, c_43, c_80, show ¬ 0 < nn by omega, show 1 < nn by omega], ⟨SM.rf, SMJ.rf, rfl⟩⟩)
          · refine lv_aload_n hx hb dX8_hunt_52 rfl (lv_at hl 1 rfl) ?_
            refine lv_iload_n hx hb dX8_hunt_53 rfl (lv_at hl 2 rfl) ?_
            refine lv_iload hx hb dX8_hunt_54 (lv_at hl 0 rfl) ?_
            refine lv_iload_n hx hb dX8_hunt_56 rfl (lv_at hl 3 rfl) ?_
            refine lv_iconst (v := nI 0) hx hb dX8_hunt_57 (by decide) ?_
            refine j_cvi (20, 0, 0) [.int (nI mm), .int (nI cc), .int (nI xx), .int (nI 0)] hC hB hl.1 (c_X8_isOne l_ G I J O mm cc xx (nI 0) (by omega) (by omega) (by omega) (by omega) (hD) (hW)) (cwV 4 hts gX8_hunt_X8_isOne rfl rfl rfl (by decide +kernel) ⟨by decide, by decide⟩) dX8_hunt_58 jk20 rfl rfl rfl rfl (Nat.le_of_ble_eq_true rfl) (fun r_58 u_58 H locs hp_58 hB => ?_)
            obtain ⟨rfl, rfl⟩ := hp_58
            refine jb_if_eq (tgt := 66) hx hb dX8_hunt_61 (by decide) (fun c_61 => ?_) (fun c_61 => ?_)
            · refine lv_iload_n hx hb dX8_hunt_66 rfl (lv_at hl 4 rfl) ?_
              refine lv_iconst (v := nI 1) hx hb dX8_hunt_67 (by decide) ?_
              refine jn_icmp_le (tgt := 85) hx hb dX8_hunt_68 (by decide) (by omega) (by omega) (fun c_68 => ?_) (fun c_68 => ?_)
              · refine lv_iload_n hx hb dX8_hunt_85 rfl (lv_at hl 4 rfl) ?_
                refine lv_iconst (v := nI 2) hx hb dX8_hunt_86 (by decide) ?_
                refine jn_icmp_le (tgt := 105) hx hb dX8_hunt_87 (by decide) (by omega) (by omega) (fun c_87 => ?_) (fun c_87 => ?_)
                · refine lv_bipush (v := (-4 : Int32)) hx hb dX8_hunt_105 (by decide) ?_
                  exact j_iret hC hB dX8_hunt_107 (⟨by first | (exfalso; omega) | simp [hunA, hunF, nIc (show nn < 2147483648 by omega), tN, ceF, nIc (show mm < 2147483648 by omega), nIc (show cc < 2147483648 by omega), ecc, nIc (show xx < 2147483648 by omega), c_5, c_12, c_24, c_43, c_61, show 0 < nn by omega, show ¬ 1 < nn by omega, show ¬ 2 < nn by omega], ⟨SM.rf, SMJ.rf, rfl⟩⟩)
                · refine lv_aload_n hx hb dX8_hunt_90 rfl (lv_at hl 1 rfl) ?_
                  refine lv_iload_n hx hb dX8_hunt_91 rfl (lv_at hl 2 rfl) ?_
                  refine lv_iload hx hb dX8_hunt_92 (lv_at hl 0 rfl) ?_
                  refine lv_iload_n hx hb dX8_hunt_94 rfl (lv_at hl 3 rfl) ?_
                  refine j_cvi (20, 0, 0) [.int (nI mm), .int (nI cc), .int (nI xx)] hC hB hl.1 (c_X8_isThree l_ G I J O mm cc xx (by omega) (by omega) (by omega) (by omega) (hD) (hW)) (cwV 3 hts gX8_hunt_X8_isThree rfl rfl rfl (by decide +kernel) ⟨by decide, by decide⟩) dX8_hunt_95 jk20 rfl rfl rfl rfl (Nat.le_of_ble_eq_true rfl) (fun r_95 u_95 H locs hp_95 hB => ?_)
                  obtain ⟨rfl, rfl⟩ := hp_95
                  refine jb_if_eq (tgt := 105) hx hb dX8_hunt_98 (by decide) (fun c_98 => ?_) (fun c_98 => ?_)
                  · refine lv_bipush (v := (-4 : Int32)) hx hb dX8_hunt_105 (by decide) ?_
                    exact j_iret hC hB dX8_hunt_107 (⟨by first | (exfalso; omega) | simp [hunA, hunF, nIc (show nn < 2147483648 by omega), tN, ceF, nIc (show mm < 2147483648 by omega), nIc (show cc < 2147483648 by omega), ecc, nIc (show xx < 2147483648 by omega), c_5, c_12, c_24, c_43, c_61, c_98, show 0 < nn by omega, show ¬ 1 < nn by omega, show 2 < nn by omega], ⟨SM.rf, SMJ.rf, rfl⟩⟩)
                  · refine lv_iconst (v := nI 3) hx hb dX8_hunt_101 (by decide) ?_
                    refine lv_goto (tgt := 107) hx hb dX8_hunt_102 (by decide) ?_
                    exact j_iret hC hB dX8_hunt_107 (⟨by first | (exfalso; omega) | simp [hunA, hunF, nIc (show nn < 2147483648 by omega), tN, ceF, nIc (show mm < 2147483648 by omega), nIc (show cc < 2147483648 by omega), ecc, nIc (show xx < 2147483648 by omega), c_5, c_12, c_24, c_43, c_61, c_98, show 0 < nn by omega, show ¬ 1 < nn by omega, show 2 < nn by omega], ⟨SM.rf, SMJ.rf, rfl⟩⟩)
              · refine lv_aload_n hx hb dX8_hunt_71 rfl (lv_at hl 1 rfl) ?_
                refine lv_iload_n hx hb dX8_hunt_72 rfl (lv_at hl 2 rfl) ?_
                refine lv_iload hx hb dX8_hunt_73 (lv_at hl 0 rfl) ?_
                refine lv_iload_n hx hb dX8_hunt_75 rfl (lv_at hl 3 rfl) ?_
                refine lv_iconst (v := nI 0) hx hb dX8_hunt_76 (by decide) ?_
                refine j_cvi (20, 0, 0) [.int (nI mm), .int (nI cc), .int (nI xx), .int (nI 0)] hC hB hl.1 (c_X8_isTwo l_ G I J O mm cc xx (nI 0) (by omega) (by omega) (by omega) (by omega) (hD) (hW)) (cwV 4 hts gX8_hunt_X8_isTwo rfl rfl rfl (by decide +kernel) ⟨by decide, by decide⟩) dX8_hunt_77 jk20 rfl rfl rfl rfl (Nat.le_of_ble_eq_true rfl) (fun r_77 u_77 H locs hp_77 hB => ?_)
                obtain ⟨rfl, rfl⟩ := hp_77
                refine jb_if_eq (tgt := 85) hx hb dX8_hunt_80 (by decide) (fun c_80 => ?_) (fun c_80 => ?_)
                · refine lv_iload_n hx hb dX8_hunt_85 rfl (lv_at hl 4 rfl) ?_
                  refine lv_iconst (v := nI 2) hx hb dX8_hunt_86 (by decide) ?_
                  refine jn_icmp_le (tgt := 105) hx hb dX8_hunt_87 (by decide) (by omega) (by omega) (fun c_87 => ?_) (fun c_87 => ?_)
                  · refine lv_bipush (v := (-4 : Int32)) hx hb dX8_hunt_105 (by decide) ?_
                    exact j_iret hC hB dX8_hunt_107 (⟨by first | (exfalso; omega) | simp [hunA, hunF, nIc (show nn < 2147483648 by omega), tN, ceF, nIc (show mm < 2147483648 by omega), nIc (show cc < 2147483648 by omega), ecc, nIc (show xx < 2147483648 by omega), c_5, c_12, c_24, c_43, c_61, c_80, show 0 < nn by omega, show 1 < nn by omega, show ¬ 2 < nn by omega], ⟨SM.rf, SMJ.rf, rfl⟩⟩)
                  · refine lv_aload_n hx hb dX8_hunt_90 rfl (lv_at hl 1 rfl) ?_
                    refine lv_iload_n hx hb dX8_hunt_91 rfl (lv_at hl 2 rfl) ?_
                    refine lv_iload hx hb dX8_hunt_92 (lv_at hl 0 rfl) ?_
                    refine lv_iload_n hx hb dX8_hunt_94 rfl (lv_at hl 3 rfl) ?_
                    refine j_cvi (20, 0, 0) [.int (nI mm), .int (nI cc), .int (nI xx)] hC hB hl.1 (c_X8_isThree l_ G I J O mm cc xx (by omega) (by omega) (by omega) (by omega) (hD) (hW)) (cwV 3 hts gX8_hunt_X8_isThree rfl rfl rfl (by decide +kernel) ⟨by decide, by decide⟩) dX8_hunt_95 jk20 rfl rfl rfl rfl (Nat.le_of_ble_eq_true rfl) (fun r_95 u_95 H locs hp_95 hB => ?_)
                    obtain ⟨rfl, rfl⟩ := hp_95
                    refine jb_if_eq (tgt := 105) hx hb dX8_hunt_98 (by decide) (fun c_98 => ?_) (fun c_98 => ?_)
                    · refine lv_bipush (v := (-4 : Int32)) hx hb dX8_hunt_105 (by decide) ?_
                      exact j_iret hC hB dX8_hunt_107 (⟨by first | (exfalso; omega) | simp [hunA, hunF, nIc (show nn < 2147483648 by omega), tN, ceF, nIc (show mm < 2147483648 by omega), nIc (show cc < 2147483648 by omega), ecc, nIc (show xx < 2147483648 by omega), c_5, c_12, c_24, c_43, c_61, c_80, c_98, show 0 < nn by omega, show 1 < nn by omega, show 2 < nn by omega], ⟨SM.rf, SMJ.rf, rfl⟩⟩)
                    · refine lv_iconst (v := nI 3) hx hb dX8_hunt_101 (by decide) ?_
                      refine lv_goto (tgt := 107) hx hb dX8_hunt_102 (by decide) ?_
                      exact j_iret hC hB dX8_hunt_107 (⟨by first | (exfalso; omega) | simp [hunA, hunF, nIc (show nn < 2147483648 by omega), tN, ceF, nIc (show mm < 2147483648 by omega), nIc (show cc < 2147483648 by omega), ecc, nIc (show xx < 2147483648 by omega), c_5, c_12, c_24, c_43, c_61, c_80, c_98, show 0 < nn by omega, show 1 < nn by omega, show 2 < nn by omega], ⟨SM.rf, SMJ.rf, rfl⟩⟩)
                · refine lv_iconst (v := nI 2) hx hb dX8_hunt_83 (by decide) ?_
                  exact j_iret hC hB dX8_hunt_84 (⟨by first | (exfalso; omega) | simp [hunA, hunF, nIc (show nn < 2147483648 by omega), tN, ceF, nIc (show mm < 2147483648 by omega), nIc (show cc < 2147483648 by omega), ecc, nIc (show xx < 2147483648 by omega), c_5, c_12, c_24, c_43, c_61, c_80, show 0 < nn by omega, show 1 < nn by omega], ⟨SM.rf, SMJ.rf, rfl⟩⟩)
            · refine lv_iconst (v := nI 1) hx hb dX8_hunt_64 (by decide) ?_
              exact j_iret hC hB dX8_hunt_65 (⟨by first | (exfalso; omega) | simp [hunA, hunF, nIc (show nn < 2147483648 by omega), tN, ceF, nIc (show mm < 2147483648 by omega), nIc (show cc < 2147483648 by omega), ecc, nIc (show xx < 2147483648 by omega), c_5, c_12, c_24, c_43, c_61, show 0 < nn by omega], ⟨SM.rf, SMJ.rf, rfl⟩⟩)
        · refine lv_iconst (v := nI 0) hx hb dX8_hunt_46 (by decide) ?_
          exact j_iret hC hB dX8_hunt_47 (⟨by first | (exfalso; omega) | simp [hunA, hunF, nIc (show nn < 2147483648 by omega), tN, ceF, nIc (show mm < 2147483648 by omega), nIc (show cc < 2147483648 by omega), ecc, nIc (show xx < 2147483648 by omega), c_5, c_12, c_24, eq_true c_43], ⟨SM.rf, SMJ.rf, rfl⟩⟩)
      · refine lv_iconst (v := (-1 : Int32)) hx hb dX8_hunt_27 (by decide) ?_
        exact j_iret hC hB dX8_hunt_28 (⟨by simp [hunA, c_5, c_12, c_24], ⟨SM.rf, SMJ.rf, rfl⟩⟩)

set_option maxHeartbeats 4000000 in
set_option maxRecDepth 100000 in
theorem c_X8_layLeft (l_ : Launch) (G : jG) (I : Nat → Nat → Int32) (J : Nat → Nat → Int64) (O : Nat → Nat → Nat) (m to_ : Nat) (hm : m < 4) (hto : to_ < 8) {nd : Nat} (hnd : nd ≤ 10) (hD : I 41 0 = nI nd) (hW : wfD (I 41) nd) : jMv l_ G yX8_layLeft wsX8_layLeft ({ frames := 3, cells := 0, slots := 0, locals := 73 }) [.ref (G.2.2.1 (20, 0, 0)), .int (nI m), .int (nI to_)] (I, J, O) (fun u => u = (sr I 45 (llF (I 41) (I 45) m to_ nd), J, O)) := by
  refine jMv_of (cc := cX8_layLeft) (maxL := 6) (ret := none) (lv0 := [(0, .ref (G.2.2.1 (20, 0, 0))), (1, .int (nI m)), (2, .int (nI to_))]) (by decide) rfl (Nat.le_of_ble_eq_true rfl) rfl ?_
  intro pg_ ev_ s_ mi_ below meth cd_ A ls hC hB hl
  obtain ⟨hx, hb, hr, hml, hown, hts, hlocks, hK, hA⟩ := id hC
  have lk_7 := hts (.fieldLink RX8 7 "RiddlePrisonModel" "now" "[I") (by decide +kernel)
  have lk_22 := hts (.fieldLink RX8 22 "RiddlePrisonModel" "left" "[I") (by decide +kernel)
  have in_X8 := (fun w h => List.mem_cons_of_mem _ (List.mem_append_right _ h) : ∀ w ∈ wsX80, w ∈ wsX8_layLeft)
  refine lv_iconst (v := nI 0) hx hb dX8_layLeft_0 (by decide) ?_
  refine lv_istore_n (lv' := [(3, .int (nI 0)), (0, .ref (G.2.2.1 (20, 0, 0))), (1, .int (nI m)), (2, .int (nI to_))]) hx hb dX8_layLeft_1 rfl hl (by decide) rfl (fun ls hl => ?_)
  have lp_2 : ∀ (fu : Nat) (f : Nat → Int32) (k : Nat), 8 - k < fu → (k ≤ 8) → (f = inR8 (I 45) to_ (nI 0) (nI 1000000) k) → ∀ H locs ls, jB G A s_.heap (sr I 45 (f), J, O) H locs → lv_has ls 6 [(3, .int (nI k)), (0, .ref (G.2.2.1 (20, 0, 0))), (1, .int (nI m)), (2, .int (nI to_))] → W pg_ l_ ev_ ({ frames := 3, cells := 0, slots := 0, locals := 73 }) s_ mi_ ([.ref (G.2.2.1 (20, 0, 0)), .int (nI m), .int (nI to_)]).toArray below meth cd_ H locs 0 0 (jQv G A below [.ref (G.2.2.1 (20, 0, 0)), .int (nI m), .int (nI to_)] s_ (fun u => u = (sr I 45 (llF (I 41) (I 45) m to_ nd), J, O))) (F0 mi_ 2 ls []) := by
    intro fu
    induction fu with
    | zero => intro f k hf; exact absurd hf (Nat.not_lt_zero _)
    | succ fu ih_2 =>
      intro f k hf_2 hk hf H locs ls hB hl
      refine lv_iload_n hx hb dX8_layLeft_2 rfl (lv_at hl 0 rfl) ?_
      refine lv_bipush (v := nI 8) hx hb dX8_layLeft_3 (by decide) ?_
      refine jn_icmp_ge (tgt := 31) hx hb dX8_layLeft_5 (by decide) (by omega) (by omega) (fun c_5 => ?_) (fun c_5 => ?_)
      · refine lv_iconst (v := nI 0) hx hb dX8_layLeft_31 (by decide) ?_
        refine lv_istore_n (lv' := [(3, .int (nI 0)), (0, .ref (G.2.2.1 (20, 0, 0))), (1, .int (nI m)), (2, .int (nI to_))]) hx hb dX8_layLeft_32 rfl hl (by decide) rfl (fun ls hl => ?_)
        have lp_33 : ∀ (fu : Nat) (f0 : Nat → Int32) (n : Nat), 8 - n < fu → (n ≤ 8) → (f0 = it (llN (I 41) m nd) n (inR8 (I 45) to_ (nI 0) (nI 1000000) 8)) → ∀ H locs ls, jB G A s_.heap (sr I 45 (f0), J, O) H locs → lv_has ls 6 [(3, .int (nI n)), (0, .ref (G.2.2.1 (20, 0, 0))), (1, .int (nI m)), (2, .int (nI to_))] → W pg_ l_ ev_ ({ frames := 3, cells := 0, slots := 0, locals := 73 }) s_ mi_ ([.ref (G.2.2.1 (20, 0, 0)), .int (nI m), .int (nI to_)]).toArray below meth cd_ H locs 0 0 (jQv G A below [.ref (G.2.2.1 (20, 0, 0)), .int (nI m), .int (nI to_)] s_ (fun u => u = (sr I 45 (llF (I 41) (I 45) m to_ nd), J, O))) (F0 mi_ 33 ls []) := by
          intro fu
          induction fu with
          | zero => intro f0 n hf; exact absurd hf (Nat.not_lt_zero _)
          | succ fu ih_33 =>
            intro f0 n hf_33 hn he0 H locs ls hB hl
            refine lv_iload_n hx hb dX8_layLeft_33 rfl (lv_at hl 0 rfl) ?_
            refine lv_bipush (v := nI 8) hx hb dX8_layLeft_34 (by decide) ?_
            refine jn_icmp_ge (tgt := 142) hx hb dX8_layLeft_36 (by decide) (by omega) (by omega) (fun c_36 => ?_) (fun c_36 => ?_)
            · exact j_vret hC hB dX8_layLeft_142 (by rw [show llF (I 41) (I 45) m to_ nd = f0 from by rw [he0, show n = 8 by omega]; rfl])
            · refine lv_iconst (v := nI 0) hx hb dX8_layLeft_39 (by decide) ?_
              refine lv_istore (lv' := [(4, .int (nI 0)), (3, .int (nI n)), (0, .ref (G.2.2.1 (20, 0, 0))), (1, .int (nI m)), (2, .int (nI to_))]) hx hb dX8_layLeft_40 hl (by decide) rfl (fun ls hl => ?_)
              have lp_42 : ∀ (fu : Nat) (f1 : Nat → Int32) (c : Nat), 8 - c < fu → (c ≤ 8) → (f1 = it (llC (I 41) m nd n) c f0) → ∀ H locs ls, jB G A s_.heap (sr I 45 (f1), J, O) H locs → lv_has ls 6 [(4, .int (nI c)), (3, .int (nI n)), (0, .ref (G.2.2.1 (20, 0, 0))), (1, .int (nI m)), (2, .int (nI to_))] → W pg_ l_ ev_ ({ frames := 3, cells := 0, slots := 0, locals := 73 }) s_ mi_ ([.ref (G.2.2.1 (20, 0, 0)), .int (nI m), .int (nI to_)]).toArray below meth cd_ H locs 0 0 (jQv G A below [.ref (G.2.2.1 (20, 0, 0)), .int (nI m), .int (nI to_)] s_ (fun u => u = (sr I 45 (llF (I 41) (I 45) m to_ nd), J, O))) (F0 mi_ 42 ls []) := by
                intro fu
                induction fu with
                | zero => intro f1 c hf; exact absurd hf (Nat.not_lt_zero _)
                | succ fu ih_42 =>
                  intro f1 c hf_42 hc he1 H locs ls hB hl
                  refine lv_iload hx hb dX8_layLeft_42 (lv_at hl 0 rfl) ?_
                  refine lv_bipush (v := nI 8) hx hb dX8_layLeft_44 (by decide) ?_
                  refine jn_icmp_ge (tgt := 136) hx hb dX8_layLeft_46 (by decide) (by omega) (by omega) (fun c_46 => ?_) (fun c_46 => ?_)
                  · refine lv_iinc (v := nI (n + 1)) (lv' := [(3, .int (nI (n + 1))), (4, .int (nI c)), (0, .ref (G.2.2.1 (20, 0, 0))), (1, .int (nI m)), (2, .int (nI to_))]) hx hb dX8_layLeft_136 hl (k := 1) rfl (jn_inc _ 1) (by decide) rfl (fun ls hl => ?_)
                    refine lv_goto (tgt := 33) hx hb dX8_layLeft_139 (by decide) ?_
                    exact ih_33 f1 (n + 1) (by omega) (by omega) (by rw [he1, show c = 8 by omega, he0]; rfl) _ _ _ (jB_cast2 hB (by first | rfl | exact (sr_id _ _).symm | exact (srJ_id _ _).symm | (funext a; simp +decide only [sr, srJ]; (repeat' split) <;> first | rfl | (exfalso; omega) | (subst_vars; rfl))) (by first | rfl | exact (sr_id _ _).symm | exact (srJ_id _ _).symm | (funext a; simp +decide only [sr, srJ]; (repeat' split) <;> first | rfl | (exfalso; omega) | (subst_vars; rfl)))) (lv_sub hl [0, 2, 3, 4] rfl)
                  · refine lv_iconst (v := nI 0) hx hb dX8_layLeft_49 (by decide) ?_
                    refine lv_istore (lv' := [(5, .int (nI 0)), (4, .int (nI c)), (3, .int (nI n)), (0, .ref (G.2.2.1 (20, 0, 0))), (1, .int (nI m)), (2, .int (nI to_))]) hx hb dX8_layLeft_50 hl (by decide) rfl (fun ls hl => ?_)
                    have lp_52 : ∀ (fu : Nat) (f2 : Nat → Int32) (d : Nat), nd - d < fu → (d ≤ nd) → (f2 = it (llD (I 41) m n c) d f1) → ∀ H locs ls, jB G A s_.heap (sr I 45 (f2), J, O) H locs → lv_has ls 6 [(5, .int (nI d)), (4, .int (nI c)), (3, .int (nI n)), (0, .ref (G.2.2.1 (20, 0, 0))), (1, .int (nI m)), (2, .int (nI to_))] → W pg_ l_ ev_ ({ frames := 3, cells := 0, slots := 0, locals := 73 }) s_ mi_ ([.ref (G.2.2.1 (20, 0, 0)), .int (nI m), .int (nI to_)]).toArray below meth cd_ H locs 0 0 (jQv G A below [.ref (G.2.2.1 (20, 0, 0)), .int (nI m), .int (nI to_)] s_ (fun u => u = (sr I 45 (llF (I 41) (I 45) m to_ nd), J, O))) (F0 mi_ 52 ls []) := by
                      intro fu
                      induction fu with
                      | zero => intro f2 d hf; exact absurd hf (Nat.not_lt_zero _)
                      | succ fu ih_52 =>
                        intro f2 d hf_52 hd he2 H locs ls hB hl
                        refine lv_iload hx hb dX8_layLeft_52 (lv_at hl 0 rfl) ?_
                        refine lv_aload_n hx hb dX8_layLeft_54 rfl (lv_at hl 3 rfl) ?_
                        refine j_get (20, 0, 0) 0 (v := .ref (G.2.2.1 (21, 41, 0))) hC hB in_X8 lk_7 dX8_layLeft_55 jk20 rfl rfl (by decide) rfl ?_
                        refine lv_iconst (v := nI 0) hx hb dX8_layLeft_58 (by decide) ?_
                        refine j_ild 41 0 hC hB dX8_layLeft_59 (by decide) rfl (by simp only [lenI_41]; omega) ?_
                        refine j_eqi (x := (sr I 45 (f2)) 41 0) (y := nI nd) ((congrFun (sr_ne (show (41 : Nat) ≠ 45 by omega)) _).trans (hD)) ?_
                        refine jn_icmp_ge (tgt := 130) hx hb dX8_layLeft_60 (by decide) (by omega) (by omega) (fun c_60 => ?_) (fun c_60 => ?_)
                        · refine lv_iinc (v := nI (c + 1)) (lv' := [(4, .int (nI (c + 1))), (5, .int (nI d)), (3, .int (nI n)), (0, .ref (G.2.2.1 (20, 0, 0))), (1, .int (nI m)), (2, .int (nI to_))]) hx hb dX8_layLeft_130 hl (k := 1) rfl (jn_inc _ 1) (by decide) rfl (fun ls hl => ?_)
                          refine lv_goto (tgt := 42) hx hb dX8_layLeft_133 (by decide) ?_
                          exact ih_42 f2 (c + 1) (by omega) (by omega) (by show _ = llC _ _ _ _ _ (it _ _ _); rw [← he1, he2, show d = nd by omega]; rfl) _ _ _ (jB_cast2 hB (by first | rfl | exact (sr_id _ _).symm | exact (srJ_id _ _).symm | (funext a; simp +decide only [sr, srJ]; (repeat' split) <;> first | rfl | (exfalso; omega) | (subst_vars; rfl))) (by first | rfl | exact (sr_id _ _).symm | exact (srJ_id _ _).symm | (funext a; simp +decide only [sr, srJ]; (repeat' split) <;> first | rfl | (exfalso; omega) | (subst_vars; rfl)))) (lv_sub hl [0, 2, 3, 4, 5] rfl)
                        · refine lv_aload_n hx hb dX8_layLeft_63 rfl (lv_at hl 3 rfl) ?_
                          refine j_get (20, 0, 0) 6 (v := .ref (G.2.2.1 (21, 45, 0))) hC hB in_X8 lk_22 dX8_layLeft_64 jk20 rfl rfl (by decide) rfl ?_
                          refine lv_iload hx hb dX8_layLeft_67 (lv_at hl 1 rfl) ?_
                          refine j_ild 45 c hC hB dX8_layLeft_69 (by decide) rfl (by simp only [lenI_45]; omega) ?_
                          refine j_eqi (x := (sr I 45 (f2)) 45 c) (y := f2 c) ((congrFun sr_self _)) ?_
                          refine lv_ldc (v := 1000000) hx hb hown (hts (.constant RX8 148 (1000000)) (by decide +kernel)) dX8_layLeft_70 ?_
                          refine j_eqi (y := nI 1000000) rfl ?_
                          refine lv_icmp_ne (tgt := 130) hx hb dX8_layLeft_72 (by decide) (fun c_72 => ?_) (fun c_72 => ?_)
                          · refine lv_iinc (v := nI (c + 1)) (lv' := [(4, .int (nI (c + 1))), (5, .int (nI d)), (3, .int (nI n)), (0, .ref (G.2.2.1 (20, 0, 0))), (1, .int (nI m)), (2, .int (nI to_))]) hx hb dX8_layLeft_130 hl (k := 1) rfl (jn_inc _ 1) (by decide) rfl (fun ls hl => ?_)
                            refine lv_goto (tgt := 42) hx hb dX8_layLeft_133 (by decide) ?_
                            exact ih_42 f2 (c + 1) (by omega) (by omega) (by show _ = llC _ _ _ _ _ (it _ _ _); rw [← he1]; exact llC_stop hd he2 c_72) _ _ _ (jB_cast2 hB (by first | rfl | exact (sr_id _ _).symm | exact (srJ_id _ _).symm | (funext a; simp +decide only [sr, srJ]; (repeat' split) <;> first | rfl | (exfalso; omega) | (subst_vars; rfl))) (by first | rfl | exact (sr_id _ _).symm | exact (srJ_id _ _).symm | (funext a; simp +decide only [sr, srJ]; (repeat' split) <;> first | rfl | (exfalso; omega) | (subst_vars; rfl)))) (lv_sub hl [0, 2, 3, 4, 5] rfl)
                          · refine lv_aload_n hx hb dX8_layLeft_75 rfl (lv_at hl 3 rfl) ?_
                            refine j_get (20, 0, 0) 6 (v := .ref (G.2.2.1 (21, 45, 0))) hC hB in_X8 lk_22 dX8_layLeft_76 jk20 rfl rfl (by decide) rfl ?_
                            refine lv_iload hx hb dX8_layLeft_79 (lv_at hl 1 rfl) ?_
                            refine lv_aload_n hx hb dX8_layLeft_81 rfl (lv_at hl 3 rfl) ?_
                            refine lv_iload_n hx hb dX8_layLeft_82 rfl (lv_at hl 4 rfl) ?_
                            refine lv_iload hx hb dX8_layLeft_83 (lv_at hl 0 rfl) ?_
                            refine lv_iload hx hb dX8_layLeft_85 (lv_at hl 1 rfl) ?_
                            refine j_cvi (20, 0, 0) [.int (nI m), .int (nI d), .int (nI c)] hC hB hl.1 (c_X8_passes l_ G (sr I 45 (f2)) J O m d (nI c) (by omega) (by omega)) (cwV 3 hts gX8_layLeft_X8_passes rfl rfl rfl (by decide +kernel) ⟨by decide, by decide⟩) dX8_layLeft_87 jk20 rfl rfl rfl rfl (Nat.le_of_ble_eq_true rfl) (fun r_87 u_87 H locs hp_87 hB => ?_)
                            obtain ⟨rfl, rfl⟩ := hp_87
                            refine j_eqi (y := b2 (psB (I 41) m d (nI c))) rfl ?_
                            refine jb_if_eq (tgt := 116) hx hb dX8_layLeft_90 (by decide) (fun c_90 => ?_) (fun c_90 => ?_)
                            · refine lv_aload_n hx hb dX8_layLeft_116 rfl (lv_at hl 3 rfl) ?_
                              refine j_get (20, 0, 0) 6 (v := .ref (G.2.2.1 (21, 45, 0))) hC hB in_X8 lk_22 dX8_layLeft_117 jk20 rfl rfl (by decide) rfl ?_
                              refine lv_iload hx hb dX8_layLeft_120 (lv_at hl 1 rfl) ?_
                              refine j_ild 45 c hC hB dX8_layLeft_122 (by decide) rfl (by simp only [lenI_45]; omega) ?_
                              refine j_eqi (x := (sr I 45 (f2)) 45 c) (y := f2 c) ((congrFun sr_self _)) ?_
                              refine j_ist 45 c hC hB dX8_layLeft_123 (by decide) rfl (by simp only [lenI_45]; omega) (fun H locs hB => ?_)
                              have hB : jB G A s_.heap (sr I 45 (upd (f2) c (f2 c)), J, O) H locs := by rw [show sr I 45 (upd (f2) c (f2 c)) = u2 (sr I 45 (f2)) 45 c (f2 c) from (u2_sr _ _ _ _ _).symm]; exact hB
                              refine lv_iinc (v := nI (d + 1)) (lv' := [(5, .int (nI (d + 1))), (4, .int (nI c)), (3, .int (nI n)), (0, .ref (G.2.2.1 (20, 0, 0))), (1, .int (nI m)), (2, .int (nI to_))]) hx hb dX8_layLeft_124 hl (k := 0) rfl (jn_inc _ 1) (by decide) rfl (fun ls hl => ?_)
                              refine lv_goto (tgt := 52) hx hb dX8_layLeft_127 (by decide) ?_
                              exact ih_52 (upd (f2) c (f2 c)) (d + 1) (by omega) (by omega) (by show _ = llD _ _ _ _ _ (it _ _ _); rw [← he2]; simp [llD, eq_true c_72, c_90]) _ _ _ (jB_cast2 hB (by first | rfl | exact (sr_id _ _).symm | exact (srJ_id _ _).symm | (funext a; simp +decide only [sr, srJ]; (repeat' split) <;> first | rfl | (exfalso; omega) | (subst_vars; rfl))) (by first | rfl | exact (sr_id _ _).symm | exact (srJ_id _ _).symm | (funext a; simp +decide only [sr, srJ]; (repeat' split) <;> first | rfl | (exfalso; omega) | (subst_vars; rfl)))) (lv_sub hl [0, 1, 2, 3, 4, 5] rfl)
                            · refine lv_aload_n hx hb dX8_layLeft_93 rfl (lv_at hl 3 rfl) ?_
                              refine j_get (20, 0, 0) 6 (v := .ref (G.2.2.1 (21, 45, 0))) hC hB in_X8 lk_22 dX8_layLeft_94 jk20 rfl rfl (by decide) rfl ?_
                              refine lv_aload_n hx hb dX8_layLeft_97 rfl (lv_at hl 3 rfl) ?_
                              refine lv_iload hx hb dX8_layLeft_98 (lv_at hl 0 rfl) ?_
                              refine lv_iload hx hb dX8_layLeft_100 (lv_at hl 1 rfl) ?_
                              refine j_cvi (20, 0, 0) [.int (nI d), .int (nI c)] hC hB hl.1 (c_X8_behind l_ G (sr I 45 (f2)) J O d (nI c) (by omega)) (cwV 2 hts gX8_layLeft_X8_behind rfl rfl rfl (by decide +kernel) ⟨by decide, by decide⟩) dX8_layLeft_102 jk20 rfl rfl rfl rfl (Nat.le_of_ble_eq_true rfl) (fun r_102 u_102 H locs hp_102 hB => ?_)
                              obtain ⟨rfl, rfl⟩ := hp_102
                              refine j_eqi (y := bhF (I 41) d (nI c)) rfl ?_
                              have hbt := ps_ok hW (show d < nd by omega) c_90
                              refine j_eqi hbt.1 ?_
                              refine j_ild 45 (btF (I 41) d c) hC hB dX8_layLeft_105 (by decide) rfl (by simp only [lenI_45]; omega) ?_
                              refine j_eqi (x := (sr I 45 (f2)) 45 (btF (I 41) d c)) (y := f2 (btF (I 41) d c)) ((congrFun sr_self _)) ?_
                              refine lv_iload_n hx hb dX8_layLeft_106 rfl (lv_at hl 2 rfl) ?_
                              refine lv_icmp_ne (tgt := 116) hx hb dX8_layLeft_107 (by decide) (fun c_107 => ?_) (fun c_107 => ?_)
                              · refine lv_aload_n hx hb dX8_layLeft_116 rfl (lv_at hl 3 rfl) ?_
                                refine j_get (20, 0, 0) 6 (v := .ref (G.2.2.1 (21, 45, 0))) hC hB in_X8 lk_22 dX8_layLeft_117 jk20 rfl rfl (by decide) rfl ?_
                                refine lv_iload hx hb dX8_layLeft_120 (lv_at hl 1 rfl) ?_
                                refine j_ild 45 c hC hB dX8_layLeft_122 (by decide) rfl (by simp only [lenI_45]; omega) ?_
                                refine j_eqi (x := (sr I 45 (f2)) 45 c) (y := f2 c) ((congrFun sr_self _)) ?_
                                refine j_ist 45 c hC hB dX8_layLeft_123 (by decide) rfl (by simp only [lenI_45]; omega) (fun H locs hB => ?_)
                                have hB : jB G A s_.heap (sr I 45 (upd (f2) c (f2 c)), J, O) H locs := by rw [show sr I 45 (upd (f2) c (f2 c)) = u2 (sr I 45 (f2)) 45 c (f2 c) from (u2_sr _ _ _ _ _).symm]; exact hB
                                refine lv_iinc (v := nI (d + 1)) (lv' := [(5, .int (nI (d + 1))), (4, .int (nI c)), (3, .int (nI n)), (0, .ref (G.2.2.1 (20, 0, 0))), (1, .int (nI m)), (2, .int (nI to_))]) hx hb dX8_layLeft_124 hl (k := 0) rfl (jn_inc _ 1) (by decide) rfl (fun ls hl => ?_)
                                refine lv_goto (tgt := 52) hx hb dX8_layLeft_127 (by decide) ?_
                                exact ih_52 (upd (f2) c (f2 c)) (d + 1) (by omega) (by omega) (by show _ = llD _ _ _ _ _ (it _ _ _); rw [← he2]; simp [llD, eq_true c_72, c_90, c_107]) _ _ _ (jB_cast2 hB (by first | rfl | exact (sr_id _ _).symm | exact (srJ_id _ _).symm | (funext a; simp +decide only [sr, srJ]; (repeat' split) <;> first | rfl | (exfalso; omega) | (subst_vars; rfl))) (by first | rfl | exact (sr_id _ _).symm | exact (srJ_id _ _).symm | (funext a; simp +decide only [sr, srJ]; (repeat' split) <;> first | rfl | (exfalso; omega) | (subst_vars; rfl)))) (lv_sub hl [0, 1, 2, 3, 4, 5] rfl)
                              · refine lv_iload_n hx hb dX8_layLeft_110 rfl (lv_at hl 2 rfl) ?_
                                refine lv_iconst (v := nI 1) hx hb dX8_layLeft_111 (by decide) ?_
                                refine jn_iadd hx hb dX8_layLeft_112 ?_
                                refine lv_goto (tgt := 123) hx hb dX8_layLeft_113 (by decide) ?_
                                refine j_ist 45 c hC hB dX8_layLeft_123 (by decide) rfl (by simp only [lenI_45]; omega) (fun H locs hB => ?_)
                                have hB : jB G A s_.heap (sr I 45 (upd (f2) c (nI (n + 1))), J, O) H locs := by rw [show sr I 45 (upd (f2) c (nI (n + 1))) = u2 (sr I 45 (f2)) 45 c (nI (n + 1)) from (u2_sr _ _ _ _ _).symm]; exact hB
                                refine lv_iinc (v := nI (d + 1)) (lv' := [(5, .int (nI (d + 1))), (4, .int (nI c)), (3, .int (nI n)), (0, .ref (G.2.2.1 (20, 0, 0))), (1, .int (nI m)), (2, .int (nI to_))]) hx hb dX8_layLeft_124 hl (k := 0) rfl (jn_inc _ 1) (by decide) rfl (fun ls hl => ?_)
                                refine lv_goto (tgt := 52) hx hb dX8_layLeft_127 (by decide) ?_
                                exact ih_52 (upd (f2) c (nI (n + 1))) (d + 1) (by omega) (by omega) (by show _ = llD _ _ _ _ _ (it _ _ _); rw [← he2]; simp [llD, eq_true c_72, c_90, eq_true c_107]) _ _ _ (jB_cast2 hB (by first | rfl | exact (sr_id _ _).symm | exact (srJ_id _ _).symm | (funext a; simp +decide only [sr, srJ]; (repeat' split) <;> first | rfl | (exfalso; omega) | (subst_vars; rfl))) (by first | rfl | exact (sr_id _ _).symm | exact (srJ_id _ _).symm | (funext a; simp +decide only [sr, srJ]; (repeat' split) <;> first | rfl | (exfalso; omega) | (subst_vars; rfl)))) (lv_sub hl [0, 1, 2, 3, 4, 5] rfl)
                    exact lp_52 _ f1 0 (Nat.lt_succ_self _) (by omega) (rfl) _ _ _ (jB_cast2 hB (by first | rfl | exact (sr_id _ _).symm | exact (srJ_id _ _).symm | (funext a; simp +decide only [sr, srJ]; (repeat' split) <;> first | rfl | (exfalso; omega) | (subst_vars; rfl))) (by first | rfl | exact (sr_id _ _).symm | exact (srJ_id _ _).symm | (funext a; simp +decide only [sr, srJ]; (repeat' split) <;> first | rfl | (exfalso; omega) | (subst_vars; rfl)))) (lv_sub hl [0, 1, 2, 3, 4, 5] rfl)
              exact lp_42 _ f0 0 (Nat.lt_succ_self _) (by omega) (rfl) _ _ _ (jB_cast2 hB (by first | rfl | exact (sr_id _ _).symm | exact (srJ_id _ _).symm | (funext a; simp +decide only [sr, srJ]; (repeat' split) <;> first | rfl | (exfalso; omega) | (subst_vars; rfl))) (by first | rfl | exact (sr_id _ _).symm | exact (srJ_id _ _).symm | (funext a; simp +decide only [sr, srJ]; (repeat' split) <;> first | rfl | (exfalso; omega) | (subst_vars; rfl)))) (lv_sub hl [0, 1, 2, 3, 4] rfl)
        exact lp_33 _ f 0 (Nat.lt_succ_self _) (by omega) (by rw [hf, show k = 8 by omega]; rfl) _ _ _ (jB_cast2 hB (by first | rfl | exact (sr_id _ _).symm | exact (srJ_id _ _).symm | (funext a; simp +decide only [sr, srJ]; (repeat' split) <;> first | rfl | (exfalso; omega) | (subst_vars; rfl))) (by first | rfl | exact (sr_id _ _).symm | exact (srJ_id _ _).symm | (funext a; simp +decide only [sr, srJ]; (repeat' split) <;> first | rfl | (exfalso; omega) | (subst_vars; rfl)))) (lv_sub hl [0, 1, 2, 3] rfl)
      · refine lv_aload_n hx hb dX8_layLeft_8 rfl (lv_at hl 1 rfl) ?_
        refine j_get (20, 0, 0) 6 (v := .ref (G.2.2.1 (21, 45, 0))) hC hB in_X8 lk_22 dX8_layLeft_9 jk20 rfl rfl (by decide) rfl ?_
        refine lv_iload_n hx hb dX8_layLeft_12 rfl (lv_at hl 0 rfl) ?_
        refine lv_iload_n hx hb dX8_layLeft_13 rfl (lv_at hl 0 rfl) ?_
        refine lv_iload_n hx hb dX8_layLeft_14 rfl (lv_at hl 3 rfl) ?_
        refine jn_icmp_ne (tgt := 22) hx hb dX8_layLeft_15 (by decide) (by omega) (by omega) (fun c_15 => ?_) (fun c_15 => ?_)
        · refine lv_ldc (v := 1000000) hx hb hown (hts (.constant RX8 148 (1000000)) (by decide +kernel)) dX8_layLeft_22 ?_
          refine j_eqi (y := nI 1000000) rfl ?_
          refine j_ist 45 k hC hB dX8_layLeft_24 (by decide) rfl (by simp only [lenI_45]; omega) (fun H locs hB => ?_)
          have hB : jB G A s_.heap (sr I 45 (upd (f) k (nI 1000000)), J, O) H locs := by rw [show sr I 45 (upd (f) k (nI 1000000)) = u2 (sr I 45 (f)) 45 k (nI 1000000) from (u2_sr _ _ _ _ _).symm]; exact hB
          refine lv_iinc (v := nI (k + 1)) (lv' := [(3, .int (nI (k + 1))), (0, .ref (G.2.2.1 (20, 0, 0))), (1, .int (nI m)), (2, .int (nI to_))]) hx hb dX8_layLeft_25 hl (k := 0) rfl (jn_inc _ 1) (by decide) rfl (fun ls hl => ?_)
          refine lv_goto (tgt := 2) hx hb dX8_layLeft_28 (by decide) ?_
          exact ih_2 (upd (f) k (nI 1000000)) (k + 1) (by omega) (by omega) (by rw [hf, ← inR8_step]; simp [c_15]) _ _ _ (jB_cast2 hB (by first | rfl | exact (sr_id _ _).symm | exact (srJ_id _ _).symm | (funext a; simp +decide only [sr, srJ]; (repeat' split) <;> first | rfl | (exfalso; omega) | (subst_vars; rfl))) (by first | rfl | exact (sr_id _ _).symm | exact (srJ_id _ _).symm | (funext a; simp +decide only [sr, srJ]; (repeat' split) <;> first | rfl | (exfalso; omega) | (subst_vars; rfl)))) (lv_sub hl [0, 1, 2, 3] rfl)
        · refine lv_iconst (v := nI 0) hx hb dX8_layLeft_18 (by decide) ?_
          refine lv_goto (tgt := 24) hx hb dX8_layLeft_19 (by decide) ?_
          refine j_ist 45 k hC hB dX8_layLeft_24 (by decide) rfl (by simp only [lenI_45]; omega) (fun H locs hB => ?_)
          have hB : jB G A s_.heap (sr I 45 (upd (f) k (nI 0)), J, O) H locs := by rw [show sr I 45 (upd (f) k (nI 0)) = u2 (sr I 45 (f)) 45 k (nI 0) from (u2_sr _ _ _ _ _).symm]; exact hB
          refine lv_iinc (v := nI (k + 1)) (lv' := [(3, .int (nI (k + 1))), (0, .ref (G.2.2.1 (20, 0, 0))), (1, .int (nI m)), (2, .int (nI to_))]) hx hb dX8_layLeft_25 hl (k := 0) rfl (jn_inc _ 1) (by decide) rfl (fun ls hl => ?_)
          refine lv_goto (tgt := 2) hx hb dX8_layLeft_28 (by decide) ?_
          exact ih_2 (upd (f) k (nI 0)) (k + 1) (by omega) (by omega) (by rw [hf, ← inR8_step]; simp [eq_true c_15]) _ _ _ (jB_cast2 hB (by first | rfl | exact (sr_id _ _).symm | exact (srJ_id _ _).symm | (funext a; simp +decide only [sr, srJ]; (repeat' split) <;> first | rfl | (exfalso; omega) | (subst_vars; rfl))) (by first | rfl | exact (sr_id _ _).symm | exact (srJ_id _ _).symm | (funext a; simp +decide only [sr, srJ]; (repeat' split) <;> first | rfl | (exfalso; omega) | (subst_vars; rfl)))) (lv_sub hl [0, 1, 2, 3] rfl)
  exact lp_2 _ (I 45) 0 (Nat.lt_succ_self _) (by omega) ((inR8_0 _ _ _ _).symm) _ _ _ (jB_cast2 hB (by first | rfl | exact (sr_id _ _).symm | exact (srJ_id _ _).symm | (funext a; simp +decide only [sr, srJ]; (repeat' split) <;> first | rfl | (exfalso; omega) | (subst_vars; rfl))) (by first | rfl | exact (sr_id _ _).symm | exact (srJ_id _ _).symm | (funext a; simp +decide only [sr, srJ]; (repeat' split) <;> first | rfl | (exfalso; omega) | (subst_vars; rfl)))) (lv_sub hl [0, 1, 2, 3] rfl)
