set_option maxHeartbeats 4000000 in
set_option maxRecDepth 100000 in
theorem c_X8_way (l_ : Launch) (G : jG) (I : Nat → Nat → Int32) (J : Nat → Nat → Int64) (O : Nat → Nat → Nat) (man cell k : Int32) {nd : Nat} (hnd : nd ≤ 10) (hD : I 41 0 = nI nd) {nm : Nat} (hnm : nm ≤ 4) (hM : I 41 1 = nI nm) (hW : wfD (I 41) nd) (hWc : ∀ m, m < nm → ∃ c, c < 8 ∧ I 41 (51 + m) = nI c) : jMi l_ G yX8_way wsX8_way ({ frames := 4, cells := 0, slots := 0, locals := 98 }) [.ref (G.2.2.1 (20, 0, 0)), .int man, .int cell, .int k] (I, J, O) (fun r u => r = wayA (I 41) nd nm man cell k ∧ SMs (I, J, O) u) := by
  refine jMi_of (cc := cX8_way) (maxL := 8) (ret := (some .int)) (lv0 := [(0, .ref (G.2.2.1 (20, 0, 0))), (1, .int man), (2, .int cell), (3, .int k)]) (by decide) rfl (Nat.le_of_ble_eq_true rfl) rfl ?_
  intro pg_ ev_ s_ mi_ below meth cd_ A ls hC hB hl
  obtain ⟨hx, hb, hr, hml, hown, hts, hlocks, hK, hA⟩ := id hC
  have lk_7 := hts (.fieldLink RX8 7 "RiddlePrisonModel" "now" "[I") (by decide +kernel)
  have lk_22 := hts (.fieldLink RX8 22 "RiddlePrisonModel" "left" "[I") (by decide +kernel)
  have in_X8 := (fun w h => List.mem_cons_of_mem _ (List.mem_append_right _ h) : ∀ w ∈ wsX80, w ∈ wsX8_way)
  refine lv_aload_n hx hb dX8_way_0 rfl (lv_at hl 0 rfl) ?_
  refine lv_iload_n hx hb dX8_way_1 rfl (lv_at hl 1 rfl) ?_
  refine j_cvi (20, 0, 0) [.int man] hC hB hl.1 (c_X8_isMan l_ G I J O man (by omega) (hM)) (cwV 1 hts gX8_way_X8_isMan rfl rfl rfl (by decide +kernel) ⟨by decide, by decide⟩) dX8_way_2 jk20 rfl rfl rfl rfl (Nat.le_of_ble_eq_true rfl) (fun r_2 u_2 H locs hp_2 hB => ?_)
  obtain ⟨rfl, rfl⟩ := hp_2
  refine jb_if_eq (tgt := 20) hx hb dX8_way_5 (by decide) (fun c_5 => ?_) (fun c_5 => ?_)
  · refine lv_iconst (v := (-1 : Int32)) hx hb dX8_way_20 (by decide) ?_
    exact j_iret hC hB dX8_way_21 (⟨by simp [wayA, c_5], ⟨SM.rf, SMJ.rf, rfl⟩⟩)
  · obtain ⟨mm, hmm, rfl⟩ := isB_nat c_5 (by omega)
    obtain ⟨cc, hcc, ecc⟩ := hWc mm hmm
    refine lv_iload_n hx hb dX8_way_8 rfl (lv_at hl 2 rfl) ?_
    refine j_csi [.int cell] hC hB hl.1 (c_X8_isCell l_ G I J O cell) (va_cwS 1 hts gX8_way_X8_isCell rfl rfl rfl (by decide +kernel) ⟨by decide, by decide⟩) dX8_way_9 rfl rfl (Nat.le_of_ble_eq_true rfl) (fun r_9 u_9 H locs hp_9 hB => ?_)
    obtain ⟨rfl, rfl⟩ := hp_9
    refine jb_if_eq (tgt := 20) hx hb dX8_way_12 (by decide) (fun c_12 => ?_) (fun c_12 => ?_)
    · refine lv_iconst (v := (-1 : Int32)) hx hb dX8_way_20 (by decide) ?_
      exact j_iret hC hB dX8_way_21 (⟨by simp [wayA, c_5, c_12], ⟨SM.rf, SMJ.rf, rfl⟩⟩)
    · obtain ⟨xx, hxx, rfl⟩ := isB_nat c_12 (by omega)
      refine lv_iload_n hx hb dX8_way_15 rfl (lv_at hl 3 rfl) ?_
      refine lv_iconst (v := (-1 : Int32)) hx hb dX8_way_16 (by decide) ?_
      refine lv_icmp_ge (tgt := 22) hx hb dX8_way_17 (by decide) (fun c_17 => ?_) (fun c_17 => ?_)
      · refine lv_aload_n hx hb dX8_way_22 rfl (lv_at hl 0 rfl) ?_
        refine lv_iload_n hx hb dX8_way_23 rfl (lv_at hl 1 rfl) ?_
        refine lv_iload_n hx hb dX8_way_24 rfl (lv_at hl 2 rfl) ?_
        refine j_cvv (20, 0, 0) [.int (nI mm), .int (nI xx)] hC hB hl.1 (c_X8_layLeft l_ G I J O mm xx (by omega) (by omega) (by omega) (hD) (hW)) (cwV 2 hts gX8_way_X8_layLeft rfl rfl rfl (by decide +kernel) ⟨by decide, by decide⟩) dX8_way_25 jk20 rfl rfl rfl rfl (Nat.le_of_ble_eq_true rfl) (fun u_25 H locs hp_25 hB => ?_)
        obtain rfl := hp_25
        have hB : jB G A s_.heap (sr I 45 (llF (I 41) (I 45) mm xx nd), J, O) H locs := hB
        have hLz := llF_Z (f := I 45) (m := mm) hW hnd hxx
        refine lv_aload_n hx hb dX8_way_28 rfl (lv_at hl 0 rfl) ?_
        refine j_get (20, 0, 0) 0 (v := .ref (G.2.2.1 (21, 41, 0))) hC hB in_X8 lk_7 dX8_way_29 jk20 rfl rfl (by decide) rfl ?_
        refine lv_bipush (v := nI 51) hx hb dX8_way_32 (by decide) ?_
        refine lv_iload_n hx hb dX8_way_34 rfl (lv_at hl 1 rfl) ?_
        refine jn_iadd hx hb dX8_way_35 ?_
        refine j_iLd 41 (51 + mm) hC hB dX8_way_36 (by decide) rfl (by simp only [lenI_41]; omega) ?_
        refine j_eqi (x := (sr I 45 (llF (I 41) (I 45) mm xx nd)) 41 (51 + mm)) (y := nI cc) ((sr_nj (show (41 : Nat) ≠ 45 by omega)).trans (ecc)) ?_
        refine lv_istore (lv' := [(4, .int (nI cc)), (0, .ref (G.2.2.1 (20, 0, 0))), (1, .int (nI mm)), (2, .int (nI xx)), (3, .int k)]) hx hb dX8_way_37 hl (by decide) rfl (fun ls hl => ?_)
        refine lv_aload_n hx hb dX8_way_39 rfl (lv_at hl 1 rfl) ?_
        refine j_get (20, 0, 0) 6 (v := .ref (G.2.2.1 (21, 45, 0))) hC hB in_X8 lk_22 dX8_way_40 jk20 rfl rfl (by decide) rfl ?_
        refine lv_iload hx hb dX8_way_43 (lv_at hl 0 rfl) ?_
        refine j_iLd 45 cc hC hB dX8_way_45 (by decide) rfl (by simp only [lenI_45]; omega) ?_
        refine j_eqi (x := (sr I 45 (llF (I 41) (I 45) mm xx nd)) 45 cc) (y := (llF (I 41) (I 45) mm xx nd) cc) (sr_sj) ?_
        refine j_eqi (y := llZ (I 41) mm xx nd cc) (hLz cc hcc) ?_
        refine lv_istore (lv' := [(5, .int (llZ (I 41) mm xx nd cc)), (4, .int (nI cc)), (0, .ref (G.2.2.1 (20, 0, 0))), (1, .int (nI mm)), (2, .int (nI xx)), (3, .int k)]) hx hb dX8_way_46 hl (by decide) rfl (fun ls hl => ?_)
        refine lv_iload hx hb dX8_way_48 (lv_at hl 0 rfl) ?_
        refine lv_ldc (v := 1000000) hx hb hown (hts (.constant RX8 148 (1000000)) (by decide +kernel)) dX8_way_50 ?_
        refine j_eqi (y := nI 1000000) rfl ?_
        refine lv_icmp_eq (tgt := 61) hx hb dX8_way_52 (by decide) (fun c_52 => ?_) (fun c_52 => ?_)
        · refine lv_bipush (v := (-4 : Int32)) hx hb dX8_way_61 (by decide) ?_
          exact j_iret hC hB dX8_way_63 (⟨by unfold wayA; rw [if_pos (show (isB (nI mm) nm && (isB (nI xx) 8 && !decide (k < -1))) = true by simp [c_5, c_12, Int32.not_lt.mpr c_17]), show tN (nI mm) = mm from nIc (show mm < 2147483648 by omega), show tN (nI xx) = xx from nIc (show xx < 2147483648 by omega), ceF_eq hcc ecc]; exact (if_pos (Or.inl c_52)).symm, ⟨SM.sr (SM.rf) scr45, SMJ.rf, rfl⟩⟩)
        · refine lv_iload_n hx hb dX8_way_55 rfl (lv_at hl 5 rfl) ?_
          refine lv_iload hx hb dX8_way_56 (lv_at hl 0 rfl) ?_
          refine lv_icmp_lt (tgt := 64) hx hb dX8_way_58 (by decide) (fun c_58 => ?_) (fun c_58 => ?_)
          · obtain ⟨nn, hnn, enn⟩ : ∃ v, v < 8 ∧ llZ (I 41) mm xx nd cc = nI v := (ll_val hW hnd hxx hcc).resolve_left c_52
            have hk1 : -1 ≤ k.toInt := Int32.le_iff_toInt_le.mp c_17
            have hk2 : k.toInt < (nn : Int) := by have z := c_58; rw [enn, Int32.lt_iff_toInt_lt, nI_toInt (by omega)] at z; exact z
            obtain ⟨K, hK, eK⟩ : ∃ K : Nat, K ≤ nn ∧ k.toInt + 1 = (K : Int) := ⟨(k.toInt + 1).toNat, by omega, by omega⟩
            refine lv_iload hx hb dX8_way_64 (lv_at hl 0 rfl) ?_
            refine lv_istore (lv' := [(6, .int (llZ (I 41) mm xx nd cc)), (5, .int (llZ (I 41) mm xx nd cc)), (4, .int (nI cc)), (0, .ref (G.2.2.1 (20, 0, 0))), (1, .int (nI mm)), (2, .int (nI xx)), (3, .int k)]) hx hb dX8_way_66 hl (by decide) rfl (fun ls hl => ?_)
            refine lv_iconst (v := nI 0) hx hb dX8_way_68 (by decide) ?_
            refine lv_istore (lv' := [(7, .int (nI 0)), (6, .int (llZ (I 41) mm xx nd cc)), (5, .int (llZ (I 41) mm xx nd cc)), (4, .int (nI cc)), (0, .ref (G.2.2.1 (20, 0, 0))), (1, .int (nI mm)), (2, .int (nI xx)), (3, .int k)]) hx hb dX8_way_69 hl (by decide) rfl (fun ls hl => ?_)
            have lp_71 : ∀ (fu : Nat) (c : Nat) (door : Int32) (i : Nat), K - i < fu → (i ≤ K) → (c < 8) → (llZ (I 41) mm xx nd c = nI (nn - i)) → ((c, door) = it (wyS (I 41) (llZ (I 41) mm xx nd) mm nd) i (cc, llZ (I 41) mm xx nd cc)) → ∀ H locs ls, jB G A s_.heap (sr I 45 (llF (I 41) (I 45) mm xx nd), J, O) H locs → lv_has ls 8 [(7, .int (nI i)), (6, .int door), (5, .int (llZ (I 41) mm xx nd cc)), (4, .int (nI c)), (0, .ref (G.2.2.1 (20, 0, 0))), (1, .int (nI mm)), (2, .int (nI xx)), (3, .int k)] → W pg_ l_ ev_ ({ frames := 4, cells := 0, slots := 0, locals := 98 }) s_ mi_ ([.ref (G.2.2.1 (20, 0, 0)), .int (nI mm), .int (nI xx), .int k]).toArray below meth cd_ H locs 0 0 (jQi G A below [.ref (G.2.2.1 (20, 0, 0)), .int (nI mm), .int (nI xx), .int k] s_ (fun r u => r = wayA (I 41) nd nm (nI mm) (nI xx) k ∧ SMs (I, J, O) u)) (F0 mi_ 71 ls []) := by
              intro fu
              induction fu with
              | zero => intro c door i hf; exact absurd hf (Nat.not_lt_zero _)
              | succ fu ih_71 =>
                intro c door i hf_71 hi hc8 hLc hs H locs ls hB hl
                refine lv_iload hx hb dX8_way_71 (lv_at hl 0 rfl) ?_
                refine lv_iload_n hx hb dX8_way_73 rfl (lv_at hl 7 rfl) ?_
                refine lv_icmp_gt (tgt := 139) hx hb dX8_way_74 (by decide) (fun c_74 => ?_) (fun c_74 => ?_)
                · refine lv_iload hx hb dX8_way_139 (lv_at hl 1 rfl) ?_
                  exact j_iret hC hB dX8_way_141 (⟨by have hiK : (k.toInt + 1).toNat = i := (by have z := c_74; rw [Int32.lt_iff_toInt_lt, nI_toInt (by omega)] at z; omega); unfold wayA; rw [if_pos (show (isB (nI mm) nm && (isB (nI xx) 8 && !decide (k < -1))) = true by simp [c_5, c_12, Int32.not_lt.mpr c_17]), show tN (nI mm) = mm from nIc (show mm < 2147483648 by omega), show tN (nI xx) = xx from nIc (show xx < 2147483648 by omega), ceF_eq hcc ecc]; rw [if_neg (fun z => z.elim c_52 (Int32.not_le.mpr c_58)), hiK, ← hs], ⟨SM.sr (SM.rf) scr45, SMJ.rf, rfl⟩⟩)
                · have hiK : i < K := by have z := c_74; rw [Int32.lt_iff_toInt_lt, nI_toInt (by omega)] at z; omega
                  obtain ⟨q, hq⟩ : ∃ q, nn - i = q + 1 := ⟨nn - i - 1, by omega⟩
                  have hLq : llZ (I 41) mm xx nd c = nI (q + 1) := by rw [← hq]; exact hLc
                  refine lv_iconst (v := nI 0) hx hb dX8_way_77 (by decide) ?_
                  refine lv_istore (lv' := [(6, .int (nI 0)), (7, .int (nI i)), (5, .int (llZ (I 41) mm xx nd cc)), (4, .int (nI c)), (0, .ref (G.2.2.1 (20, 0, 0))), (1, .int (nI mm)), (2, .int (nI xx)), (3, .int k)]) hx hb dX8_way_78 hl (by decide) rfl (fun ls hl => ?_)
                  have lp_80 : ∀ (fu : Nat) (d : Nat), nd - d < fu → (∃ e, d ≤ e ∧ e < nd ∧ wyP (I 41) (llZ (I 41) mm xx nd) mm c e = true) → (seI (wyP (I 41) (llZ (I 41) mm xx nd) mm c) (nd - d) d = wyD (I 41) (llZ (I 41) mm xx nd) mm nd c) → ∀ H locs ls, jB G A s_.heap (sr I 45 (llF (I 41) (I 45) mm xx nd), J, O) H locs → lv_has ls 8 [(6, .int (nI d)), (7, .int (nI i)), (5, .int (llZ (I 41) mm xx nd cc)), (4, .int (nI c)), (0, .ref (G.2.2.1 (20, 0, 0))), (1, .int (nI mm)), (2, .int (nI xx)), (3, .int k)] → W pg_ l_ ev_ ({ frames := 4, cells := 0, slots := 0, locals := 98 }) s_ mi_ ([.ref (G.2.2.1 (20, 0, 0)), .int (nI mm), .int (nI xx), .int k]).toArray below meth cd_ H locs 0 0 (jQi G A below [.ref (G.2.2.1 (20, 0, 0)), .int (nI mm), .int (nI xx), .int k] s_ (fun r u => r = wayA (I 41) nd nm (nI mm) (nI xx) k ∧ SMs (I, J, O) u)) (F0 mi_ 80 ls []) := by
                    intro fu
                    induction fu with
                    | zero => intro d hf; exact absurd hf (Nat.not_lt_zero _)
                    | succ fu ih_80 =>
                      intro d hf_80 hex hs2 H locs ls hB hl
                      have hdn : d < nd := by obtain ⟨e, h1, h2, -⟩ := hex; omega
                      refine lv_aload_n hx hb dX8_way_80 rfl (lv_at hl 4 rfl) ?_
                      refine lv_iload_n hx hb dX8_way_81 rfl (lv_at hl 5 rfl) ?_
                      refine lv_iload hx hb dX8_way_82 (lv_at hl 0 rfl) ?_
                      refine lv_iload hx hb dX8_way_84 (lv_at hl 3 rfl) ?_
                      refine j_cvi (20, 0, 0) [.int (nI mm), .int (nI d), .int (nI c)] hC hB hl.1 (c_X8_passes l_ G (sr I 45 (llF (I 41) (I 45) mm xx nd)) J O mm d (nI c) (by omega) (by omega)) (cwV 3 hts gX8_way_X8_passes rfl rfl rfl (by decide +kernel) ⟨by decide, by decide⟩) dX8_way_86 jk20 rfl rfl rfl rfl (Nat.le_of_ble_eq_true rfl) (fun r_86 u_86 H locs hp_86 hB => ?_)
                      obtain ⟨rfl, rfl⟩ := hp_86
                      refine j_eqi (y := b2 (psB (I 41) mm d (nI c))) (rfl) ?_
                      refine jb_if_eq (tgt := 117) hx hb dX8_way_89 (by decide) (fun c_89 => ?_) (fun c_89 => ?_)
                      · have hwf : wyP (I 41) (llZ (I 41) mm xx nd) mm c d = false := by simp [wyP, c_89]
                        refine lv_iinc (v := nI (d + 1)) (lv' := [(6, .int (nI (d + 1))), (7, .int (nI i)), (5, .int (llZ (I 41) mm xx nd cc)), (4, .int (nI c)), (0, .ref (G.2.2.1 (20, 0, 0))), (1, .int (nI mm)), (2, .int (nI xx)), (3, .int k)]) hx hb dX8_way_117 hl (k := 0) rfl (jn_inc _ 1) (by decide) rfl (fun ls hl => ?_)
                        refine lv_goto (tgt := 80) hx hb dX8_way_120 (by decide) ?_
                        exact ih_80 (d + 1) (by omega) (by obtain ⟨e, h1, h2, h3⟩ := hex; refine ⟨e, ?_, h2, h3⟩; have : e ≠ d := (by rintro rfl; rw [hwf] at h3; exact absurd h3 (by decide)); omega) (by rw [← hs2]; exact (seI_no hdn hwf).symm) _ _ _ hB (lv_sub hl [0, 1, 2, 3, 4, 5, 6, 7] rfl)
                      · refine lv_aload_n hx hb dX8_way_92 rfl (lv_at hl 4 rfl) ?_
                        refine j_get (20, 0, 0) 6 (v := .ref (G.2.2.1 (21, 45, 0))) hC hB in_X8 lk_22 dX8_way_93 jk20 rfl rfl (by decide) rfl ?_
                        refine lv_aload_n hx hb dX8_way_96 rfl (lv_at hl 4 rfl) ?_
                        refine lv_iload hx hb dX8_way_97 (lv_at hl 0 rfl) ?_
                        refine lv_iload hx hb dX8_way_99 (lv_at hl 3 rfl) ?_
                        refine j_cvi (20, 0, 0) [.int (nI d), .int (nI c)] hC hB hl.1 (c_X8_behind l_ G (sr I 45 (llF (I 41) (I 45) mm xx nd)) J O d (nI c) (by omega)) (cwV 2 hts gX8_way_X8_behind rfl rfl rfl (by decide +kernel) ⟨by decide, by decide⟩) dX8_way_101 jk20 rfl rfl rfl rfl (Nat.le_of_ble_eq_true rfl) (fun r_101 u_101 H locs hp_101 hB => ?_)
                        obtain ⟨rfl, rfl⟩ := hp_101
                        refine j_eqi (y := bhF (I 41) d (nI c)) (rfl) ?_
                        have hbt := ps_ok hW (show d < nd by omega) c_89
                        refine j_eqi hbt.1 ?_
                        refine j_iLd 45 (btF (I 41) d c) hC hB dX8_way_104 (by decide) rfl (by simp only [lenI_45]; omega) ?_
                        refine j_eqi (x := (sr I 45 (llF (I 41) (I 45) mm xx nd)) 45 (btF (I 41) d c)) (y := (llF (I 41) (I 45) mm xx nd) (btF (I 41) d c)) (sr_sj) ?_
                        refine j_eqi (y := llZ (I 41) mm xx nd (btF (I 41) d c)) (hLz _ hbt.2) ?_
                        refine lv_aload_n hx hb dX8_way_105 rfl (lv_at hl 4 rfl) ?_
                        refine j_get (20, 0, 0) 6 (v := .ref (G.2.2.1 (21, 45, 0))) hC hB in_X8 lk_22 dX8_way_106 jk20 rfl rfl (by decide) rfl ?_
                        refine lv_iload hx hb dX8_way_109 (lv_at hl 3 rfl) ?_
                        refine j_iLd 45 c hC hB dX8_way_111 (by decide) rfl (by simp only [lenI_45]; omega) ?_
                        refine j_eqi (x := (sr I 45 (llF (I 41) (I 45) mm xx nd)) 45 c) (y := (llF (I 41) (I 45) mm xx nd) c) (sr_sj) ?_
                        refine j_eqi (y := llZ (I 41) mm xx nd c) (hLz c hc8) ?_
                        refine lv_iconst (v := nI 1) hx hb dX8_way_112 (by decide) ?_
                        refine lv_isub hx hb dX8_way_113 ?_
                        refine lv_icmp_eq (tgt := 123) hx hb dX8_way_114 (by decide) (fun c_114 => ?_) (fun c_114 => ?_)
                        · have hwp : wyP (I 41) (llZ (I 41) mm xx nd) mm c d = true := by simp [wyP, c_89, c_114]
                          have hwd : wyD (I 41) (llZ (I 41) mm xx nd) mm nd c = nI d := by rw [← hs2]; exact seI_yes hdn hwp
                          have hwa := wyP_at hW hdn hwp hLq
                          refine lv_aload_n hx hb dX8_way_123 rfl (lv_at hl 4 rfl) ?_
                          refine lv_iload hx hb dX8_way_124 (lv_at hl 0 rfl) ?_
                          refine lv_iload hx hb dX8_way_126 (lv_at hl 3 rfl) ?_
                          refine j_cvi (20, 0, 0) [.int (nI d), .int (nI c)] hC hB hl.1 (c_X8_behind l_ G (sr I 45 (llF (I 41) (I 45) mm xx nd)) J O d (nI c) (by omega)) (cwV 2 hts gX8_way_X8_behind rfl rfl rfl (by decide +kernel) ⟨by decide, by decide⟩) dX8_way_128 jk20 rfl rfl rfl rfl (Nat.le_of_ble_eq_true rfl) (fun r_128 u_128 H locs hp_128 hB => ?_)
                          obtain ⟨rfl, rfl⟩ := hp_128
                          refine j_eqi (y := bhF (I 41) d (nI c)) (rfl) ?_
                          have hbt := ps_ok hW (show d < nd by omega) c_89
                          refine j_eqi hbt.1 ?_
                          refine lv_istore (lv' := [(4, .int (nI (btF (I 41) d c))), (6, .int (nI d)), (7, .int (nI i)), (5, .int (llZ (I 41) mm xx nd cc)), (0, .ref (G.2.2.1 (20, 0, 0))), (1, .int (nI mm)), (2, .int (nI xx)), (3, .int k)]) hx hb dX8_way_131 hl (by decide) rfl (fun ls hl => ?_)
                          refine lv_iinc (v := nI (i + 1)) (lv' := [(7, .int (nI (i + 1))), (4, .int (nI (btF (I 41) d c))), (6, .int (nI d)), (5, .int (llZ (I 41) mm xx nd cc)), (0, .ref (G.2.2.1 (20, 0, 0))), (1, .int (nI mm)), (2, .int (nI xx)), (3, .int k)]) hx hb dX8_way_133 hl (k := 2) rfl (jn_inc _ 1) (by decide) rfl (fun ls hl => ?_)
                          refine lv_goto (tgt := 71) hx hb dX8_way_136 (by decide) ?_
                          exact ih_71 (btF (I 41) d c) (nI d) (i + 1) (by omega) (by omega) (hbt.2) (by rw [hwa.2]; congr 1; omega) (by rw [it_s, ← hs]; show _ = (btF (I 41) (tN (wyD (I 41) (llZ (I 41) mm xx nd) mm nd c)) c, wyD (I 41) (llZ (I 41) mm xx nd) mm nd c); rw [hwd, show tN (nI d) = d from nIc (by omega)]) _ _ _ hB (lv_sub hl [0, 2, 3, 1, 4, 5, 6, 7] rfl)
                        · have hwf : wyP (I 41) (llZ (I 41) mm xx nd) mm c d = false := by simp [wyP, c_89, c_114]
                          refine lv_iinc (v := nI (d + 1)) (lv' := [(6, .int (nI (d + 1))), (7, .int (nI i)), (5, .int (llZ (I 41) mm xx nd cc)), (4, .int (nI c)), (0, .ref (G.2.2.1 (20, 0, 0))), (1, .int (nI mm)), (2, .int (nI xx)), (3, .int k)]) hx hb dX8_way_117 hl (k := 0) rfl (jn_inc _ 1) (by decide) rfl (fun ls hl => ?_)
                          refine lv_goto (tgt := 80) hx hb dX8_way_120 (by decide) ?_
                          exact ih_80 (d + 1) (by omega) (by obtain ⟨e, h1, h2, h3⟩ := hex; refine ⟨e, ?_, h2, h3⟩; have : e ≠ d := (by rintro rfl; rw [hwf] at h3; exact absurd h3 (by decide)); omega) (by rw [← hs2]; exact (seI_no hdn hwf).symm) _ _ _ hB (lv_sub hl [0, 1, 2, 3, 4, 5, 6, 7] rfl)
                  exact lp_80 _ 0 (Nat.lt_succ_self _) (by obtain ⟨e, h1, h2⟩ := wy_on hW hnd hxx hc8 (by omega) hLq; exact ⟨e, Nat.zero_le _, h1, h2⟩) (rfl) _ _ _ hB (lv_sub hl [0, 1, 2, 3, 4, 5, 6, 7] rfl)
            exact lp_71 _ cc (llZ (I 41) mm xx nd cc) 0 (Nat.lt_succ_self _) (by omega) (hcc) (enn) (rfl) _ _ _ hB (lv_sub hl [0, 1, 2, 3, 4, 5, 6, 7] rfl)
          · refine lv_bipush (v := (-4 : Int32)) hx hb dX8_way_61 (by decide) ?_
            exact j_iret hC hB dX8_way_63 (⟨by unfold wayA; rw [if_pos (show (isB (nI mm) nm && (isB (nI xx) 8 && !decide (k < -1))) = true by simp [c_5, c_12, Int32.not_lt.mpr c_17]), show tN (nI mm) = mm from nIc (show mm < 2147483648 by omega), show tN (nI xx) = xx from nIc (show xx < 2147483648 by omega), ceF_eq hcc ecc]; exact (if_pos (Or.inr (Int32.not_lt.mp c_58))).symm, ⟨SM.sr (SM.rf) scr45, SMJ.rf, rfl⟩⟩)
      · refine lv_iconst (v := (-1 : Int32)) hx hb dX8_way_20 (by decide) ?_
        exact j_iret hC hB dX8_way_21 (⟨by simp [wayA, c_5, c_12, c_17, Int32.not_le.mp c_17], ⟨SM.rf, SMJ.rf, rfl⟩⟩)

set_option maxHeartbeats 4000000 in
set_option maxRecDepth 100000 in
theorem c_X8_goRounds (l_ : Launch) (G : jG) (I : Nat → Nat → Int32) (J : Nat → Nat → Int64) (O : Nat → Nat → Nat) (m x n cs : Nat) (hm : m < 4) (hx2 : x < 2048) (hn : n ≤ 2048) (hcs : cs < 256) {nd : Nat} (hnd : nd ≤ 10) (hD : I 41 0 = nI nd) (hW : wfD (I 41) nd) : jMv l_ G yX8_goRounds wsX8_goRounds ({ frames := 3, cells := 0, slots := 0, locals := 73 }) [.ref (G.2.2.1 (20, 0, 0)), .int (nI m), .int (nI x), .int (nI n), .int (nI cs)] (I, J, O) (fun u => u = (sr I 46 (it (grD (I 41) m cs x n) nd (I 46)), J, O)) := by
  refine jMv_of (cc := cX8_goRounds) (maxL := 8) (ret := none) (lv0 := [(0, .ref (G.2.2.1 (20, 0, 0))), (1, .int (nI m)), (2, .int (nI x)), (3, .int (nI n)), (4, .int (nI cs))]) (by decide) rfl (Nat.le_of_ble_eq_true rfl) rfl ?_
  intro pg_ ev_ s_ mi_ below meth cd_ A ls hC hB hl
  obtain ⟨hx, hb, hr, hml, hown, hts, hlocks, hK, hA⟩ := id hC
  have lk_7 := hts (.fieldLink RX8 7 "RiddlePrisonModel" "now" "[I") (by decide +kernel)
  have lk_25 := hts (.fieldLink RX8 25 "RiddlePrisonModel" "rounds" "[I") (by decide +kernel)
  have in_X8 := (fun w h => List.mem_cons_of_mem _ (List.mem_append_right _ h) : ∀ w ∈ wsX80, w ∈ wsX8_goRounds)
  refine lv_iconst (v := nI 0) hx hb dX8_goRounds_0 (by decide) ?_
  refine lv_istore (lv' := [(5, .int (nI 0)), (0, .ref (G.2.2.1 (20, 0, 0))), (1, .int (nI m)), (2, .int (nI x)), (3, .int (nI n)), (4, .int (nI cs))]) hx hb dX8_goRounds_1 hl (by decide) rfl (fun ls hl => ?_)
  have lp_3 : ∀ (fu : Nat) (r : Nat → Int32) (d : Nat), nd - d < fu → (d ≤ nd) → (r = it (grD (I 41) m cs x n) d (I 46)) → ∀ H locs ls, jB G A s_.heap (sr I 46 (r), J, O) H locs → lv_has ls 8 [(5, .int (nI d)), (0, .ref (G.2.2.1 (20, 0, 0))), (1, .int (nI m)), (2, .int (nI x)), (3, .int (nI n)), (4, .int (nI cs))] → W pg_ l_ ev_ ({ frames := 3, cells := 0, slots := 0, locals := 73 }) s_ mi_ ([.ref (G.2.2.1 (20, 0, 0)), .int (nI m), .int (nI x), .int (nI n), .int (nI cs)]).toArray below meth cd_ H locs 0 0 (jQv G A below [.ref (G.2.2.1 (20, 0, 0)), .int (nI m), .int (nI x), .int (nI n), .int (nI cs)] s_ (fun u => u = (sr I 46 (it (grD (I 41) m cs x n) nd (I 46)), J, O))) (F0 mi_ 3 ls []) := by
    intro fu
    induction fu with
    | zero => intro r d hf; exact absurd hf (Nat.not_lt_zero _)
    | succ fu ih_3 =>
      intro r d hf_3 hd hs H locs ls hB hl
      refine lv_iload hx hb dX8_goRounds_3 (lv_at hl 0 rfl) ?_
      refine lv_aload_n hx hb dX8_goRounds_5 rfl (lv_at hl 1 rfl) ?_
      refine j_get (20, 0, 0) 0 (v := .ref (G.2.2.1 (21, 41, 0))) hC hB in_X8 lk_7 dX8_goRounds_6 jk20 rfl rfl (by decide) rfl ?_
      refine lv_iconst (v := nI 0) hx hb dX8_goRounds_9 (by decide) ?_
      refine j_iLd 41 0 hC hB dX8_goRounds_10 (by decide) rfl (by simp only [lenI_41]; omega) ?_
      refine j_eqi (x := (sr I 46 (r)) 41 0) (y := nI nd) ((sr_nj (show (41 : Nat) ≠ 46 by omega)).trans (hD)) ?_
      refine jn_icmp_ge (tgt := 102) hx hb dX8_goRounds_11 (by decide) (by omega) (by omega) (fun c_11 => ?_) (fun c_11 => ?_)
      · exact j_vret hC hB dX8_goRounds_102 (by rw [hs, show d = nd by omega])
      · refine lv_aload_n hx hb dX8_goRounds_14 rfl (lv_at hl 1 rfl) ?_
        refine lv_iload_n hx hb dX8_goRounds_15 rfl (lv_at hl 2 rfl) ?_
        refine lv_iload hx hb dX8_goRounds_16 (lv_at hl 0 rfl) ?_
        refine lv_iload_n hx hb dX8_goRounds_18 rfl (lv_at hl 3 rfl) ?_
        refine lv_sipush (v := nI 256) hx hb dX8_goRounds_19 (by decide) ?_
        refine jn_idiv hx hb dX8_goRounds_22 (by omega) (by omega) (by omega) ?_
        refine j_cvi (20, 0, 0) [.int (nI m), .int (nI d), .int (nI (x / 256))] hC hB hl.1 (c_X8_passes l_ G (sr I 46 (r)) J O m d (nI (x / 256)) (by omega) (by omega)) (cwV 3 hts gX8_goRounds_X8_passes rfl rfl rfl (by decide +kernel) ⟨by decide, by decide⟩) dX8_goRounds_23 jk20 rfl rfl rfl rfl (Nat.le_of_ble_eq_true rfl) (fun r_23 u_23 H locs hp_23 hB => ?_)
        obtain ⟨rfl, rfl⟩ := hp_23
        refine j_eqi (y := b2 (psB (I 41) m d (nI (x / 256)))) (rfl) ?_
        refine jb_if_eq (tgt := 96) hx hb dX8_goRounds_26 (by decide) (fun c_26 => ?_) (fun c_26 => ?_)
        · refine lv_iinc (v := nI (d + 1)) (lv' := [(5, .int (nI (d + 1))), (0, .ref (G.2.2.1 (20, 0, 0))), (1, .int (nI m)), (2, .int (nI x)), (3, .int (nI n)), (4, .int (nI cs))]) hx hb dX8_goRounds_96 hl (k := 0) rfl (jn_inc _ 1) (by decide) rfl (fun ls hl => ?_)
          refine lv_goto (tgt := 3) hx hb dX8_goRounds_99 (by decide) ?_
          exact ih_3 r (d + 1) (by omega) (by omega) (by rw [it_s, ← hs]; simp [grD, c_26]) _ _ _ hB (lv_sub hl [0, 1, 2, 3, 4, 5] rfl)
        · refine lv_aload_n hx hb dX8_goRounds_29 rfl (lv_at hl 1 rfl) ?_
          refine lv_iload hx hb dX8_goRounds_30 (lv_at hl 0 rfl) ?_
          refine lv_iload_n hx hb dX8_goRounds_32 rfl (lv_at hl 3 rfl) ?_
          refine lv_sipush (v := nI 256) hx hb dX8_goRounds_33 (by decide) ?_
          refine jn_idiv hx hb dX8_goRounds_36 (by omega) (by omega) (by omega) ?_
          refine j_cvi (20, 0, 0) [.int (nI d), .int (nI (x / 256))] hC hB hl.1 (c_X8_behind l_ G (sr I 46 (r)) J O d (nI (x / 256)) (by omega)) (cwV 2 hts gX8_goRounds_X8_behind rfl rfl rfl (by decide +kernel) ⟨by decide, by decide⟩) dX8_goRounds_37 jk20 rfl rfl rfl rfl (Nat.le_of_ble_eq_true rfl) (fun r_37 u_37 H locs hp_37 hB => ?_)
          obtain ⟨rfl, rfl⟩ := hp_37
          refine j_eqi (y := bhF (I 41) d (nI (x / 256))) (rfl) ?_
          have hbt := ps_ok hW (show d < nd by omega) c_26
          refine j_eqi hbt.1 ?_
          refine lv_istore (lv' := [(6, .int (nI (btF (I 41) d (x / 256)))), (5, .int (nI d)), (0, .ref (G.2.2.1 (20, 0, 0))), (1, .int (nI m)), (2, .int (nI x)), (3, .int (nI n)), (4, .int (nI cs))]) hx hb dX8_goRounds_40 hl (by decide) rfl (fun ls hl => ?_)
          refine lv_sipush (v := nI 256) hx hb dX8_goRounds_42 (by decide) ?_
          refine lv_iload hx hb dX8_goRounds_45 (lv_at hl 0 rfl) ?_
          refine jn_imul hx hb dX8_goRounds_47 ?_
          refine lv_iload_n hx hb dX8_goRounds_48 rfl (lv_at hl 4 rfl) ?_
          refine lv_sipush (v := nI 256) hx hb dX8_goRounds_49 (by decide) ?_
          refine jn_irem hx hb dX8_goRounds_52 (by omega) (by omega) (by omega) ?_
          refine lv_iload hx hb dX8_goRounds_53 (lv_at hl 6 rfl) ?_
          refine lv_iconst (v := nI 1) hx hb dX8_goRounds_55 (by decide) ?_
          refine lv_iload hx hb dX8_goRounds_56 (lv_at hl 0 rfl) ?_
          refine lv_ishl hx hb dX8_goRounds_58 ?_
          refine j_eqi (y := nI (2 ^ btF (I 41) d (x / 256))) (shl1 _ (by omega)) ?_
          refine lv_iand hx hb dX8_goRounds_59 ?_
          refine j_eqi (y := nI (cs &&& 2 ^ btF (I 41) d (x / 256))) (zq_and _ _) ?_
          refine lv_ior hx hb dX8_goRounds_60 ?_
          refine j_eqi (y := nI (x % 256 ||| (cs &&& 2 ^ btF (I 41) d (x / 256)))) (zq_or _ _) ?_
          refine jn_iadd hx hb dX8_goRounds_61 ?_
          refine j_eqi (y := nI (grN (I 41) cs x d)) (rfl) ?_
          refine lv_istore (lv' := [(7, .int (nI (grN (I 41) cs x d))), (6, .int (nI (btF (I 41) d (x / 256)))), (5, .int (nI d)), (0, .ref (G.2.2.1 (20, 0, 0))), (1, .int (nI m)), (2, .int (nI x)), (3, .int (nI n)), (4, .int (nI cs))]) hx hb dX8_goRounds_62 hl (by decide) rfl (fun ls hl => ?_)
          have hgl := grN_lt hW (show d < nd by omega) hcs c_26
          refine lv_aload_n hx hb dX8_goRounds_64 rfl (lv_at hl 3 rfl) ?_
          refine j_get (20, 0, 0) 7 (v := .ref (G.2.2.1 (21, 46, 0))) hC hB in_X8 lk_25 dX8_goRounds_65 jk20 rfl rfl (by decide) rfl ?_
          refine lv_iload hx hb dX8_goRounds_68 (lv_at hl 0 rfl) ?_
          refine lv_aload_n hx hb dX8_goRounds_70 rfl (lv_at hl 3 rfl) ?_
          refine j_get (20, 0, 0) 7 (v := .ref (G.2.2.1 (21, 46, 0))) hC hB in_X8 lk_25 dX8_goRounds_71 jk20 rfl rfl (by decide) rfl ?_
          refine lv_iload hx hb dX8_goRounds_74 (lv_at hl 0 rfl) ?_
          refine j_iLd 46 (grN (I 41) cs x d) hC hB dX8_goRounds_76 (by decide) rfl (by simp only [lenI_46]; omega) ?_
          refine j_eqi (x := (sr I 46 (r)) 46 (grN (I 41) cs x d)) (y := r (grN (I 41) cs x d)) (sr_sj) ?_
          refine lv_ldc (v := 1000000) hx hb hown (hts (.constant RX8 148 (1000000)) (by decide +kernel)) dX8_goRounds_77 ?_
          refine j_eqi (y := nI 1000000) rfl ?_
          refine lv_icmp_ne (tgt := 88) hx hb dX8_goRounds_79 (by decide) (fun c_79 => ?_) (fun c_79 => ?_)
          · refine lv_aload_n hx hb dX8_goRounds_88 rfl (lv_at hl 3 rfl) ?_
            refine j_get (20, 0, 0) 7 (v := .ref (G.2.2.1 (21, 46, 0))) hC hB in_X8 lk_25 dX8_goRounds_89 jk20 rfl rfl (by decide) rfl ?_
            refine lv_iload hx hb dX8_goRounds_92 (lv_at hl 0 rfl) ?_
            refine j_iLd 46 (grN (I 41) cs x d) hC hB dX8_goRounds_94 (by decide) rfl (by simp only [lenI_46]; omega) ?_
            refine j_eqi (x := (sr I 46 (r)) 46 (grN (I 41) cs x d)) (y := r (grN (I 41) cs x d)) (sr_sj) ?_
            refine j_iSt 46 (grN (I 41) cs x d) hC hB dX8_goRounds_95 (by decide) rfl (by simp only [lenI_46]; omega) (fun H locs hB => ?_)
            have hB : jB G A s_.heap (sr I 46 (upd (r) (grN (I 41) cs x d) (r (grN (I 41) cs x d))), J, O) H locs := by rw [show sr I 46 (upd (r) (grN (I 41) cs x d) (r (grN (I 41) cs x d))) = u2 (sr I 46 (r)) 46 (grN (I 41) cs x d) (r (grN (I 41) cs x d)) from (u2_sr _ _ _ _ _).symm]; exact hB
            refine lv_iinc (v := nI (d + 1)) (lv' := [(5, .int (nI (d + 1))), (7, .int (nI (grN (I 41) cs x d))), (6, .int (nI (btF (I 41) d (x / 256)))), (0, .ref (G.2.2.1 (20, 0, 0))), (1, .int (nI m)), (2, .int (nI x)), (3, .int (nI n)), (4, .int (nI cs))]) hx hb dX8_goRounds_96 hl (k := 2) rfl (jn_inc _ 1) (by decide) rfl (fun ls hl => ?_)
            refine lv_goto (tgt := 3) hx hb dX8_goRounds_99 (by decide) ?_
            exact ih_3 (upd (r) (grN (I 41) cs x d) (r (grN (I 41) cs x d))) (d + 1) (by omega) (by omega) (by rw [it_s, ← hs]; simp [grD, c_26, c_79]) _ _ _ hB (lv_sub hl [0, 3, 4, 5, 6, 7] rfl)
          · refine lv_iload_n hx hb dX8_goRounds_82 rfl (lv_at hl 6 rfl) ?_
            refine lv_iconst (v := nI 1) hx hb dX8_goRounds_83 (by decide) ?_
            refine jn_iadd hx hb dX8_goRounds_84 ?_
            refine lv_goto (tgt := 95) hx hb dX8_goRounds_85 (by decide) ?_
            refine j_iSt 46 (grN (I 41) cs x d) hC hB dX8_goRounds_95 (by decide) rfl (by simp only [lenI_46]; omega) (fun H locs hB => ?_)
            have hB : jB G A s_.heap (sr I 46 (upd (r) (grN (I 41) cs x d) (nI (n + 1))), J, O) H locs := by rw [show sr I 46 (upd (r) (grN (I 41) cs x d) (nI (n + 1))) = u2 (sr I 46 (r)) 46 (grN (I 41) cs x d) (nI (n + 1)) from (u2_sr _ _ _ _ _).symm]; exact hB
            refine lv_iinc (v := nI (d + 1)) (lv' := [(5, .int (nI (d + 1))), (7, .int (nI (grN (I 41) cs x d))), (6, .int (nI (btF (I 41) d (x / 256)))), (0, .ref (G.2.2.1 (20, 0, 0))), (1, .int (nI m)), (2, .int (nI x)), (3, .int (nI n)), (4, .int (nI cs))]) hx hb dX8_goRounds_96 hl (k := 2) rfl (jn_inc _ 1) (by decide) rfl (fun ls hl => ?_)
            refine lv_goto (tgt := 3) hx hb dX8_goRounds_99 (by decide) ?_
            exact ih_3 (upd (r) (grN (I 41) cs x d) (nI (n + 1))) (d + 1) (by omega) (by omega) (by rw [it_s, ← hs]; simp [grD, c_26, eq_true c_79]) _ _ _ hB (lv_sub hl [0, 3, 4, 5, 6, 7] rfl)
  exact lp_3 _ (I 46) 0 (Nat.lt_succ_self _) (by omega) (rfl) _ _ _ (jB_cast2 hB (by first | exact (sr_id _ _).symm | (funext a_; simp +decide only [sr]; (repeat' split) <;> first | rfl | (exfalso; omega) | (subst_vars; rfl))) rfl) (lv_sub hl [0, 1, 2, 3, 4, 5] rfl)

set_option maxHeartbeats 4000000 in
set_option maxRecDepth 100000 in
theorem c_X8_round (l_ : Launch) (G : jG) (I : Nat → Nat → Int32) (J : Nat → Nat → Int64) (O : Nat → Nat → Nat) (man cells : Int32) {nd : Nat} (hnd : nd ≤ 10) (hD : I 41 0 = nI nd) {nm : Nat} (hnm : nm ≤ 4) (hM : I 41 1 = nI nm) (hW : wfD (I 41) nd) (hWc : ∀ m, m < nm → ∃ c, c < 8 ∧ I 41 (51 + m) = nI c) : jMi l_ G yX8_round wsX8_round ({ frames := 4, cells := 0, slots := 0, locals := 100 }) [.ref (G.2.2.1 (20, 0, 0)), .int man, .int cells] (I, J, O) (fun r u => rdA1 (I 41) nd nm man cells r ∧ SMs (I, J, O) u) := by
  refine jMi_of (cc := cX8_round) (maxL := 7) (ret := (some .int)) (lv0 := [(0, .ref (G.2.2.1 (20, 0, 0))), (1, .int man), (2, .int cells)]) (by decide) rfl (Nat.le_of_ble_eq_true rfl) rfl ?_
  intro pg_ ev_ s_ mi_ below meth cd_ A ls hC hB hl
  obtain ⟨hx, hb, hr, hml, hown, hts, hlocks, hK, hA⟩ := id hC
  have lk_7 := hts (.fieldLink RX8 7 "RiddlePrisonModel" "now" "[I") (by decide +kernel)
  have lk_25 := hts (.fieldLink RX8 25 "RiddlePrisonModel" "rounds" "[I") (by decide +kernel)
  have in_X8 := (fun w h => List.mem_cons_of_mem _ (List.mem_append_right _ h) : ∀ w ∈ wsX80, w ∈ wsX8_round)
  refine lv_aload_n hx hb dX8_round_0 rfl (lv_at hl 0 rfl) ?_
  refine lv_iload_n hx hb dX8_round_1 rfl (lv_at hl 1 rfl) ?_
  refine j_cvi (20, 0, 0) [.int man] hC hB hl.1 (c_X8_isMan l_ G I J O man (by omega) (hM)) (cwV 1 hts gX8_round_X8_isMan rfl rfl rfl (by decide +kernel) ⟨by decide, by decide⟩) dX8_round_2 jk20 rfl rfl rfl rfl (Nat.le_of_ble_eq_true rfl) (fun r_2 u_2 H locs hp_2 hB => ?_)
  obtain ⟨rfl, rfl⟩ := hp_2
  refine jb_if_eq (tgt := 20) hx hb dX8_round_5 (by decide) (fun c_5 => ?_) (fun c_5 => ?_)
  · refine lv_iconst (v := (-1 : Int32)) hx hb dX8_round_20 (by decide) ?_
    exact j_iret hC hB dX8_round_21 (⟨by unfold rdA1; rw [if_neg (by simp [c_5])], ⟨SM.rf, SMJ.rf, rfl⟩⟩)
  · obtain ⟨mm, hmm, rfl⟩ := isB_nat c_5 (by omega)
    obtain ⟨cc, hcc, ecc⟩ := hWc mm hmm
    refine lv_iload_n hx hb dX8_round_8 rfl (lv_at hl 2 rfl) ?_
    refine lv_i2l (v := cells.toInt64) hx hb dX8_round_9 rfl ?_
    refine lv_lconst (v := 0) hx hb dX8_round_10 rfl ?_
    refine lv_ldc2 (v := 255) hx hb hown (hts (.constantLong RX8 167 (255)) (by decide +kernel)) dX8_round_11 ?_
    refine j_csi [.long cells.toInt64, .long ((0 : Int64)), .long ((255 : Int64))] hC hB hl.1 (c_X8_in l_ G I J O cells.toInt64 ((0 : Int64)) ((255 : Int64))) (va_cwS 3 hts gX8_round_X8_in rfl rfl rfl (by decide +kernel) ⟨by decide, by decide⟩) dX8_round_14 rfl rfl (Nat.le_of_ble_eq_true rfl) (fun r_14 u_14 H locs hp_14 hB => ?_)
    obtain ⟨rfl, rfl⟩ := hp_14
    refine j_eqi (y := b2 (isB cells 256)) (by rw [inR_isB (n := 256) (by decide)]) ?_
    refine jb_if_ne (tgt := 22) hx hb dX8_round_17 (by decide) (fun c_17 => ?_) (fun c_17 => ?_)
    · obtain ⟨cs, hcs, rfl⟩ := isB_nat c_17 (by omega)
      refine lv_sipush (v := nI 256) hx hb dX8_round_22 (by decide) ?_
      refine lv_aload_n hx hb dX8_round_25 rfl (lv_at hl 0 rfl) ?_
      refine j_get (20, 0, 0) 0 (v := .ref (G.2.2.1 (21, 41, 0))) hC hB in_X8 lk_7 dX8_round_26 jk20 rfl rfl (by decide) rfl ?_
      refine lv_bipush (v := nI 51) hx hb dX8_round_29 (by decide) ?_
      refine lv_iload_n hx hb dX8_round_31 rfl (lv_at hl 1 rfl) ?_
      refine jn_iadd hx hb dX8_round_32 ?_
      refine j_iLd 41 (51 + mm) hC hB dX8_round_33 (by decide) rfl (by simp only [lenI_41]; omega) ?_
      refine j_eqi (x := I 41 (51 + mm)) (y := nI cc) (ecc) ?_
      refine jn_imul hx hb dX8_round_34 ?_
      refine lv_iload_n hx hb dX8_round_35 rfl (lv_at hl 2 rfl) ?_
      refine lv_iconst (v := nI 1) hx hb dX8_round_36 (by decide) ?_
      refine lv_aload_n hx hb dX8_round_37 rfl (lv_at hl 0 rfl) ?_
      refine j_get (20, 0, 0) 0 (v := .ref (G.2.2.1 (21, 41, 0))) hC hB in_X8 lk_7 dX8_round_38 jk20 rfl rfl (by decide) rfl ?_
      refine lv_bipush (v := nI 51) hx hb dX8_round_41 (by decide) ?_
      refine lv_iload_n hx hb dX8_round_43 rfl (lv_at hl 1 rfl) ?_
      refine jn_iadd hx hb dX8_round_44 ?_
      refine j_iLd 41 (51 + mm) hC hB dX8_round_45 (by decide) rfl (by simp only [lenI_41]; omega) ?_
      refine j_eqi (x := I 41 (51 + mm)) (y := nI cc) (ecc) ?_
      refine lv_ishl hx hb dX8_round_46 ?_
      refine j_eqi (y := nI (2 ^ cc)) (shl1 _ (by omega)) ?_
      refine lv_iand hx hb dX8_round_47 ?_
      refine j_eqi (y := nI (cs &&& 2 ^ cc)) (zq_and _ _) ?_
      refine jn_iadd hx hb dX8_round_48 ?_
      refine j_eqi (y := nI (rdS cs cc)) (rfl) ?_
      refine lv_istore_n (lv' := [(3, .int (nI (rdS cs cc))), (0, .ref (G.2.2.1 (20, 0, 0))), (1, .int (nI mm)), (2, .int (nI cs))]) hx hb dX8_round_49 rfl hl (by decide) rfl (fun ls hl => ?_)
      have hbl := rdS_lt hcs hcc
      refine lv_iconst (v := nI 0) hx hb dX8_round_50 (by decide) ?_
      refine lv_istore (lv' := [(4, .int (nI 0)), (3, .int (nI (rdS cs cc))), (0, .ref (G.2.2.1 (20, 0, 0))), (1, .int (nI mm)), (2, .int (nI cs))]) hx hb dX8_round_51 hl (by decide) rfl (fun ls hl => ?_)
      have lp_53 : ∀ (fu : Nat) (f : Nat → Int32) (k : Nat), 2048 - k < fu → (k ≤ 2048) → (f = inR8 (I 46) (rdS cs cc) (nI 0) (nI 1000000) k) → ∀ H locs ls, jB G A s_.heap (sr I 46 (f), J, O) H locs → lv_has ls 7 [(4, .int (nI k)), (3, .int (nI (rdS cs cc))), (0, .ref (G.2.2.1 (20, 0, 0))), (1, .int (nI mm)), (2, .int (nI cs))] → W pg_ l_ ev_ ({ frames := 4, cells := 0, slots := 0, locals := 100 }) s_ mi_ ([.ref (G.2.2.1 (20, 0, 0)), .int (nI mm), .int (nI cs)]).toArray below meth cd_ H locs 0 0 (jQi G A below [.ref (G.2.2.1 (20, 0, 0)), .int (nI mm), .int (nI cs)] s_ (fun r u => rdA1 (I 41) nd nm (nI mm) (nI cs) r ∧ SMs (I, J, O) u)) (F0 mi_ 53 ls []) := by
        intro fu
        induction fu with
        | zero => intro f k hf; exact absurd hf (Nat.not_lt_zero _)
        | succ fu ih_53 =>
          intro f k hf_53 hk hf H locs ls hB hl
          refine lv_iload hx hb dX8_round_53 (lv_at hl 0 rfl) ?_
          refine lv_sipush (v := nI 2048) hx hb dX8_round_55 (by decide) ?_
          refine jn_icmp_ge (tgt := 86) hx hb dX8_round_58 (by decide) (by omega) (by omega) (fun c_58 => ?_) (fun c_58 => ?_)
          · refine lv_iconst (v := nI 1) hx hb dX8_round_86 (by decide) ?_
            refine lv_istore (lv' := [(4, .int (nI 1)), (3, .int (nI (rdS cs cc))), (0, .ref (G.2.2.1 (20, 0, 0))), (1, .int (nI mm)), (2, .int (nI cs))]) hx hb dX8_round_87 hl (by decide) rfl (fun ls hl => ?_)
            refine lv_iconst (v := nI 0) hx hb dX8_round_89 (by decide) ?_
            refine lv_istore (lv' := [(5, .int (nI 0)), (4, .int (nI 1)), (3, .int (nI (rdS cs cc))), (0, .ref (G.2.2.1 (20, 0, 0))), (1, .int (nI mm)), (2, .int (nI cs))]) hx hb dX8_round_90 hl (by decide) rfl (fun ls hl => ?_)
            have lp_92 : ∀ (fu : Nat) (r : Nat → Int32) (go : Bool) (n : Nat), 2050 - n < fu → (n ≤ 2049) → ((go = true → n ≤ 2048 ∧ zvJ (I 41) mm cs nd (rdS cs cc) n 0 false r) ∧ (go = false → isRd (zbEv (I 41) mm cs nd) nd (rdS cs cc) cs (-4))) → ∀ H locs ls, jB G A s_.heap (sr I 46 (r), J, O) H locs → lv_has ls 7 [(5, .int (nI n)), (4, .int (b2 go)), (3, .int (nI (rdS cs cc))), (0, .ref (G.2.2.1 (20, 0, 0))), (1, .int (nI mm)), (2, .int (nI cs))] → W pg_ l_ ev_ ({ frames := 4, cells := 0, slots := 0, locals := 100 }) s_ mi_ ([.ref (G.2.2.1 (20, 0, 0)), .int (nI mm), .int (nI cs)]).toArray below meth cd_ H locs 0 0 (jQi G A below [.ref (G.2.2.1 (20, 0, 0)), .int (nI mm), .int (nI cs)] s_ (fun r u => rdA1 (I 41) nd nm (nI mm) (nI cs) r ∧ SMs (I, J, O) u)) (F0 mi_ 92 ls []) := by
              intro fu
              induction fu with
              | zero => intro r go n hf; exact absurd hf (Nat.not_lt_zero _)
              | succ fu ih_92 =>
                intro r go n hf_92 hn hgo H locs ls hB hl
                refine lv_iload hx hb dX8_round_92 (lv_at hl 1 rfl) ?_
                refine jb_if_eq (tgt := 161) hx hb dX8_round_94 (by decide) (fun c_94 => ?_) (fun c_94 => ?_)
                · refine lv_bipush (v := (-4 : Int32)) hx hb dX8_round_161 (by decide) ?_
                  exact j_iret hC hB dX8_round_163 (⟨by unfold rdA1; rw [if_pos (show (isB (nI mm) nm && isB (nI cs) 256) = true by rw [c_5, c_17]; rfl), show tN (nI mm) = mm from nIc (show mm < 2147483648 by omega), show tN (nI cs) = cs from nIc (by omega), ceF_eq hcc ecc]; exact hgo.2 c_94, ⟨SM.sr (SM.rf) scr46, SMJ.rf, rfl⟩⟩)
                · have hn8 := (hgo.1 c_94).1
                  refine lv_iconst (v := nI 0) hx hb dX8_round_97 (by decide) ?_
                  refine lv_istore (lv' := [(4, .int (nI 0)), (5, .int (nI n)), (3, .int (nI (rdS cs cc))), (0, .ref (G.2.2.1 (20, 0, 0))), (1, .int (nI mm)), (2, .int (nI cs))]) hx hb dX8_round_98 hl (by decide) rfl (fun ls hl => ?_)
                  refine lv_iconst (v := nI 0) hx hb dX8_round_100 (by decide) ?_
                  refine lv_istore (lv' := [(6, .int (nI 0)), (4, .int (nI 0)), (5, .int (nI n)), (3, .int (nI (rdS cs cc))), (0, .ref (G.2.2.1 (20, 0, 0))), (1, .int (nI mm)), (2, .int (nI cs))]) hx hb dX8_round_101 hl (by decide) rfl (fun ls hl => ?_)
                  have lp_103 : ∀ (fu : Nat) (r2 : Nat → Int32) (go2 : Bool) (k2 : Nat), 2048 - k2 < fu → (k2 ≤ 2048) → (zvJ (I 41) mm cs nd (rdS cs cc) n k2 go2 r2) → ∀ H locs ls, jB G A s_.heap (sr I 46 (r2), J, O) H locs → lv_has ls 7 [(6, .int (nI k2)), (4, .int (b2 go2)), (5, .int (nI n)), (3, .int (nI (rdS cs cc))), (0, .ref (G.2.2.1 (20, 0, 0))), (1, .int (nI mm)), (2, .int (nI cs))] → W pg_ l_ ev_ ({ frames := 4, cells := 0, slots := 0, locals := 100 }) s_ mi_ ([.ref (G.2.2.1 (20, 0, 0)), .int (nI mm), .int (nI cs)]).toArray below meth cd_ H locs 0 0 (jQi G A below [.ref (G.2.2.1 (20, 0, 0)), .int (nI mm), .int (nI cs)] s_ (fun r u => rdA1 (I 41) nd nm (nI mm) (nI cs) r ∧ SMs (I, J, O) u)) (F0 mi_ 103 ls []) := by
                    intro fu
                    induction fu with
                    | zero => intro r2 go2 k2 hf; exact absurd hf (Nat.not_lt_zero _)
                    | succ fu ih_103 =>
                      intro r2 go2 k2 hf_103 hk2 hJ H locs ls hB hl
                      refine lv_iload hx hb dX8_round_103 (lv_at hl 0 rfl) ?_
                      refine lv_sipush (v := nI 2048) hx hb dX8_round_105 (by decide) ?_
                      refine jn_icmp_ge (tgt := 155) hx hb dX8_round_108 (by decide) (by omega) (by omega) (fun c_108 => ?_) (fun c_108 => ?_)
                      · refine lv_iinc (v := nI (n + 1)) (lv' := [(5, .int (nI (n + 1))), (6, .int (nI k2)), (4, .int (b2 go2)), (3, .int (nI (rdS cs cc))), (0, .ref (G.2.2.1 (20, 0, 0))), (1, .int (nI mm)), (2, .int (nI cs))]) hx hb dX8_round_155 hl (k := 2) rfl (jn_inc _ 1) (by decide) rfl (fun ls hl => ?_)
                        refine lv_goto (tgt := 92) hx hb dX8_round_158 (by decide) ?_
                        exact ih_92 r2 go2 (n + 1) (by omega) (by omega) (by have e8 : k2 = 2048 := (by omega); rw [e8] at hJ; exact ⟨fun z => by rw [z] at hJ; exact ⟨by have := (zvJ_next hJ).1; omega, (zvJ_next hJ).2⟩, fun z => by rw [z] at hJ; exact zvJ_end hJ⟩) _ _ _ hB (lv_sub hl [0, 2, 3, 4, 5, 6] rfl)
                      · refine lv_aload_n hx hb dX8_round_111 rfl (lv_at hl 4 rfl) ?_
                        refine j_get (20, 0, 0) 7 (v := .ref (G.2.2.1 (21, 46, 0))) hC hB in_X8 lk_25 dX8_round_112 jk20 rfl rfl (by decide) rfl ?_
                        refine lv_iload hx hb dX8_round_115 (lv_at hl 0 rfl) ?_
                        refine j_iLd 46 k2 hC hB dX8_round_117 (by decide) rfl (by simp only [lenI_46]; omega) ?_
                        refine j_eqi (x := (sr I 46 (r2)) 46 k2) (y := r2 k2) (sr_sj) ?_
                        refine lv_iload hx hb dX8_round_118 (lv_at hl 2 rfl) ?_
                        refine lv_icmp_ne (tgt := 149) hx hb dX8_round_120 (by decide) (fun c_120 => ?_) (fun c_120 => ?_)
                        · refine lv_iinc (v := nI (k2 + 1)) (lv' := [(6, .int (nI (k2 + 1))), (4, .int (b2 go2)), (5, .int (nI n)), (3, .int (nI (rdS cs cc))), (0, .ref (G.2.2.1 (20, 0, 0))), (1, .int (nI mm)), (2, .int (nI cs))]) hx hb dX8_round_149 hl (k := 0) rfl (jn_inc _ 1) (by decide) rfl (fun ls hl => ?_)
                          refine lv_goto (tgt := 103) hx hb dX8_round_152 (by decide) ?_
                          exact ih_103 r2 go2 (k2 + 1) (by omega) (by omega) (zvJ_no (by omega) hn8 hJ c_120) _ _ _ hB (lv_sub hl [0, 1, 2, 3, 4, 5, 6] rfl)
                        · refine lv_iload hx hb dX8_round_123 (lv_at hl 0 rfl) ?_
                          refine lv_sipush (v := nI 256) hx hb dX8_round_125 (by decide) ?_
                          refine jn_irem hx hb dX8_round_128 (by omega) (by omega) (by omega) ?_
                          refine lv_iload_n hx hb dX8_round_129 rfl (lv_at hl 6 rfl) ?_
                          refine jn_icmp_ne (tgt := 136) hx hb dX8_round_130 (by decide) (by omega) (by omega) (fun c_130 => ?_) (fun c_130 => ?_)
                          · refine lv_iconst (v := nI 1) hx hb dX8_round_136 (by decide) ?_
                            refine lv_istore (lv' := [(4, .int (nI 1)), (6, .int (nI k2)), (5, .int (nI n)), (3, .int (nI (rdS cs cc))), (0, .ref (G.2.2.1 (20, 0, 0))), (1, .int (nI mm)), (2, .int (nI cs))]) hx hb dX8_round_137 hl (by decide) rfl (fun ls hl => ?_)
                            refine lv_aload_n hx hb dX8_round_139 rfl (lv_at hl 4 rfl) ?_
                            refine lv_iload_n hx hb dX8_round_140 rfl (lv_at hl 5 rfl) ?_
                            refine lv_iload hx hb dX8_round_141 (lv_at hl 1 rfl) ?_
                            refine lv_iload hx hb dX8_round_143 (lv_at hl 2 rfl) ?_
                            refine lv_iload_n hx hb dX8_round_145 rfl (lv_at hl 6 rfl) ?_
                            refine j_cvv (20, 0, 0) [.int (nI mm), .int (nI k2), .int (nI n), .int (nI cs)] hC hB hl.1 (c_X8_goRounds l_ G (sr I 46 (r2)) J O mm k2 n cs (by omega) (by omega) (by omega) (by omega) (by omega) ((sr_nj (show (41 : Nat) ≠ 46 by omega)).trans (hD)) (hW)) (cwV 4 hts gX8_round_X8_goRounds rfl rfl rfl (by decide +kernel) ⟨by decide, by decide⟩) dX8_round_146 jk20 rfl rfl rfl rfl (Nat.le_of_ble_eq_true rfl) (fun u_146 H locs hp_146 hB => ?_)
                            obtain rfl := hp_146
                            have hB : jB G A s_.heap (sr I 46 (it (grD (I 41) mm cs k2 n) nd (r2)), J, O) H locs := by (rw [show sr I 46 (it (grD (I 41) mm cs k2 n) nd (r2)) = sr (sr I 46 (r2)) 46 (it (grD (I 41) mm cs k2 n) nd (r2)) from by funext a; simp +decide only [sr]; (repeat' split) <;> first | rfl | (exfalso; omega) | (subst_vars; rfl)]; exact hB)
                            refine lv_iinc (v := nI (k2 + 1)) (lv' := [(6, .int (nI (k2 + 1))), (4, .int (nI 1)), (5, .int (nI n)), (3, .int (nI (rdS cs cc))), (0, .ref (G.2.2.1 (20, 0, 0))), (1, .int (nI mm)), (2, .int (nI cs))]) hx hb dX8_round_149 hl (k := 1) rfl (jn_inc _ 1) (by decide) rfl (fun ls hl => ?_)
                            refine lv_goto (tgt := 103) hx hb dX8_round_152 (by decide) ?_
                            exact ih_103 (it (grD (I 41) mm cs k2 n) nd (r2)) true (k2 + 1) (by omega) (by omega) (zvJ_go hW hcs (by omega) hn8 hJ c_120 c_130) _ _ _ hB (lv_sub hl [0, 1, 2, 3, 4, 5, 6] rfl)
                          · refine lv_iload hx hb dX8_round_133 (lv_at hl 2 rfl) ?_
                            exact j_iret hC hB dX8_round_135 (⟨by unfold rdA1; rw [if_pos (show (isB (nI mm) nm && isB (nI cs) 256) = true by rw [c_5, c_17]; rfl), show tN (nI mm) = mm from nIc (show mm < 2147483648 by omega), show tN (nI cs) = cs from nIc (by omega), ceF_eq hcc ecc]; exact zvJ_hit (by omega) hn8 hJ c_120 c_130, ⟨SM.sr (SM.rf) scr46, SMJ.rf, rfl⟩⟩)
                  exact lp_103 _ r false 0 (Nat.lt_succ_self _) (by omega) ((hgo.1 c_94).2) _ _ _ hB (lv_sub hl [0, 1, 2, 3, 4, 5, 6] rfl)
            exact lp_92 _ f true 0 (Nat.lt_succ_self _) (by omega) (⟨fun _ => ⟨by omega, zvJ_0 hbl (fun j hj => by rw [hf, show k = 2048 by omega]; simp [inR8, hj])⟩, fun z => absurd z (by decide)⟩) _ _ _ hB (lv_sub hl [0, 1, 2, 3, 4, 5] rfl)
          · refine lv_aload_n hx hb dX8_round_61 rfl (lv_at hl 2 rfl) ?_
            refine j_get (20, 0, 0) 7 (v := .ref (G.2.2.1 (21, 46, 0))) hC hB in_X8 lk_25 dX8_round_62 jk20 rfl rfl (by decide) rfl ?_
            refine lv_iload hx hb dX8_round_65 (lv_at hl 0 rfl) ?_
            refine lv_iload hx hb dX8_round_67 (lv_at hl 0 rfl) ?_
            refine lv_iload_n hx hb dX8_round_69 rfl (lv_at hl 1 rfl) ?_
            refine jn_icmp_ne (tgt := 77) hx hb dX8_round_70 (by decide) (by omega) (by omega) (fun c_70 => ?_) (fun c_70 => ?_)
            · refine lv_ldc (v := 1000000) hx hb hown (hts (.constant RX8 148 (1000000)) (by decide +kernel)) dX8_round_77 ?_
              refine j_eqi (y := nI 1000000) rfl ?_
              refine j_iSt 46 k hC hB dX8_round_79 (by decide) rfl (by simp only [lenI_46]; omega) (fun H locs hB => ?_)
              have hB : jB G A s_.heap (sr I 46 (upd (f) k (nI 1000000)), J, O) H locs := by rw [show sr I 46 (upd (f) k (nI 1000000)) = u2 (sr I 46 (f)) 46 k (nI 1000000) from (u2_sr _ _ _ _ _).symm]; exact hB
              refine lv_iinc (v := nI (k + 1)) (lv' := [(4, .int (nI (k + 1))), (3, .int (nI (rdS cs cc))), (0, .ref (G.2.2.1 (20, 0, 0))), (1, .int (nI mm)), (2, .int (nI cs))]) hx hb dX8_round_80 hl (k := 0) rfl (jn_inc _ 1) (by decide) rfl (fun ls hl => ?_)
              refine lv_goto (tgt := 53) hx hb dX8_round_83 (by decide) ?_
              exact ih_53 (upd (f) k (nI 1000000)) (k + 1) (by omega) (by omega) (by rw [hf, ← inR8_step]; simp [c_70]) _ _ _ hB (lv_sub hl [0, 1, 2, 3, 4] rfl)
            · refine lv_iconst (v := nI 0) hx hb dX8_round_73 (by decide) ?_
              refine lv_goto (tgt := 79) hx hb dX8_round_74 (by decide) ?_
              refine j_iSt 46 k hC hB dX8_round_79 (by decide) rfl (by simp only [lenI_46]; omega) (fun H locs hB => ?_)
              have hB : jB G A s_.heap (sr I 46 (upd (f) k (nI 0)), J, O) H locs := by rw [show sr I 46 (upd (f) k (nI 0)) = u2 (sr I 46 (f)) 46 k (nI 0) from (u2_sr _ _ _ _ _).symm]; exact hB
              refine lv_iinc (v := nI (k + 1)) (lv' := [(4, .int (nI (k + 1))), (3, .int (nI (rdS cs cc))), (0, .ref (G.2.2.1 (20, 0, 0))), (1, .int (nI mm)), (2, .int (nI cs))]) hx hb dX8_round_80 hl (k := 0) rfl (jn_inc _ 1) (by decide) rfl (fun ls hl => ?_)
              refine lv_goto (tgt := 53) hx hb dX8_round_83 (by decide) ?_
              exact ih_53 (upd (f) k (nI 0)) (k + 1) (by omega) (by omega) (by rw [hf, ← inR8_step]; simp [eq_true c_70]) _ _ _ hB (lv_sub hl [0, 1, 2, 3, 4] rfl)
      exact lp_53 _ (I 46) 0 (Nat.lt_succ_self _) (by omega) ((inR8_0 _ _ _ _).symm) _ _ _ (jB_cast2 hB (by first | exact (sr_id _ _).symm | (funext a_; simp +decide only [sr]; (repeat' split) <;> first | rfl | (exfalso; omega) | (subst_vars; rfl))) rfl) (lv_sub hl [0, 1, 2, 3, 4] rfl)
    · refine lv_iconst (v := (-1 : Int32)) hx hb dX8_round_20 (by decide) ?_
      exact j_iret hC hB dX8_round_21 (⟨by unfold rdA1; rw [if_neg (by simp [c_5, c_17])], ⟨SM.rf, SMJ.rf, rfl⟩⟩)

set_option maxHeartbeats 4000000 in
set_option maxRecDepth 100000 in
theorem c_X8_goWander (l_ : Launch) (G : jG) (I : Nat → Nat → Int32) (J : Nat → Nat → Int64) (O : Nat → Nat → Nat) (m : Nat) (hm : m < 4) {nd : Nat} (hnd : nd ≤ 10) (hD : I 41 0 = nI nd) (hW : wfD (I 41) nd) : jMv l_ G yX8_goWander wsX8_goWander ({ frames := 3, cells := 0, slots := 0, locals := 73 }) [.ref (G.2.2.1 (20, 0, 0)), .int (nI m)] (I, J, O) (fun u => u = (I, srJ (srJ J 11 (gwY (I 41) m nd (J 10) (J 11))) 10 (va_cpy (gwY (I 41) m nd (J 10) (J 11)) (J 10) 0 0 8), O)) := by
  refine jMv_of (cc := cX8_goWander) (maxL := 5) (ret := none) (lv0 := [(0, .ref (G.2.2.1 (20, 0, 0))), (1, .int (nI m))]) (by decide) rfl (Nat.le_of_ble_eq_true rfl) rfl ?_
  intro pg_ ev_ s_ mi_ below meth cd_ A ls hC hB hl
  obtain ⟨hx, hb, hr, hml, hown, hts, hlocks, hK, hA⟩ := id hC
  have lk_31 := hts (.fieldLink RX8 31 "RiddlePrisonModel" "likely" "[J") (by decide +kernel)
  have lk_35 := hts (.fieldLink RX8 35 "RiddlePrisonModel" "likelyThen" "[J") (by decide +kernel)
  have lk_7 := hts (.fieldLink RX8 7 "RiddlePrisonModel" "now" "[I") (by decide +kernel)
  have in_X8 := (fun w h => List.mem_cons_of_mem _ (List.mem_append_right _ h) : ∀ w ∈ wsX80, w ∈ wsX8_goWander)
  refine lv_iconst (v := nI 0) hx hb dX8_goWander_0 (by decide) ?_
  refine lv_istore_n (lv' := [(2, .int (nI 0)), (0, .ref (G.2.2.1 (20, 0, 0))), (1, .int (nI m))]) hx hb dX8_goWander_1 rfl hl (by decide) rfl (fun ls hl => ?_)
  have lp_2 : ∀ (fu : Nat) (y : Nat → Int64) (k : Nat), 8 - k < fu → (k ≤ 8) → (y = filJ (J 11) 0 k) → ∀ H locs ls, jB G A s_.heap (I, srJ J 11 (y), O) H locs → lv_has ls 5 [(2, .int (nI k)), (0, .ref (G.2.2.1 (20, 0, 0))), (1, .int (nI m))] → W pg_ l_ ev_ ({ frames := 3, cells := 0, slots := 0, locals := 73 }) s_ mi_ ([.ref (G.2.2.1 (20, 0, 0)), .int (nI m)]).toArray below meth cd_ H locs 0 0 (jQv G A below [.ref (G.2.2.1 (20, 0, 0)), .int (nI m)] s_ (fun u => u = (I, srJ (srJ J 11 (gwY (I 41) m nd (J 10) (J 11))) 10 (va_cpy (gwY (I 41) m nd (J 10) (J 11)) (J 10) 0 0 8), O))) (F0 mi_ 2 ls []) := by
    intro fu
    induction fu with
    | zero => intro y k hf; exact absurd hf (Nat.not_lt_zero _)
    | succ fu ih_2 =>
      intro y k hf_2 hk hy H locs ls hB hl
      refine lv_iload_n hx hb dX8_goWander_2 rfl (lv_at hl 0 rfl) ?_
      refine lv_bipush (v := nI 8) hx hb dX8_goWander_3 (by decide) ?_
      refine jn_icmp_ge (tgt := 21) hx hb dX8_goWander_5 (by decide) (by omega) (by omega) (fun c_5 => ?_) (fun c_5 => ?_)
      · refine lv_iconst (v := nI 0) hx hb dX8_goWander_21 (by decide) ?_
        refine lv_istore_n (lv' := [(2, .int (nI 0)), (0, .ref (G.2.2.1 (20, 0, 0))), (1, .int (nI m))]) hx hb dX8_goWander_22 rfl hl (by decide) rfl (fun ls hl => ?_)
        have lp_23 : ∀ (fu : Nat) (y1 : Nat → Int64) (c : Nat), 8 - c < fu → (c ≤ 8) → (y1 = it (gwC (I 41) m nd (J 10)) c (filJ (J 11) 0 8)) → ∀ H locs ls, jB G A s_.heap (I, srJ J 11 (y1), O) H locs → lv_has ls 5 [(2, .int (nI c)), (0, .ref (G.2.2.1 (20, 0, 0))), (1, .int (nI m))] → W pg_ l_ ev_ ({ frames := 3, cells := 0, slots := 0, locals := 73 }) s_ mi_ ([.ref (G.2.2.1 (20, 0, 0)), .int (nI m)]).toArray below meth cd_ H locs 0 0 (jQv G A below [.ref (G.2.2.1 (20, 0, 0)), .int (nI m)] s_ (fun u => u = (I, srJ (srJ J 11 (gwY (I 41) m nd (J 10) (J 11))) 10 (va_cpy (gwY (I 41) m nd (J 10) (J 11)) (J 10) 0 0 8), O))) (F0 mi_ 23 ls []) := by
          intro fu
          induction fu with
          | zero => intro y1 c hf; exact absurd hf (Nat.not_lt_zero _)
          | succ fu ih_23 =>
            intro y1 c hf_23 hc hy1 H locs ls hB hl
            refine lv_iload_n hx hb dX8_goWander_23 rfl (lv_at hl 0 rfl) ?_
            refine lv_bipush (v := nI 8) hx hb dX8_goWander_24 (by decide) ?_
            refine jn_icmp_ge (tgt := 162) hx hb dX8_goWander_26 (by decide) (by omega) (by omega) (fun c_26 => ?_) (fun c_26 => ?_)
            · refine lv_iconst (v := nI 0) hx hb dX8_goWander_162 (by decide) ?_
              refine lv_istore_n (lv' := [(2, .int (nI 0)), (0, .ref (G.2.2.1 (20, 0, 0))), (1, .int (nI m))]) hx hb dX8_goWander_163 rfl hl (by decide) rfl (fun ls hl => ?_)
              have lp_164 : ∀ (fu : Nat) (x2 : Nat → Int64) (k3 : Nat), 8 - k3 < fu → (k3 ≤ 8) → (x2 = va_cpy y1 (J 10) 0 0 k3) → ∀ H locs ls, jB G A s_.heap (I, srJ (srJ J 11 (y1)) 10 (x2), O) H locs → lv_has ls 5 [(2, .int (nI k3)), (0, .ref (G.2.2.1 (20, 0, 0))), (1, .int (nI m))] → W pg_ l_ ev_ ({ frames := 3, cells := 0, slots := 0, locals := 73 }) s_ mi_ ([.ref (G.2.2.1 (20, 0, 0)), .int (nI m)]).toArray below meth cd_ H locs 0 0 (jQv G A below [.ref (G.2.2.1 (20, 0, 0)), .int (nI m)] s_ (fun u => u = (I, srJ (srJ J 11 (gwY (I 41) m nd (J 10) (J 11))) 10 (va_cpy (gwY (I 41) m nd (J 10) (J 11)) (J 10) 0 0 8), O))) (F0 mi_ 164 ls []) := by
                intro fu
                induction fu with
                | zero => intro x2 k3 hf; exact absurd hf (Nat.not_lt_zero _)
                | succ fu ih_164 =>
                  intro x2 k3 hf_164 hk3 hx2 H locs ls hB hl
                  refine lv_iload_n hx hb dX8_goWander_164 rfl (lv_at hl 0 rfl) ?_
                  refine lv_bipush (v := nI 8) hx hb dX8_goWander_165 (by decide) ?_
                  refine jn_icmp_ge (tgt := 188) hx hb dX8_goWander_167 (by decide) (by omega) (by omega) (fun c_167 => ?_) (fun c_167 => ?_)
                  · exact j_vret hC hB dX8_goWander_188 (by rw [hx2, show k3 = 8 by omega, hy1, show c = 8 by omega]; rfl)
                  · refine lv_aload_n hx hb dX8_goWander_170 rfl (lv_at hl 1 rfl) ?_
                    refine j_get (20, 0, 0) 9 (v := .ref (G.2.2.1 (22, 10, 0))) hC hB in_X8 lk_31 dX8_goWander_171 jk20 rfl rfl (by decide) rfl ?_
                    refine lv_iload_n hx hb dX8_goWander_174 rfl (lv_at hl 0 rfl) ?_
                    refine lv_aload_n hx hb dX8_goWander_175 rfl (lv_at hl 1 rfl) ?_
                    refine j_get (20, 0, 0) 10 (v := .ref (G.2.2.1 (22, 11, 0))) hC hB in_X8 lk_35 dX8_goWander_176 jk20 rfl rfl (by decide) rfl ?_
                    refine lv_iload_n hx hb dX8_goWander_179 rfl (lv_at hl 0 rfl) ?_
                    refine j_lLd 11 k3 hC hB dX8_goWander_180 (by decide) rfl (by simp only [lenJ_11]; omega) ?_
                    refine j_eql (x := (srJ (srJ J 11 (y1)) 10 (x2)) 11 k3) (y := y1 k3) ((srJ_nj (show (11 : Nat) ≠ 10 by omega)).trans (srJ_sj)) ?_
                    refine j_lSt 10 k3 hC hB dX8_goWander_181 (by decide) rfl (by simp only [lenJ_10]; omega) (fun H locs hB => ?_)
                    have hB : jB G A s_.heap (I, srJ (srJ J 11 (y1)) 10 (vp_updL (x2) k3 (y1 k3)), O) H locs := by rw [show srJ (srJ J 11 (y1)) 10 (vp_updL (x2) k3 (y1 k3)) = v2 (srJ (srJ J 11 (y1)) 10 (x2)) 10 k3 (y1 k3) from (v2_srJ _ _ _ _ _).symm]; exact hB
                    refine lv_iinc (v := nI (k3 + 1)) (lv' := [(2, .int (nI (k3 + 1))), (0, .ref (G.2.2.1 (20, 0, 0))), (1, .int (nI m))]) hx hb dX8_goWander_182 hl (k := 0) rfl (jn_inc _ 1) (by decide) rfl (fun ls hl => ?_)
                    refine lv_goto (tgt := 164) hx hb dX8_goWander_185 (by decide) ?_
                    exact ih_164 (vp_updL (x2) k3 (y1 k3)) (k3 + 1) (by omega) (by omega) (by rw [hx2, ← cpJ_step0, Nat.zero_add]) _ _ _ hB (lv_sub hl [0, 1, 2] rfl)
              exact lp_164 _ (J 10) 0 (Nat.lt_succ_self _) (by omega) ((cpJ_0 _ _).symm) _ _ _ (jB_cast2 hB rfl (by first | exact (srJ_id _ _).symm | (funext a_; simp +decide only [srJ]; (repeat' split) <;> first | rfl | (exfalso; omega) | (subst_vars; rfl)))) (lv_sub hl [0, 1, 2] rfl)
            · refine lv_iconst (v := nI 0) hx hb dX8_goWander_29 (by decide) ?_
              refine lv_istore_n (lv' := [(3, .int (nI 0)), (2, .int (nI c)), (0, .ref (G.2.2.1 (20, 0, 0))), (1, .int (nI m))]) hx hb dX8_goWander_30 rfl hl (by decide) rfl (fun ls hl => ?_)
              refine lv_iconst (v := nI 0) hx hb dX8_goWander_31 (by decide) ?_
              refine lv_istore (lv' := [(4, .int (nI 0)), (3, .int (nI 0)), (2, .int (nI c)), (0, .ref (G.2.2.1 (20, 0, 0))), (1, .int (nI m))]) hx hb dX8_goWander_32 hl (by decide) rfl (fun ls hl => ?_)
              have lp_34 : ∀ (fu : Nat) (mn : Int32) (d : Nat), nd - d < fu → (d ≤ nd) → (mn = mnF (I 41) m c d) → ∀ H locs ls, jB G A s_.heap (I, srJ J 11 (y1), O) H locs → lv_has ls 5 [(4, .int (nI d)), (3, .int mn), (2, .int (nI c)), (0, .ref (G.2.2.1 (20, 0, 0))), (1, .int (nI m))] → W pg_ l_ ev_ ({ frames := 3, cells := 0, slots := 0, locals := 73 }) s_ mi_ ([.ref (G.2.2.1 (20, 0, 0)), .int (nI m)]).toArray below meth cd_ H locs 0 0 (jQv G A below [.ref (G.2.2.1 (20, 0, 0)), .int (nI m)] s_ (fun u => u = (I, srJ (srJ J 11 (gwY (I 41) m nd (J 10) (J 11))) 10 (va_cpy (gwY (I 41) m nd (J 10) (J 11)) (J 10) 0 0 8), O))) (F0 mi_ 34 ls []) := by
                intro fu
                induction fu with
                | zero => intro mn d hf; exact absurd hf (Nat.not_lt_zero _)
                | succ fu ih_34 =>
                  intro mn d hf_34 hd hmn H locs ls hB hl
                  refine lv_iload hx hb dX8_goWander_34 (lv_at hl 0 rfl) ?_
                  refine lv_aload_n hx hb dX8_goWander_36 rfl (lv_at hl 3 rfl) ?_
                  refine j_get (20, 0, 0) 0 (v := .ref (G.2.2.1 (21, 41, 0))) hC hB in_X8 lk_7 dX8_goWander_37 jk20 rfl rfl (by decide) rfl ?_
                  refine lv_iconst (v := nI 0) hx hb dX8_goWander_40 (by decide) ?_
                  refine j_iLd 41 0 hC hB dX8_goWander_41 (by decide) rfl (by simp only [lenI_41]; omega) ?_
                  refine j_eqi (x := I 41 0) (y := nI nd) (hD) ?_
                  refine jn_icmp_ge (tgt := 70) hx hb dX8_goWander_42 (by decide) (by omega) (by omega) (fun c_42 => ?_) (fun c_42 => ?_)
                  · have hmn2 : mn = mnF (I 41) m c nd := by rw [hmn, show d = nd by omega]
                    refine lv_iconst (v := nI 0) hx hb dX8_goWander_70 (by decide) ?_
                    refine lv_istore (lv' := [(4, .int (nI 0)), (3, .int mn), (2, .int (nI c)), (0, .ref (G.2.2.1 (20, 0, 0))), (1, .int (nI m))]) hx hb dX8_goWander_71 hl (by decide) rfl (fun ls hl => ?_)
                    have lp_73 : ∀ (fu : Nat) (y2 : Nat → Int64) (e : Nat), nd - e < fu → (e ≤ nd) → (y2 = it (gwD (I 41) m (J 10 c * ((2520 : Int64) / mn.toInt64)) c) e y1) → ∀ H locs ls, jB G A s_.heap (I, srJ J 11 (y2), O) H locs → lv_has ls 5 [(4, .int (nI e)), (3, .int mn), (2, .int (nI c)), (0, .ref (G.2.2.1 (20, 0, 0))), (1, .int (nI m))] → W pg_ l_ ev_ ({ frames := 3, cells := 0, slots := 0, locals := 73 }) s_ mi_ ([.ref (G.2.2.1 (20, 0, 0)), .int (nI m)]).toArray below meth cd_ H locs 0 0 (jQv G A below [.ref (G.2.2.1 (20, 0, 0)), .int (nI m)] s_ (fun u => u = (I, srJ (srJ J 11 (gwY (I 41) m nd (J 10) (J 11))) 10 (va_cpy (gwY (I 41) m nd (J 10) (J 11)) (J 10) 0 0 8), O))) (F0 mi_ 73 ls []) := by
                      intro fu
                      induction fu with
                      | zero => intro y2 e hf; exact absurd hf (Nat.not_lt_zero _)
                      | succ fu ih_73 =>
                        intro y2 e hf_73 he hy2 H locs ls hB hl
                        refine lv_iload hx hb dX8_goWander_73 (lv_at hl 0 rfl) ?_
                        refine lv_aload_n hx hb dX8_goWander_75 rfl (lv_at hl 3 rfl) ?_
                        refine j_get (20, 0, 0) 0 (v := .ref (G.2.2.1 (21, 41, 0))) hC hB in_X8 lk_7 dX8_goWander_76 jk20 rfl rfl (by decide) rfl ?_
                        refine lv_iconst (v := nI 0) hx hb dX8_goWander_79 (by decide) ?_
                        refine j_iLd 41 0 hC hB dX8_goWander_80 (by decide) rfl (by simp only [lenI_41]; omega) ?_
                        refine j_eqi (x := I 41 0) (y := nI nd) (hD) ?_
                        refine jn_icmp_ge (tgt := 129) hx hb dX8_goWander_81 (by decide) (by omega) (by omega) (fun c_81 => ?_) (fun c_81 => ?_)
                        · refine lv_aload_n hx hb dX8_goWander_129 rfl (lv_at hl 3 rfl) ?_
                          refine j_get (20, 0, 0) 10 (v := .ref (G.2.2.1 (22, 11, 0))) hC hB in_X8 lk_35 dX8_goWander_130 jk20 rfl rfl (by decide) rfl ?_
                          refine lv_iload_n hx hb dX8_goWander_133 rfl (lv_at hl 2 rfl) ?_
                          refine lv_dup2_11 hx hb dX8_goWander_134 rfl rfl ?_
                          refine j_lLd 11 c hC hB dX8_goWander_135 (by decide) rfl (by simp only [lenJ_11]; omega) ?_
                          refine j_eql (x := (srJ J 11 (y2)) 11 c) (y := y2 c) (srJ_sj) ?_
                          refine lv_iload_n hx hb dX8_goWander_136 rfl (lv_at hl 1 rfl) ?_
                          refine lv_if_ne (tgt := 153) hx hb dX8_goWander_137 (by decide) (fun c_137 => ?_) (fun c_137 => ?_)
                          · refine lv_lconst (v := 0) hx hb dX8_goWander_153 rfl ?_
                            refine lv_ladd hx hb dX8_goWander_154 ?_
                            refine j_lSt 11 c hC hB dX8_goWander_155 (by decide) rfl (by simp only [lenJ_11]; omega) (fun H locs hB => ?_)
                            have hB : jB G A s_.heap (I, srJ J 11 (vp_updL (y2) c ((y2 c) + ((0 : Int64)))), O) H locs := by rw [show srJ J 11 (vp_updL (y2) c ((y2 c) + ((0 : Int64)))) = v2 (srJ J 11 (y2)) 11 c ((y2 c) + ((0 : Int64))) from (v2_srJ _ _ _ _ _).symm]; exact hB
                            refine lv_iinc (v := nI (c + 1)) (lv' := [(2, .int (nI (c + 1))), (4, .int (nI e)), (3, .int mn), (0, .ref (G.2.2.1 (20, 0, 0))), (1, .int (nI m))]) hx hb dX8_goWander_156 hl (k := 2) rfl (jn_inc _ 1) (by decide) rfl (fun ls hl => ?_)
                            refine lv_goto (tgt := 23) hx hb dX8_goWander_159 (by decide) ?_
                            exact ih_23 (vp_updL (y2) c ((y2 c) + ((0 : Int64)))) (c + 1) (by omega) (by omega) (by rw [it_s, ← hy1]; unfold gwC gwQ; rw [← hmn2]; rw [← show e = nd by omega, ← hy2]; simp [c_137]) _ _ _ hB (lv_sub hl [0, 3, 4] rfl)
                          · refine lv_aload_n hx hb dX8_goWander_140 rfl (lv_at hl 3 rfl) ?_
                            refine j_get (20, 0, 0) 9 (v := .ref (G.2.2.1 (22, 10, 0))) hC hB in_X8 lk_31 dX8_goWander_141 jk20 rfl rfl (by decide) rfl ?_
                            refine lv_iload_n hx hb dX8_goWander_144 rfl (lv_at hl 2 rfl) ?_
                            refine j_lLd 10 c hC hB dX8_goWander_145 (by decide) rfl (by simp only [lenJ_10]; omega) ?_
                            refine j_eql (x := (srJ J 11 (y2)) 10 c) (y := (J 10) c) ((srJ_nj (show (10 : Nat) ≠ 11 by omega))) ?_
                            refine lv_ldc2 (v := 2520) hx hb hown (hts (.constantLong RX8 189 (2520)) (by decide +kernel)) dX8_goWander_146 ?_
                            refine lv_lmul hx hb dX8_goWander_149 ?_
                            refine lv_goto (tgt := 154) hx hb dX8_goWander_150 (by decide) ?_
                            refine lv_ladd hx hb dX8_goWander_154 ?_
                            refine j_lSt 11 c hC hB dX8_goWander_155 (by decide) rfl (by simp only [lenJ_11]; omega) (fun H locs hB => ?_)
                            have hB : jB G A s_.heap (I, srJ J 11 (vp_updL (y2) c ((y2 c) + (((J 10) c) * ((2520 : Int64))))), O) H locs := by rw [show srJ J 11 (vp_updL (y2) c ((y2 c) + (((J 10) c) * ((2520 : Int64))))) = v2 (srJ J 11 (y2)) 11 c ((y2 c) + (((J 10) c) * ((2520 : Int64)))) from (v2_srJ _ _ _ _ _).symm]; exact hB
                            refine lv_iinc (v := nI (c + 1)) (lv' := [(2, .int (nI (c + 1))), (4, .int (nI e)), (3, .int mn), (0, .ref (G.2.2.1 (20, 0, 0))), (1, .int (nI m))]) hx hb dX8_goWander_156 hl (k := 2) rfl (jn_inc _ 1) (by decide) rfl (fun ls hl => ?_)
                            refine lv_goto (tgt := 23) hx hb dX8_goWander_159 (by decide) ?_
                            exact ih_23 (vp_updL (y2) c ((y2 c) + (((J 10) c) * ((2520 : Int64))))) (c + 1) (by omega) (by omega) (by rw [it_s, ← hy1]; unfold gwC gwQ; rw [← hmn2]; rw [← show e = nd by omega, ← hy2]; simp [eq_true c_137]) _ _ _ hB (lv_sub hl [0, 3, 4] rfl)
                        · refine lv_aload_n hx hb dX8_goWander_84 rfl (lv_at hl 3 rfl) ?_
                          refine lv_iload_n hx hb dX8_goWander_85 rfl (lv_at hl 4 rfl) ?_
                          refine lv_iload hx hb dX8_goWander_86 (lv_at hl 0 rfl) ?_
                          refine lv_iload_n hx hb dX8_goWander_88 rfl (lv_at hl 2 rfl) ?_
                          refine j_cvi (20, 0, 0) [.int (nI m), .int (nI e), .int (nI c)] hC hB hl.1 (c_X8_passes l_ G I (srJ J 11 (y2)) O m e (nI c) (by omega) (by omega)) (cwV 3 hts gX8_goWander_X8_passes rfl rfl rfl (by decide +kernel) ⟨by decide, by decide⟩) dX8_goWander_89 jk20 rfl rfl rfl rfl (Nat.le_of_ble_eq_true rfl) (fun r_89 u_89 H locs hp_89 hB => ?_)
                          obtain ⟨rfl, rfl⟩ := hp_89
                          refine j_eqi (y := b2 (psB (I 41) m e (nI c))) (rfl) ?_
                          refine jb_if_eq (tgt := 123) hx hb dX8_goWander_92 (by decide) (fun c_92 => ?_) (fun c_92 => ?_)
                          · refine lv_iinc (v := nI (e + 1)) (lv' := [(4, .int (nI (e + 1))), (3, .int mn), (2, .int (nI c)), (0, .ref (G.2.2.1 (20, 0, 0))), (1, .int (nI m))]) hx hb dX8_goWander_123 hl (k := 0) rfl (jn_inc _ 1) (by decide) rfl (fun ls hl => ?_)
                            refine lv_goto (tgt := 73) hx hb dX8_goWander_126 (by decide) ?_
                            exact ih_73 y2 (e + 1) (by omega) (by omega) (by rw [it_s, ← hy2]; simp [gwD, c_92]) _ _ _ hB (lv_sub hl [0, 1, 2, 3, 4] rfl)
                          · refine lv_aload_n hx hb dX8_goWander_95 rfl (lv_at hl 3 rfl) ?_
                            refine j_get (20, 0, 0) 10 (v := .ref (G.2.2.1 (22, 11, 0))) hC hB in_X8 lk_35 dX8_goWander_96 jk20 rfl rfl (by decide) rfl ?_
                            refine lv_aload_n hx hb dX8_goWander_99 rfl (lv_at hl 3 rfl) ?_
                            refine lv_iload hx hb dX8_goWander_100 (lv_at hl 0 rfl) ?_
                            refine lv_iload_n hx hb dX8_goWander_102 rfl (lv_at hl 2 rfl) ?_
                            refine j_cvi (20, 0, 0) [.int (nI e), .int (nI c)] hC hB hl.1 (c_X8_behind l_ G I (srJ J 11 (y2)) O e (nI c) (by omega)) (cwV 2 hts gX8_goWander_X8_behind rfl rfl rfl (by decide +kernel) ⟨by decide, by decide⟩) dX8_goWander_103 jk20 rfl rfl rfl rfl (Nat.le_of_ble_eq_true rfl) (fun r_103 u_103 H locs hp_103 hB => ?_)
                            obtain ⟨rfl, rfl⟩ := hp_103
                            refine j_eqi (y := bhF (I 41) e (nI c)) (rfl) ?_
                            have hbt := ps_ok hW (show e < nd by omega) c_92
                            refine j_eqi hbt.1 ?_
                            refine lv_dup2_11 hx hb dX8_goWander_106 rfl rfl ?_
                            refine j_lLd 11 (btF (I 41) e c) hC hB dX8_goWander_107 (by decide) rfl (by simp only [lenJ_11]; omega) ?_
                            refine j_eql (x := (srJ J 11 (y2)) 11 (btF (I 41) e c)) (y := y2 (btF (I 41) e c)) (srJ_sj) ?_
                            refine lv_aload_n hx hb dX8_goWander_108 rfl (lv_at hl 3 rfl) ?_
                            refine j_get (20, 0, 0) 9 (v := .ref (G.2.2.1 (22, 10, 0))) hC hB in_X8 lk_31 dX8_goWander_109 jk20 rfl rfl (by decide) rfl ?_
                            refine lv_iload_n hx hb dX8_goWander_112 rfl (lv_at hl 2 rfl) ?_
                            refine j_lLd 10 c hC hB dX8_goWander_113 (by decide) rfl (by simp only [lenJ_10]; omega) ?_
                            refine j_eql (x := (srJ J 11 (y2)) 10 c) (y := (J 10) c) ((srJ_nj (show (10 : Nat) ≠ 11 by omega))) ?_
                            refine lv_ldc2 (v := 2520) hx hb hown (hts (.constantLong RX8 189 (2520)) (by decide +kernel)) dX8_goWander_114 ?_
                            refine lv_iload_n hx hb dX8_goWander_117 rfl (lv_at hl 1 rfl) ?_
                            refine lv_i2l (v := mn.toInt64) hx hb dX8_goWander_118 rfl ?_
                            refine lv_ldiv hx hb dX8_goWander_119 (by rw [hmn2]; exact mn_ne0 hnd (show e < nd by omega) c_92) ?_
                            refine lv_lmul hx hb dX8_goWander_120 ?_
                            refine lv_ladd hx hb dX8_goWander_121 ?_
                            refine j_lSt 11 (btF (I 41) e c) hC hB dX8_goWander_122 (by decide) rfl (by simp only [lenJ_11]; omega) (fun H locs hB => ?_)
                            have hB : jB G A s_.heap (I, srJ J 11 (vp_updL (y2) (btF (I 41) e c) ((y2 (btF (I 41) e c)) + (((J 10) c) * (((2520 : Int64)) / mn.toInt64)))), O) H locs := by rw [show srJ J 11 (vp_updL (y2) (btF (I 41) e c) ((y2 (btF (I 41) e c)) + (((J 10) c) * (((2520 : Int64)) / mn.toInt64)))) = v2 (srJ J 11 (y2)) 11 (btF (I 41) e c) ((y2 (btF (I 41) e c)) + (((J 10) c) * (((2520 : Int64)) / mn.toInt64))) from (v2_srJ _ _ _ _ _).symm]; exact hB
                            refine lv_iinc (v := nI (e + 1)) (lv' := [(4, .int (nI (e + 1))), (3, .int mn), (2, .int (nI c)), (0, .ref (G.2.2.1 (20, 0, 0))), (1, .int (nI m))]) hx hb dX8_goWander_123 hl (k := 0) rfl (jn_inc _ 1) (by decide) rfl (fun ls hl => ?_)
                            refine lv_goto (tgt := 73) hx hb dX8_goWander_126 (by decide) ?_
                            exact ih_73 (vp_updL (y2) (btF (I 41) e c) ((y2 (btF (I 41) e c)) + (((J 10) c) * (((2520 : Int64)) / mn.toInt64)))) (e + 1) (by omega) (by omega) (by rw [it_s, ← hy2]; simp [gwD, c_92]) _ _ _ hB (lv_sub hl [0, 1, 2, 3, 4] rfl)
                    exact lp_73 _ y1 0 (Nat.lt_succ_self _) (by omega) (rfl) _ _ _ hB (lv_sub hl [0, 1, 2, 3, 4] rfl)
                  · refine lv_iload_n hx hb dX8_goWander_45 rfl (lv_at hl 1 rfl) ?_
                    refine lv_aload_n hx hb dX8_goWander_46 rfl (lv_at hl 3 rfl) ?_
                    refine lv_iload_n hx hb dX8_goWander_47 rfl (lv_at hl 4 rfl) ?_
                    refine lv_iload hx hb dX8_goWander_48 (lv_at hl 0 rfl) ?_
                    refine lv_iload_n hx hb dX8_goWander_50 rfl (lv_at hl 2 rfl) ?_
                    refine j_cvi (20, 0, 0) [.int (nI m), .int (nI d), .int (nI c)] hC hB hl.1 (c_X8_passes l_ G I (srJ J 11 (y1)) O m d (nI c) (by omega) (by omega)) (cwV 3 hts gX8_goWander_X8_passes rfl rfl rfl (by decide +kernel) ⟨by decide, by decide⟩) dX8_goWander_51 jk20 rfl rfl rfl rfl (Nat.le_of_ble_eq_true rfl) (fun r_51 u_51 H locs hp_51 hB => ?_)
                    obtain ⟨rfl, rfl⟩ := hp_51
                    refine j_eqi (y := b2 (psB (I 41) m d (nI c))) (rfl) ?_
                    refine jb_if_eq (tgt := 61) hx hb dX8_goWander_54 (by decide) (fun c_54 => ?_) (fun c_54 => ?_)
                    · refine lv_iconst (v := nI 0) hx hb dX8_goWander_61 (by decide) ?_
                      refine lv_iadd hx hb dX8_goWander_62 ?_
                      refine lv_istore_n (lv' := [(3, .int (mn + (nI 0))), (4, .int (nI d)), (2, .int (nI c)), (0, .ref (G.2.2.1 (20, 0, 0))), (1, .int (nI m))]) hx hb dX8_goWander_63 rfl hl (by decide) rfl (fun ls hl => ?_)
                      refine lv_iinc (v := nI (d + 1)) (lv' := [(4, .int (nI (d + 1))), (3, .int (mn + (nI 0))), (2, .int (nI c)), (0, .ref (G.2.2.1 (20, 0, 0))), (1, .int (nI m))]) hx hb dX8_goWander_64 hl (k := 1) rfl (jn_inc _ 1) (by decide) rfl (fun ls hl => ?_)
                      refine lv_goto (tgt := 34) hx hb dX8_goWander_67 (by decide) ?_
                      exact ih_34 (mn + (nI 0)) (d + 1) (by omega) (by omega) (by simp [mnF, hmn, c_54]) _ _ _ hB (lv_sub hl [0, 1, 2, 3, 4] rfl)
                    · refine lv_iconst (v := nI 1) hx hb dX8_goWander_57 (by decide) ?_
                      refine lv_goto (tgt := 62) hx hb dX8_goWander_58 (by decide) ?_
                      refine lv_iadd hx hb dX8_goWander_62 ?_
                      refine lv_istore_n (lv' := [(3, .int (mn + (nI 1))), (4, .int (nI d)), (2, .int (nI c)), (0, .ref (G.2.2.1 (20, 0, 0))), (1, .int (nI m))]) hx hb dX8_goWander_63 rfl hl (by decide) rfl (fun ls hl => ?_)
                      refine lv_iinc (v := nI (d + 1)) (lv' := [(4, .int (nI (d + 1))), (3, .int (mn + (nI 1))), (2, .int (nI c)), (0, .ref (G.2.2.1 (20, 0, 0))), (1, .int (nI m))]) hx hb dX8_goWander_64 hl (k := 1) rfl (jn_inc _ 1) (by decide) rfl (fun ls hl => ?_)
                      refine lv_goto (tgt := 34) hx hb dX8_goWander_67 (by decide) ?_
                      exact ih_34 (mn + (nI 1)) (d + 1) (by omega) (by omega) (by simp [mnF, hmn, c_54]) _ _ _ hB (lv_sub hl [0, 1, 2, 3, 4] rfl)
              exact lp_34 _ (nI 0) 0 (Nat.lt_succ_self _) (by omega) (rfl) _ _ _ hB (lv_sub hl [0, 1, 2, 3, 4] rfl)
        exact lp_23 _ y 0 (Nat.lt_succ_self _) (by omega) (by rw [hy, show k = 8 by omega]; rfl) _ _ _ hB (lv_sub hl [0, 1, 2] rfl)
      · refine lv_aload_n hx hb dX8_goWander_8 rfl (lv_at hl 1 rfl) ?_
        refine j_get (20, 0, 0) 10 (v := .ref (G.2.2.1 (22, 11, 0))) hC hB in_X8 lk_35 dX8_goWander_9 jk20 rfl rfl (by decide) rfl ?_
        refine lv_iload_n hx hb dX8_goWander_12 rfl (lv_at hl 0 rfl) ?_
        refine lv_lconst (v := 0) hx hb dX8_goWander_13 rfl ?_
        refine j_lSt 11 k hC hB dX8_goWander_14 (by decide) rfl (by simp only [lenJ_11]; omega) (fun H locs hB => ?_)
        have hB : jB G A s_.heap (I, srJ J 11 (vp_updL (y) k ((0 : Int64))), O) H locs := by rw [show srJ J 11 (vp_updL (y) k ((0 : Int64))) = v2 (srJ J 11 (y)) 11 k ((0 : Int64)) from (v2_srJ _ _ _ _ _).symm]; exact hB
        refine lv_iinc (v := nI (k + 1)) (lv' := [(2, .int (nI (k + 1))), (0, .ref (G.2.2.1 (20, 0, 0))), (1, .int (nI m))]) hx hb dX8_goWander_15 hl (k := 0) rfl (jn_inc _ 1) (by decide) rfl (fun ls hl => ?_)
        refine lv_goto (tgt := 2) hx hb dX8_goWander_18 (by decide) ?_
        exact ih_2 (vp_updL (y) k ((0 : Int64))) (k + 1) (by omega) (by omega) (by rw [hy]; exact filJ_step _ _ _) _ _ _ hB (lv_sub hl [0, 1, 2] rfl)
  exact lp_2 _ (J 11) 0 (Nat.lt_succ_self _) (by omega) ((filJ_0 _ _).symm) _ _ _ (jB_cast2 hB rfl (by first | exact (srJ_id _ _).symm | (funext a_; simp +decide only [srJ]; (repeat' split) <;> first | rfl | (exfalso; omega) | (subst_vars; rfl)))) (lv_sub hl [0, 1, 2] rfl)

set_option maxHeartbeats 4000000 in
set_option maxRecDepth 100000 in
theorem c_X8_wander (l_ : Launch) (G : jG) (I : Nat → Nat → Int32) (J : Nat → Nat → Int64) (O : Nat → Nat → Nat) (man cell n what : Int32) {nd : Nat} (hnd : nd ≤ 10) (hD : I 41 0 = nI nd) {nm : Nat} (hnm : nm ≤ 4) (hM : I 41 1 = nI nm) (hW : wfD (I 41) nd) (hWc : ∀ m, m < nm → ∃ c, c < 8 ∧ I 41 (51 + m) = nI c) : jMl l_ G yX8_wander wsX8_wander ({ frames := 4, cells := 0, slots := 0, locals := 97 }) [.ref (G.2.2.1 (20, 0, 0)), .int man, .int cell, .int n, .int what] (I, J, O) (fun r u => r = wanA (I 41) nd nm man cell n what ∧ SMs (I, J, O) u) := by
  refine jMl_of (cc := cX8_wander) (maxL := 13) (ret := (some .long)) (lv0 := [(0, .ref (G.2.2.1 (20, 0, 0))), (1, .int man), (2, .int cell), (3, .int n), (4, .int what)]) (by decide) rfl (Nat.le_of_ble_eq_true rfl) rfl ?_
  intro pg_ ev_ s_ mi_ below meth cd_ A ls hC hB hl
  obtain ⟨hx, hb, hr, hml, hown, hts, hlocks, hK, hA⟩ := id hC
  have lk_31 := hts (.fieldLink RX8 31 "RiddlePrisonModel" "likely" "[J") (by decide +kernel)
  have lk_7 := hts (.fieldLink RX8 7 "RiddlePrisonModel" "now" "[I") (by decide +kernel)
  have in_X8 := (fun w h => List.mem_cons_of_mem _ (List.mem_append_right _ h) : ∀ w ∈ wsX80, w ∈ wsX8_wander)
  refine lv_aload_n hx hb dX8_wander_0 rfl (lv_at hl 0 rfl) ?_
  refine lv_iload_n hx hb dX8_wander_1 rfl (lv_at hl 1 rfl) ?_
  refine j_cvi (20, 0, 0) [.int man] hC hB hl.1 (c_X8_isMan l_ G I J O man (by omega) (hM)) (cwV 1 hts gX8_wander_X8_isMan rfl rfl rfl (by decide +kernel) ⟨by decide, by decide⟩) dX8_wander_2 jk20 rfl rfl rfl rfl (Nat.le_of_ble_eq_true rfl) (fun r_2 u_2 H locs hp_2 hB => ?_)
  obtain ⟨rfl, rfl⟩ := hp_2
  refine jb_if_eq (tgt := 38) hx hb dX8_wander_5 (by decide) (fun c_5 => ?_) (fun c_5 => ?_)
  · refine lv_ldc2 (v := -1) hx hb hown (hts (.constantLong RX8 191 (-1)) (by decide +kernel)) dX8_wander_38 ?_
    exact j_lret hC hB dX8_wander_41 (⟨by simp [wanA, c_5], SM.rf, SMJ.rf, rfl⟩)
  · obtain ⟨mm, hmm, rfl⟩ := isB_nat c_5 (by omega)
    obtain ⟨cc, hcc, ecc⟩ := hWc mm hmm
    refine lv_iload_n hx hb dX8_wander_8 rfl (lv_at hl 2 rfl) ?_
    refine j_csi [.int cell] hC hB hl.1 (c_X8_isCell l_ G I J O cell) (va_cwS 1 hts gX8_wander_X8_isCell rfl rfl rfl (by decide +kernel) ⟨by decide, by decide⟩) dX8_wander_9 rfl rfl (Nat.le_of_ble_eq_true rfl) (fun r_9 u_9 H locs hp_9 hB => ?_)
    obtain ⟨rfl, rfl⟩ := hp_9
    refine jb_if_eq (tgt := 38) hx hb dX8_wander_12 (by decide) (fun c_12 => ?_) (fun c_12 => ?_)
    · refine lv_ldc2 (v := -1) hx hb hown (hts (.constantLong RX8 191 (-1)) (by decide +kernel)) dX8_wander_38 ?_
      exact j_lret hC hB dX8_wander_41 (⟨by simp [wanA, c_5, c_12], SM.rf, SMJ.rf, rfl⟩)
    · obtain ⟨xx, hxx, rfl⟩ := isB_nat c_12 (by omega)
      refine lv_iload_n hx hb dX8_wander_15 rfl (lv_at hl 3 rfl) ?_
      refine lv_i2l (v := n.toInt64) hx hb dX8_wander_16 rfl ?_
      refine lv_lconst (v := 0) hx hb dX8_wander_17 rfl ?_
      refine lv_ldc2 (v := 4) hx hb hown (hts (.constantLong RX8 83 (4)) (by decide +kernel)) dX8_wander_18 ?_
      refine j_csi [.long n.toInt64, .long ((0 : Int64)), .long ((4 : Int64))] hC hB hl.1 (c_X8_in l_ G I J O n.toInt64 ((0 : Int64)) ((4 : Int64))) (va_cwS 3 hts gX8_wander_X8_in rfl rfl rfl (by decide +kernel) ⟨by decide, by decide⟩) dX8_wander_21 rfl rfl (Nat.le_of_ble_eq_true rfl) (fun r_21 u_21 H locs hp_21 hB => ?_)
      obtain ⟨rfl, rfl⟩ := hp_21
      refine j_eqi (y := b2 (isB n 5)) (by rw [inR_isB (n := 5) (by decide)]) ?_
      refine jb_if_eq (tgt := 38) hx hb dX8_wander_24 (by decide) (fun c_24 => ?_) (fun c_24 => ?_)
      · refine lv_ldc2 (v := -1) hx hb hown (hts (.constantLong RX8 191 (-1)) (by decide +kernel)) dX8_wander_38 ?_
        exact j_lret hC hB dX8_wander_41 (⟨by simp [wanA, c_5, c_12, c_24], SM.rf, SMJ.rf, rfl⟩)
      · obtain ⟨nn, hnn, rfl⟩ := isB_nat c_24 (by omega)
        refine lv_iload hx hb dX8_wander_27 (lv_at hl 4 rfl) ?_
        refine lv_i2l (v := what.toInt64) hx hb dX8_wander_29 rfl ?_
        refine lv_lconst (v := 0) hx hb dX8_wander_30 rfl ?_
        refine lv_lconst (v := 1) hx hb dX8_wander_31 rfl ?_
        refine j_csi [.long what.toInt64, .long ((0 : Int64)), .long ((1 : Int64))] hC hB hl.1 (c_X8_in l_ G I J O what.toInt64 ((0 : Int64)) ((1 : Int64))) (va_cwS 3 hts gX8_wander_X8_in rfl rfl rfl (by decide +kernel) ⟨by decide, by decide⟩) dX8_wander_32 rfl rfl (Nat.le_of_ble_eq_true rfl) (fun r_32 u_32 H locs hp_32 hB => ?_)
        obtain ⟨rfl, rfl⟩ := hp_32
        refine j_eqi (y := b2 (isB what 2)) (by rw [inR_isB (n := 2) (by decide)]) ?_
        refine jb_if_ne (tgt := 42) hx hb dX8_wander_35 (by decide) (fun c_35 => ?_) (fun c_35 => ?_)
        · obtain ⟨ww, hww, rfl⟩ := isB_nat c_35 (by omega)
          refine lv_lconst (v := 1) hx hb dX8_wander_42 rfl ?_
          refine lv_lstore (lv' := [(5, .long ((1 : Int64))), (0, .ref (G.2.2.1 (20, 0, 0))), (1, .int (nI mm)), (2, .int (nI xx)), (3, .int (nI nn)), (4, .int (nI ww))]) hx hb dX8_wander_43 hl (by decide) rfl (fun ls hl => ?_)
          refine lv_iconst (v := nI 0) hx hb dX8_wander_45 (by decide) ?_
          refine lv_istore (lv' := [(7, .int (nI 0)), (5, .long ((1 : Int64))), (0, .ref (G.2.2.1 (20, 0, 0))), (1, .int (nI mm)), (2, .int (nI xx)), (3, .int (nI nn)), (4, .int (nI ww))]) hx hb dX8_wander_46 hl (by decide) rfl (fun ls hl => ?_)
          have lp_48 : ∀ (fu : Nat) (x : Nat → Int64) (k : Nat), 8 - k < fu → (k ≤ 8) → (x = gwI (J 10) cc k) → ∀ H locs ls, jB G A s_.heap (I, srJ J 10 (x), O) H locs → lv_has ls 13 [(7, .int (nI k)), (5, .long ((1 : Int64))), (0, .ref (G.2.2.1 (20, 0, 0))), (1, .int (nI mm)), (2, .int (nI xx)), (3, .int (nI nn)), (4, .int (nI ww))] → W pg_ l_ ev_ ({ frames := 4, cells := 0, slots := 0, locals := 97 }) s_ mi_ ([.ref (G.2.2.1 (20, 0, 0)), .int (nI mm), .int (nI xx), .int (nI nn), .int (nI ww)]).toArray below meth cd_ H locs 0 0 (jQl G A below [.ref (G.2.2.1 (20, 0, 0)), .int (nI mm), .int (nI xx), .int (nI nn), .int (nI ww)] s_ (fun r u => r = wanA (I 41) nd nm (nI mm) (nI xx) (nI nn) (nI ww) ∧ SMs (I, J, O) u)) (F0 mi_ 48 ls []) := by
            intro fu
            induction fu with
            | zero => intro x k hf; exact absurd hf (Nat.not_lt_zero _)
            | succ fu ih_48 =>
              intro x k hf_48 hk hx_ H locs ls hB hl
              refine lv_iload hx hb dX8_wander_48 (lv_at hl 0 rfl) ?_
              refine lv_bipush (v := nI 8) hx hb dX8_wander_50 (by decide) ?_
              refine jn_icmp_ge (tgt := 87) hx hb dX8_wander_52 (by decide) (by omega) (by omega) (fun c_52 => ?_) (fun c_52 => ?_)
              · refine lv_iconst (v := nI 0) hx hb dX8_wander_87 (by decide) ?_
                refine lv_istore (lv' := [(7, .int (nI 0)), (5, .long ((1 : Int64))), (0, .ref (G.2.2.1 (20, 0, 0))), (1, .int (nI mm)), (2, .int (nI xx)), (3, .int (nI nn)), (4, .int (nI ww))]) hx hb dX8_wander_88 hl (by decide) rfl (fun ls hl => ?_)
                have lp_90 : ∀ (fu : Nat) (x2 : Nat → Int64) (y2 : Nat → Int64) (w : Int64) (k2 : Nat), nn - k2 < fu → (k2 ≤ nn) → ((x2, y2) = it (gwK (I 41) mm nd) k2 (gwI (J 10) cc 8, J 11)) → (w = whL k2) → ∀ H locs ls, jB G A s_.heap (I, srJ (srJ J 10 (x2)) 11 (y2), O) H locs → lv_has ls 13 [(7, .int (nI k2)), (5, .long w), (0, .ref (G.2.2.1 (20, 0, 0))), (1, .int (nI mm)), (2, .int (nI xx)), (3, .int (nI nn)), (4, .int (nI ww))] → W pg_ l_ ev_ ({ frames := 4, cells := 0, slots := 0, locals := 97 }) s_ mi_ ([.ref (G.2.2.1 (20, 0, 0)), .int (nI mm), .int (nI xx), .int (nI nn), .int (nI ww)]).toArray below meth cd_ H locs 0 0 (jQl G A below [.ref (G.2.2.1 (20, 0, 0)), .int (nI mm), .int (nI xx), .int (nI nn), .int (nI ww)] s_ (fun r u => r = wanA (I 41) nd nm (nI mm) (nI xx) (nI nn) (nI ww) ∧ SMs (I, J, O) u)) (F0 mi_ 90 ls []) := by
                  intro fu
                  induction fu with
                  | zero => intro x2 y2 w k2 hf; exact absurd hf (Nat.not_lt_zero _)
                  | succ fu ih_90 =>
                    intro x2 y2 w k2 hf_90 hk2 hs2 hw H locs ls hB hl
                    refine lv_iload hx hb dX8_wander_90 (lv_at hl 0 rfl) ?_
                    refine lv_iload_n hx hb dX8_wander_92 rfl (lv_at hl 5 rfl) ?_
                    refine jn_icmp_ge (tgt := 115) hx hb dX8_wander_93 (by decide) (by omega) (by omega) (fun c_93 => ?_) (fun c_93 => ?_)
                    · refine lv_aload_n hx hb dX8_wander_115 rfl (lv_at hl 2 rfl) ?_
                      refine j_get (20, 0, 0) 9 (v := .ref (G.2.2.1 (22, 10, 0))) hC hB in_X8 lk_31 dX8_wander_116 jk20 rfl rfl (by decide) rfl ?_
                      refine lv_iload_n hx hb dX8_wander_119 rfl (lv_at hl 4 rfl) ?_
                      refine j_lLd 10 xx hC hB dX8_wander_120 (by decide) rfl (by simp only [lenJ_10]; omega) ?_
                      refine j_eql (x := (srJ (srJ J 10 (x2)) 11 (y2)) 10 xx) (y := x2 xx) ((srJ_nj (show (10 : Nat) ≠ 11 by omega)).trans (srJ_sj)) ?_
                      have hX : x2 xx = gwX (I 41) mm nd cc nn xx := by rw [show x2 = (it (gwK (I 41) mm nd) nn (gwI (J 10) cc 8, J 11)).1 from by rw [show nn = k2 by omega, ← hs2]]; exact gwX_rel hW _ _ _ xx hxx
                      obtain ⟨o, ho, eo⟩ := gwX_at (m := mm) (n := nn) hW hnd hcc (by omega) hxx
                      obtain ⟨p1, p2, p3⟩ := pw2520 nn (by omega)
                      have hw2 : w = lN (2520 ^ nn) := by rw [← p3, hw, show k2 = nn by omega]
                      refine lv_lstore (lv' := [(7, .long (x2 xx)), (5, .long w), (0, .ref (G.2.2.1 (20, 0, 0))), (1, .int (nI mm)), (2, .int (nI xx)), (3, .int (nI nn)), (4, .int (nI ww))]) hx hb dX8_wander_121 hl (by decide) rfl (fun ls hl => ?_)
                      refine lv_lload hx hb dX8_wander_123 (lv_at hl 1 rfl) ?_
                      refine lv_lstore (lv' := [(9, .long w), (7, .long (x2 xx)), (5, .long w), (0, .ref (G.2.2.1 (20, 0, 0))), (1, .int (nI mm)), (2, .int (nI xx)), (3, .int (nI nn)), (4, .int (nI ww))]) hx hb dX8_wander_125 hl (by decide) rfl (fun ls hl => ?_)
                      have lp_127 : ∀ (fu : Nat) (a : Int64) (b : Int64) (p : Nat) (q : Nat), q < fu → (a = lN p) → (b = lN q) → (p < 70368744177664) → (q < 70368744177664) → (Nat.gcd p q = Nat.gcd o (2520 ^ nn)) → ∀ H locs ls, jB G A s_.heap (I, srJ (srJ J 10 (x2)) 11 (y2), O) H locs → lv_has ls 13 [(9, .long b), (7, .long a), (5, .long w), (0, .ref (G.2.2.1 (20, 0, 0))), (1, .int (nI mm)), (2, .int (nI xx)), (3, .int (nI nn)), (4, .int (nI ww))] → W pg_ l_ ev_ ({ frames := 4, cells := 0, slots := 0, locals := 97 }) s_ mi_ ([.ref (G.2.2.1 (20, 0, 0)), .int (nI mm), .int (nI xx), .int (nI nn), .int (nI ww)]).toArray below meth cd_ H locs 0 0 (jQl G A below [.ref (G.2.2.1 (20, 0, 0)), .int (nI mm), .int (nI xx), .int (nI nn), .int (nI ww)] s_ (fun r u => r = wanA (I 41) nd nm (nI mm) (nI xx) (nI nn) (nI ww) ∧ SMs (I, J, O) u)) (F0 mi_ 127 ls []) := by
                        intro fu
                        induction fu with
                        | zero => intro a b p q hf; exact absurd hf (Nat.not_lt_zero _)
                        | succ fu ih_127 =>
                          intro a b p q hf_127 ha hb_ hp hq hg H locs ls hB hl
                          refine lv_lload hx hb dX8_wander_127 (lv_at hl 0 rfl) ?_
                          refine lv_lconst (v := 0) hx hb dX8_wander_129 rfl ?_
                          refine W.lcmp hx hb dX8_wander_130 ?_
                          refine jl_if_eq (tgt := 152) hx hb dX8_wander_131 (by decide) (fun c_131 => ?_) (fun c_131 => ?_)
                          · have hq0 : q = 0 := lN_inj (b := 0) (by omega) (by decide) (hb_.symm.trans c_131)
                            have hpg : p = Nat.gcd o (2520 ^ nn) := by rw [← hg, hq0, Nat.gcd_zero_right]
                            have hgp : 0 < Nat.gcd o (2520 ^ nn) := Nat.gcd_pos_of_pos_right _ p1
                            have han : ¬ a = 0 := fun z => absurd (lN_inj (b := 0) (by omega) (by decide) (ha.symm.trans z)) (by omega)
                            have hcd : a = cdE (gwX (I 41) mm nd cc nn xx) (whL nn) := by rw [ha, hpg, eo, p3, cdE_N (by omega) (by omega)]
                            refine lv_iload hx hb dX8_wander_152 (lv_at hl 7 rfl) ?_
                            refine jn_if_ne (tgt := 169) hx hb dX8_wander_154 (by decide) (by omega) (fun c_154 => ?_) (fun c_154 => ?_)
                            · refine lv_lload hx hb dX8_wander_169 (lv_at hl 2 rfl) ?_
                              refine lv_lload hx hb dX8_wander_171 (lv_at hl 1 rfl) ?_
                              refine lv_ldiv hx hb dX8_wander_173 (han) ?_
                              exact j_lret hC hB dX8_wander_174 (⟨by unfold wanA; rw [if_pos (show (isB (nI mm) nm && (isB (nI xx) 8 && (isB (nI nn) 5 && isB (nI ww) 2))) = true by rw [c_5, c_12, c_24, c_35]; rfl), show tN (nI mm) = mm from nIc (show mm < 2147483648 by omega), show tN (nI xx) = xx from nIc (show xx < 2147483648 by omega), show tN (nI nn) = nn from nIc (by omega), ceF_eq hcc ecc, ← hcd, if_neg (fun z => c_154 ((nI_eq (by omega) (by decide)).mp z)), hw, show k2 = nn by omega], ⟨SM.rf, fun r h1 h2 h3 => by simp only [srJ, if_neg h1, if_neg h2], rfl⟩⟩)
                            · refine lv_aload_n hx hb dX8_wander_157 rfl (lv_at hl 3 rfl) ?_
                              refine j_get (20, 0, 0) 9 (v := .ref (G.2.2.1 (22, 10, 0))) hC hB in_X8 lk_31 dX8_wander_158 jk20 rfl rfl (by decide) rfl ?_
                              refine lv_iload_n hx hb dX8_wander_161 rfl (lv_at hl 5 rfl) ?_
                              refine j_lLd 10 xx hC hB dX8_wander_162 (by decide) rfl (by simp only [lenJ_10]; omega) ?_
                              refine j_eql (x := (srJ (srJ J 10 (x2)) 11 (y2)) 10 xx) (y := x2 xx) ((srJ_nj (show (10 : Nat) ≠ 11 by omega)).trans (srJ_sj)) ?_
                              refine lv_lload hx hb dX8_wander_163 (lv_at hl 1 rfl) ?_
                              refine lv_ldiv hx hb dX8_wander_165 (han) ?_
                              refine lv_goto (tgt := 174) hx hb dX8_wander_166 (by decide) ?_
                              exact j_lret hC hB dX8_wander_174 (⟨by unfold wanA; rw [if_pos (show (isB (nI mm) nm && (isB (nI xx) 8 && (isB (nI nn) 5 && isB (nI ww) 2))) = true by rw [c_5, c_12, c_24, c_35]; rfl), show tN (nI mm) = mm from nIc (show mm < 2147483648 by omega), show tN (nI xx) = xx from nIc (show xx < 2147483648 by omega), show tN (nI nn) = nn from nIc (by omega), ceF_eq hcc ecc, ← hcd, if_pos (show nI ww = nI 0 by rw [c_154]), ← hX], ⟨SM.rf, fun r h1 h2 h3 => by simp only [srJ, if_neg h1, if_neg h2], rfl⟩⟩)
                          · have hqp : 0 < q := by rcases Nat.eq_zero_or_pos q with z | z; (exact absurd (by rw [hb_, z]; rfl) c_131); exact z
                            refine lv_lload hx hb dX8_wander_134 (lv_at hl 1 rfl) ?_
                            refine lv_lload hx hb dX8_wander_136 (lv_at hl 0 rfl) ?_
                            refine lv_lrem hx hb dX8_wander_138 (c_131) ?_
                            refine j_eql (y := lN (p % q)) (by rw [ha, hb_]; exact lN_rem (by omega) (by omega)) ?_
                            refine lv_lstore (lv' := [(11, .long (lN (p % q))), (9, .long b), (7, .long a), (5, .long w), (0, .ref (G.2.2.1 (20, 0, 0))), (1, .int (nI mm)), (2, .int (nI xx)), (3, .int (nI nn)), (4, .int (nI ww))]) hx hb dX8_wander_139 hl (by decide) rfl (fun ls hl => ?_)
                            refine lv_lload hx hb dX8_wander_141 (lv_at hl 1 rfl) ?_
                            refine lv_lstore (lv' := [(7, .long b), (11, .long (lN (p % q))), (9, .long b), (5, .long w), (0, .ref (G.2.2.1 (20, 0, 0))), (1, .int (nI mm)), (2, .int (nI xx)), (3, .int (nI nn)), (4, .int (nI ww))]) hx hb dX8_wander_143 hl (by decide) rfl (fun ls hl => ?_)
                            refine lv_lload hx hb dX8_wander_145 (lv_at hl 1 rfl) ?_
                            refine lv_lstore (lv' := [(9, .long (lN (p % q))), (7, .long b), (11, .long (lN (p % q))), (5, .long w), (0, .ref (G.2.2.1 (20, 0, 0))), (1, .int (nI mm)), (2, .int (nI xx)), (3, .int (nI nn)), (4, .int (nI ww))]) hx hb dX8_wander_147 hl (by decide) rfl (fun ls hl => ?_)
                            refine lv_goto (tgt := 127) hx hb dX8_wander_149 (by decide) ?_
                            exact ih_127 b (lN (p % q)) q (p % q) (by have := Nat.mod_lt p hqp; omega) (hb_) (rfl) (by omega) (by have := Nat.mod_lt p hqp; omega) (gcd_on.trans hg) _ _ _ hB (lv_sub hl [0, 1, 3, 4, 5, 6, 7, 8] rfl)
                      exact lp_127 _ (x2 xx) w o (2520 ^ nn) (Nat.lt_succ_self _) (hX.trans eo) (hw2) (by omega) (by omega) (rfl) _ _ _ hB (lv_sub hl [0, 1, 2, 3, 4, 5, 6, 7] rfl)
                    · refine lv_aload_n hx hb dX8_wander_96 rfl (lv_at hl 2 rfl) ?_
                      refine lv_iload_n hx hb dX8_wander_97 rfl (lv_at hl 3 rfl) ?_
                      refine j_cvv (20, 0, 0) [.int (nI mm)] hC hB hl.1 (c_X8_goWander l_ G I (srJ (srJ J 10 (x2)) 11 (y2)) O mm (by omega) (by omega) (hD) (hW)) (cwV 1 hts gX8_wander_X8_goWander rfl rfl rfl (by decide +kernel) ⟨by decide, by decide⟩) dX8_wander_98 jk20 rfl rfl rfl rfl (Nat.le_of_ble_eq_true rfl) (fun u_98 H locs hp_98 hB => ?_)
                      obtain rfl := hp_98
                      have hB : jB G A s_.heap (I, srJ (srJ J 11 (gwY (I 41) mm nd (x2) (y2))) 10 (va_cpy (gwY (I 41) mm nd (x2) (y2)) (x2) 0 0 8), O) H locs := by (rw [show srJ (srJ J 11 (gwY (I 41) mm nd (x2) (y2))) 10 (va_cpy (gwY (I 41) mm nd (x2) (y2)) (x2) 0 0 8) = srJ (srJ (srJ (srJ J 10 (x2)) 11 (y2)) 11 (gwY (I 41) mm nd (x2) (y2))) 10 (va_cpy (gwY (I 41) mm nd (x2) (y2)) (x2) 0 0 8) from by funext a; simp +decide only [srJ]; (repeat' split) <;> first | rfl | (exfalso; omega) | (subst_vars; rfl)]; exact hB)
                      refine lv_lload hx hb dX8_wander_101 (lv_at hl 1 rfl) ?_
                      refine lv_ldc2 (v := 2520) hx hb hown (hts (.constantLong RX8 189 (2520)) (by decide +kernel)) dX8_wander_103 ?_
                      refine lv_lmul hx hb dX8_wander_106 ?_
                      refine lv_lstore (lv' := [(5, .long (w * ((2520 : Int64)))), (7, .int (nI k2)), (0, .ref (G.2.2.1 (20, 0, 0))), (1, .int (nI mm)), (2, .int (nI xx)), (3, .int (nI nn)), (4, .int (nI ww))]) hx hb dX8_wander_107 hl (by decide) rfl (fun ls hl => ?_)
                      refine lv_iinc (v := nI (k2 + 1)) (lv' := [(7, .int (nI (k2 + 1))), (5, .long (w * ((2520 : Int64)))), (0, .ref (G.2.2.1 (20, 0, 0))), (1, .int (nI mm)), (2, .int (nI xx)), (3, .int (nI nn)), (4, .int (nI ww))]) hx hb dX8_wander_109 hl (k := 1) rfl (jn_inc _ 1) (by decide) rfl (fun ls hl => ?_)
                      refine lv_goto (tgt := 90) hx hb dX8_wander_112 (by decide) ?_
                      exact ih_90 (va_cpy (gwY (I 41) mm nd (x2) (y2)) (x2) 0 0 8) (gwY (I 41) mm nd (x2) (y2)) (w * ((2520 : Int64))) (k2 + 1) (by omega) (by omega) (by rw [it_s, ← hs2]; rfl) (by rw [hw]; rfl) _ _ _ (jB_cast2 hB rfl (by first | exact (srJ_id _ _).symm | (funext a_; simp +decide only [srJ]; (repeat' split) <;> first | rfl | (exfalso; omega) | (subst_vars; rfl)))) (lv_sub hl [0, 1, 2, 3, 4, 5, 6] rfl)
                exact lp_90 _ x (J 11) ((1 : Int64)) 0 (Nat.lt_succ_self _) (by omega) (by rw [hx_, show k = 8 by omega]; rfl) (rfl) _ _ _ (jB_cast2 hB rfl (by first | exact (srJ_id _ _).symm | (funext a_; simp +decide only [srJ]; (repeat' split) <;> first | rfl | (exfalso; omega) | (subst_vars; rfl)))) (lv_sub hl [0, 1, 2, 3, 4, 5, 6] rfl)
              · refine lv_aload_n hx hb dX8_wander_55 rfl (lv_at hl 2 rfl) ?_
                refine j_get (20, 0, 0) 9 (v := .ref (G.2.2.1 (22, 10, 0))) hC hB in_X8 lk_31 dX8_wander_56 jk20 rfl rfl (by decide) rfl ?_
                refine lv_iload hx hb dX8_wander_59 (lv_at hl 0 rfl) ?_
                refine lv_iload hx hb dX8_wander_61 (lv_at hl 0 rfl) ?_
                refine lv_aload_n hx hb dX8_wander_63 rfl (lv_at hl 2 rfl) ?_
                refine j_get (20, 0, 0) 0 (v := .ref (G.2.2.1 (21, 41, 0))) hC hB in_X8 lk_7 dX8_wander_64 jk20 rfl rfl (by decide) rfl ?_
                refine lv_bipush (v := nI 51) hx hb dX8_wander_67 (by decide) ?_
                refine lv_iload_n hx hb dX8_wander_69 rfl (lv_at hl 3 rfl) ?_
                refine jn_iadd hx hb dX8_wander_70 ?_
                refine j_iLd 41 (51 + mm) hC hB dX8_wander_71 (by decide) rfl (by simp only [lenI_41]; omega) ?_
                refine j_eqi (x := I 41 (51 + mm)) (y := nI cc) (ecc) ?_
                refine jn_icmp_ne (tgt := 79) hx hb dX8_wander_72 (by decide) (by omega) (by omega) (fun c_72 => ?_) (fun c_72 => ?_)
                · refine lv_lconst (v := 0) hx hb dX8_wander_79 rfl ?_
                  refine j_lSt 10 k hC hB dX8_wander_80 (by decide) rfl (by simp only [lenJ_10]; omega) (fun H locs hB => ?_)
                  have hB : jB G A s_.heap (I, srJ J 10 (vp_updL (x) k ((0 : Int64))), O) H locs := by rw [show srJ J 10 (vp_updL (x) k ((0 : Int64))) = v2 (srJ J 10 (x)) 10 k ((0 : Int64)) from (v2_srJ _ _ _ _ _).symm]; exact hB
                  refine lv_iinc (v := nI (k + 1)) (lv' := [(7, .int (nI (k + 1))), (5, .long ((1 : Int64))), (0, .ref (G.2.2.1 (20, 0, 0))), (1, .int (nI mm)), (2, .int (nI xx)), (3, .int (nI nn)), (4, .int (nI ww))]) hx hb dX8_wander_81 hl (k := 0) rfl (jn_inc _ 1) (by decide) rfl (fun ls hl => ?_)
                  refine lv_goto (tgt := 48) hx hb dX8_wander_84 (by decide) ?_
                  exact ih_48 (vp_updL (x) k ((0 : Int64))) (k + 1) (by omega) (by omega) (by rw [hx_, ← gwI_step]; simp [c_72]) _ _ _ hB (lv_sub hl [0, 1, 2, 3, 4, 5, 6] rfl)
                · refine lv_lconst (v := 1) hx hb dX8_wander_75 rfl ?_
                  refine lv_goto (tgt := 80) hx hb dX8_wander_76 (by decide) ?_
                  refine j_lSt 10 k hC hB dX8_wander_80 (by decide) rfl (by simp only [lenJ_10]; omega) (fun H locs hB => ?_)
                  have hB : jB G A s_.heap (I, srJ J 10 (vp_updL (x) k ((1 : Int64))), O) H locs := by rw [show srJ J 10 (vp_updL (x) k ((1 : Int64))) = v2 (srJ J 10 (x)) 10 k ((1 : Int64)) from (v2_srJ _ _ _ _ _).symm]; exact hB
                  refine lv_iinc (v := nI (k + 1)) (lv' := [(7, .int (nI (k + 1))), (5, .long ((1 : Int64))), (0, .ref (G.2.2.1 (20, 0, 0))), (1, .int (nI mm)), (2, .int (nI xx)), (3, .int (nI nn)), (4, .int (nI ww))]) hx hb dX8_wander_81 hl (k := 0) rfl (jn_inc _ 1) (by decide) rfl (fun ls hl => ?_)
                  refine lv_goto (tgt := 48) hx hb dX8_wander_84 (by decide) ?_
                  exact ih_48 (vp_updL (x) k ((1 : Int64))) (k + 1) (by omega) (by omega) (by rw [hx_, ← gwI_step]; simp [eq_true c_72]) _ _ _ hB (lv_sub hl [0, 1, 2, 3, 4, 5, 6] rfl)
          exact lp_48 _ (J 10) 0 (Nat.lt_succ_self _) (by omega) ((gwI_0 _ _).symm) _ _ _ (jB_cast2 hB rfl (by first | exact (srJ_id _ _).symm | (funext a_; simp +decide only [srJ]; (repeat' split) <;> first | rfl | (exfalso; omega) | (subst_vars; rfl)))) (lv_sub hl [0, 1, 2, 3, 4, 5, 6] rfl)
        · refine lv_ldc2 (v := -1) hx hb hown (hts (.constantLong RX8 191 (-1)) (by decide +kernel)) dX8_wander_38 ?_
          exact j_lret hC hB dX8_wander_41 (⟨by simp [wanA, c_5, c_12, c_24, c_35], SM.rf, SMJ.rf, rfl⟩)
