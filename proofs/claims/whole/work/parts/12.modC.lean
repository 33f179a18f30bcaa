set_option maxHeartbeats 4000000 in
set_option maxRecDepth 100000 in
theorem c_X8_laySteps (l_ : Launch) (G : jG) (I : Nat → Nat → Int32) (J : Nat → Nat → Int64) (O : Nat → Nat → Nat) (m fr : Nat) (hm : m < 4) (hfr : fr < 8) {nd : Nat} (hnd : nd ≤ 10) (hD : I 41 0 = nI nd) (hW : wfD (I 41) nd) {sh : Int32} (hS : I 40 1 = sh) : jMv l_ G yX8_laySteps wsX8_laySteps ({ frames := 3, cells := 0, slots := 0, locals := 73 }) [.ref (G.2.2.1 (20, 0, 0)), .int (nI m), .int (nI fr)] (I, J, O) (fun u => u = (sr (sr I 43 ((lsF (I 41) (I 43) (I 44) m sh fr nd).1)) 44 ((lsF (I 41) (I 43) (I 44) m sh fr nd).2), J, O)) := by
  refine jMv_of (cc := cX8_laySteps) (maxL := 7) (ret := none) (lv0 := [(0, .ref (G.2.2.1 (20, 0, 0))), (1, .int (nI m)), (2, .int (nI fr))]) (by decide) rfl (Nat.le_of_ble_eq_true rfl) rfl ?_
  intro pg_ ev_ s_ mi_ below meth cd_ A ls hC hB hl
  obtain ⟨hx, hb, hr, hml, hown, hts, hlocks, hK, hA⟩ := id hC
  have lk_7 := hts (.fieldLink RX8 7 "RiddlePrisonModel" "now" "[I") (by decide +kernel)
  have lk_16 := hts (.fieldLink RX8 16 "RiddlePrisonModel" "steps" "[I") (by decide +kernel)
  have lk_149 := hts (.fieldLink RX8 149 "RiddlePrisonModel" "shut" "I") (by decide +kernel)
  have lk_19 := hts (.fieldLink RX8 19 "RiddlePrisonModel" "rowsTo" "[I") (by decide +kernel)
  have in_X8 := (fun w h => List.mem_cons_of_mem _ (List.mem_append_right _ h) : ∀ w ∈ wsX80, w ∈ wsX8_laySteps)
  refine lv_iconst (v := nI 0) hx hb dX8_laySteps_0 (by decide) ?_
  refine lv_istore_n (lv' := [(3, .int (nI 0)), (0, .ref (G.2.2.1 (20, 0, 0))), (1, .int (nI m)), (2, .int (nI fr))]) hx hb dX8_laySteps_1 rfl hl (by decide) rfl (fun ls hl => ?_)
  have lp_2 : ∀ (fu : Nat) (f : Nat → Int32) (h : Nat → Int32) (k : Nat), 8 - k < fu → (k ≤ 8) → (f = inR8 (I 43) fr (nI 0) (nI 1000000) k) → (h = inR8 (I 44) fr (nI 1) (nI 0) k) → ∀ H locs ls, jB G A s_.heap (sr (sr I 43 (f)) 44 (h), J, O) H locs → lv_has ls 7 [(3, .int (nI k)), (0, .ref (G.2.2.1 (20, 0, 0))), (1, .int (nI m)), (2, .int (nI fr))] → W pg_ l_ ev_ ({ frames := 3, cells := 0, slots := 0, locals := 73 }) s_ mi_ ([.ref (G.2.2.1 (20, 0, 0)), .int (nI m), .int (nI fr)]).toArray below meth cd_ H locs 0 0 (jQv G A below [.ref (G.2.2.1 (20, 0, 0)), .int (nI m), .int (nI fr)] s_ (fun u => u = (sr (sr I 43 ((lsF (I 41) (I 43) (I 44) m sh fr nd).1)) 44 ((lsF (I 41) (I 43) (I 44) m sh fr nd).2), J, O))) (F0 mi_ 2 ls []) := by
    intro fu
    induction fu with
    | zero => intro f h k hf; exact absurd hf (Nat.not_lt_zero _)
    | succ fu ih_2 =>
      intro f h k hf_2 hk hf hh H locs ls hB hl
      refine lv_iload_n hx hb dX8_laySteps_2 rfl (lv_at hl 0 rfl) ?_
      refine lv_bipush (v := nI 8) hx hb dX8_laySteps_3 (by decide) ?_
      refine jn_icmp_ge (tgt := 47) hx hb dX8_laySteps_5 (by decide) (by omega) (by omega) (fun c_5 => ?_) (fun c_5 => ?_)
      · refine lv_iconst (v := nI 0) hx hb dX8_laySteps_47 (by decide) ?_
        refine lv_istore_n (lv' := [(3, .int (nI 0)), (0, .ref (G.2.2.1 (20, 0, 0))), (1, .int (nI m)), (2, .int (nI fr))]) hx hb dX8_laySteps_48 rfl hl (by decide) rfl (fun ls hl => ?_)
        have lp_49 : ∀ (fu : Nat) (f0 : Nat → Int32) (h0 : Nat → Int32) (n : Nat), 8 - n < fu → (n ≤ 8) → ((f0, h0) = it (lsN (I 41) m sh nd) n (inR8 (I 43) fr (nI 0) (nI 1000000) 8, inR8 (I 44) fr (nI 1) (nI 0) 8)) → ∀ H locs ls, jB G A s_.heap (sr (sr I 43 (f0)) 44 (h0), J, O) H locs → lv_has ls 7 [(3, .int (nI n)), (0, .ref (G.2.2.1 (20, 0, 0))), (1, .int (nI m)), (2, .int (nI fr))] → W pg_ l_ ev_ ({ frames := 3, cells := 0, slots := 0, locals := 73 }) s_ mi_ ([.ref (G.2.2.1 (20, 0, 0)), .int (nI m), .int (nI fr)]).toArray below meth cd_ H locs 0 0 (jQv G A below [.ref (G.2.2.1 (20, 0, 0)), .int (nI m), .int (nI fr)] s_ (fun u => u = (sr (sr I 43 ((lsF (I 41) (I 43) (I 44) m sh fr nd).1)) 44 ((lsF (I 41) (I 43) (I 44) m sh fr nd).2), J, O))) (F0 mi_ 49 ls []) := by
          intro fu
          induction fu with
          | zero => intro f0 h0 n hf; exact absurd hf (Nat.not_lt_zero _)
          | succ fu ih_49 =>
            intro f0 h0 n hf_49 hn he0 H locs ls hB hl
            refine lv_iload_n hx hb dX8_laySteps_49 rfl (lv_at hl 0 rfl) ?_
            refine lv_bipush (v := nI 8) hx hb dX8_laySteps_50 (by decide) ?_
            refine jn_icmp_ge (tgt := 222) hx hb dX8_laySteps_52 (by decide) (by omega) (by omega) (fun c_52 => ?_) (fun c_52 => ?_)
            · exact j_vret hC hB dX8_laySteps_222 (by rw [show (lsF (I 41) (I 43) (I 44) m sh fr nd) = (f0, h0) from by rw [he0, show n = 8 by omega]; rfl])
            · refine lv_iconst (v := nI 0) hx hb dX8_laySteps_55 (by decide) ?_
              refine lv_istore (lv' := [(4, .int (nI 0)), (3, .int (nI n)), (0, .ref (G.2.2.1 (20, 0, 0))), (1, .int (nI m)), (2, .int (nI fr))]) hx hb dX8_laySteps_56 hl (by decide) rfl (fun ls hl => ?_)
              have lp_58 : ∀ (fu : Nat) (f1 : Nat → Int32) (h1 : Nat → Int32) (c : Nat), 8 - c < fu → (c ≤ 8) → ((f1, h1) = it (lsC (I 41) m sh nd n) c (f0, h0)) → ∀ H locs ls, jB G A s_.heap (sr (sr I 43 (f1)) 44 (h1), J, O) H locs → lv_has ls 7 [(4, .int (nI c)), (3, .int (nI n)), (0, .ref (G.2.2.1 (20, 0, 0))), (1, .int (nI m)), (2, .int (nI fr))] → W pg_ l_ ev_ ({ frames := 3, cells := 0, slots := 0, locals := 73 }) s_ mi_ ([.ref (G.2.2.1 (20, 0, 0)), .int (nI m), .int (nI fr)]).toArray below meth cd_ H locs 0 0 (jQv G A below [.ref (G.2.2.1 (20, 0, 0)), .int (nI m), .int (nI fr)] s_ (fun u => u = (sr (sr I 43 ((lsF (I 41) (I 43) (I 44) m sh fr nd).1)) 44 ((lsF (I 41) (I 43) (I 44) m sh fr nd).2), J, O))) (F0 mi_ 58 ls []) := by
                intro fu
                induction fu with
                | zero => intro f1 h1 c hf; exact absurd hf (Nat.not_lt_zero _)
                | succ fu ih_58 =>
                  intro f1 h1 c hf_58 hc he1 H locs ls hB hl
                  refine lv_iload hx hb dX8_laySteps_58 (lv_at hl 0 rfl) ?_
                  refine lv_bipush (v := nI 8) hx hb dX8_laySteps_60 (by decide) ?_
                  refine jn_icmp_ge (tgt := 216) hx hb dX8_laySteps_62 (by decide) (by omega) (by omega) (fun c_62 => ?_) (fun c_62 => ?_)
                  · refine lv_iinc (v := nI (n + 1)) (lv' := [(3, .int (nI (n + 1))), (4, .int (nI c)), (0, .ref (G.2.2.1 (20, 0, 0))), (1, .int (nI m)), (2, .int (nI fr))]) hx hb dX8_laySteps_216 hl (k := 1) rfl (jn_inc _ 1) (by decide) rfl (fun ls hl => ?_)
                    refine lv_goto (tgt := 49) hx hb dX8_laySteps_219 (by decide) ?_
                    exact ih_49 f1 h1 (n + 1) (by omega) (by omega) (by rw [he1, show c = 8 by omega, he0]; rfl) _ _ _ (jB_cast2 hB (by first | rfl | exact (sr_id _ _).symm | exact (srJ_id _ _).symm | (funext a; simp +decide only [sr, srJ]; (repeat' split) <;> first | rfl | (exfalso; omega) | (subst_vars; rfl))) (by first | rfl | exact (sr_id _ _).symm | exact (srJ_id _ _).symm | (funext a; simp +decide only [sr, srJ]; (repeat' split) <;> first | rfl | (exfalso; omega) | (subst_vars; rfl)))) (lv_sub hl [0, 2, 3, 4] rfl)
                  · refine lv_iconst (v := nI 0) hx hb dX8_laySteps_65 (by decide) ?_
                    refine lv_istore (lv' := [(5, .int (nI 0)), (4, .int (nI c)), (3, .int (nI n)), (0, .ref (G.2.2.1 (20, 0, 0))), (1, .int (nI m)), (2, .int (nI fr))]) hx hb dX8_laySteps_66 hl (by decide) rfl (fun ls hl => ?_)
                    have lp_68 : ∀ (fu : Nat) (f2 : Nat → Int32) (h2 : Nat → Int32) (d : Nat), nd - d < fu → (d ≤ nd) → ((f2, h2) = it (lsD (I 41) m sh n c) d (f1, h1)) → ∀ H locs ls, jB G A s_.heap (sr (sr I 43 (f2)) 44 (h2), J, O) H locs → lv_has ls 7 [(5, .int (nI d)), (4, .int (nI c)), (3, .int (nI n)), (0, .ref (G.2.2.1 (20, 0, 0))), (1, .int (nI m)), (2, .int (nI fr))] → W pg_ l_ ev_ ({ frames := 3, cells := 0, slots := 0, locals := 73 }) s_ mi_ ([.ref (G.2.2.1 (20, 0, 0)), .int (nI m), .int (nI fr)]).toArray below meth cd_ H locs 0 0 (jQv G A below [.ref (G.2.2.1 (20, 0, 0)), .int (nI m), .int (nI fr)] s_ (fun u => u = (sr (sr I 43 ((lsF (I 41) (I 43) (I 44) m sh fr nd).1)) 44 ((lsF (I 41) (I 43) (I 44) m sh fr nd).2), J, O))) (F0 mi_ 68 ls []) := by
                      intro fu
                      induction fu with
                      | zero => intro f2 h2 d hf; exact absurd hf (Nat.not_lt_zero _)
                      | succ fu ih_68 =>
                        intro f2 h2 d hf_68 hd he2 H locs ls hB hl
                        refine lv_iload hx hb dX8_laySteps_68 (lv_at hl 0 rfl) ?_
                        refine lv_aload_n hx hb dX8_laySteps_70 rfl (lv_at hl 3 rfl) ?_
                        refine j_get (20, 0, 0) 0 (v := .ref (G.2.2.1 (21, 41, 0))) hC hB in_X8 lk_7 dX8_laySteps_71 jk20 rfl rfl (by decide) rfl ?_
                        refine lv_iconst (v := nI 0) hx hb dX8_laySteps_74 (by decide) ?_
                        refine j_ild 41 0 hC hB dX8_laySteps_75 (by decide) rfl (by simp only [lenI_41]; omega) ?_
                        refine j_eqi (x := (sr (sr I 43 (f2)) 44 (h2)) 41 0) (y := nI nd) ((congrFun (sr_ne (show (41 : Nat) ≠ 44 by omega)) _).trans ((congrFun (sr_ne (show (41 : Nat) ≠ 43 by omega)) _).trans (hD))) ?_
                        refine jn_icmp_ge (tgt := 210) hx hb dX8_laySteps_76 (by decide) (by omega) (by omega) (fun c_76 => ?_) (fun c_76 => ?_)
                        · refine lv_iinc (v := nI (c + 1)) (lv' := [(4, .int (nI (c + 1))), (5, .int (nI d)), (3, .int (nI n)), (0, .ref (G.2.2.1 (20, 0, 0))), (1, .int (nI m)), (2, .int (nI fr))]) hx hb dX8_laySteps_210 hl (k := 1) rfl (jn_inc _ 1) (by decide) rfl (fun ls hl => ?_)
                          refine lv_goto (tgt := 58) hx hb dX8_laySteps_213 (by decide) ?_
                          exact ih_58 f2 h2 (c + 1) (by omega) (by omega) (by show _ = lsC _ _ _ _ _ _ (it _ _ _); rw [← he1, he2, show d = nd by omega]; rfl) _ _ _ (jB_cast2 hB (by first | rfl | exact (sr_id _ _).symm | exact (srJ_id _ _).symm | (funext a; simp +decide only [sr, srJ]; (repeat' split) <;> first | rfl | (exfalso; omega) | (subst_vars; rfl))) (by first | rfl | exact (sr_id _ _).symm | exact (srJ_id _ _).symm | (funext a; simp +decide only [sr, srJ]; (repeat' split) <;> first | rfl | (exfalso; omega) | (subst_vars; rfl)))) (lv_sub hl [0, 2, 3, 4, 5] rfl)
                        · refine lv_aload_n hx hb dX8_laySteps_79 rfl (lv_at hl 3 rfl) ?_
                          refine j_get (20, 0, 0) 4 (v := .ref (G.2.2.1 (21, 43, 0))) hC hB in_X8 lk_16 dX8_laySteps_80 jk20 rfl rfl (by decide) rfl ?_
                          refine lv_iload hx hb dX8_laySteps_83 (lv_at hl 1 rfl) ?_
                          refine j_ild 43 c hC hB dX8_laySteps_85 (by decide) rfl (by simp only [lenI_43]; omega) ?_
                          refine j_eqi (x := (sr (sr I 43 (f2)) 44 (h2)) 43 c) (y := f2 c) ((congrFun (sr_ne (show (43 : Nat) ≠ 44 by omega)) _).trans ((congrFun sr_self _))) ?_
                          refine lv_iload_n hx hb dX8_laySteps_86 rfl (lv_at hl 2 rfl) ?_
                          refine lv_icmp_ne (tgt := 210) hx hb dX8_laySteps_87 (by decide) (fun c_87 => ?_) (fun c_87 => ?_)
                          · refine lv_iinc (v := nI (c + 1)) (lv' := [(4, .int (nI (c + 1))), (5, .int (nI d)), (3, .int (nI n)), (0, .ref (G.2.2.1 (20, 0, 0))), (1, .int (nI m)), (2, .int (nI fr))]) hx hb dX8_laySteps_210 hl (k := 1) rfl (jn_inc _ 1) (by decide) rfl (fun ls hl => ?_)
                            refine lv_goto (tgt := 58) hx hb dX8_laySteps_213 (by decide) ?_
                            exact ih_58 f2 h2 (c + 1) (by omega) (by omega) (by show _ = lsC _ _ _ _ _ _ (it _ _ _); rw [← he1]; exact lsC_stop hd he2 c_87) _ _ _ (jB_cast2 hB (by first | rfl | exact (sr_id _ _).symm | exact (srJ_id _ _).symm | (funext a; simp +decide only [sr, srJ]; (repeat' split) <;> first | rfl | (exfalso; omega) | (subst_vars; rfl))) (by first | rfl | exact (sr_id _ _).symm | exact (srJ_id _ _).symm | (funext a; simp +decide only [sr, srJ]; (repeat' split) <;> first | rfl | (exfalso; omega) | (subst_vars; rfl)))) (lv_sub hl [0, 2, 3, 4, 5] rfl)
                          · refine lv_aload_n hx hb dX8_laySteps_90 rfl (lv_at hl 3 rfl) ?_
                            refine j_get (20, 0, 0) 3 (v := .int ((sr (sr I 43 (f2)) 44 (h2)) 40 1)) hC hB in_X8 lk_149 dX8_laySteps_91 jk20 rfl rfl (by decide) rfl ?_
                            refine j_eqi (x := (sr (sr I 43 (f2)) 44 (h2)) 40 1) (y := sh) ((congrFun (sr_ne (show (40 : Nat) ≠ 44 by omega)) _).trans ((congrFun (sr_ne (show (40 : Nat) ≠ 43 by omega)) _).trans (hS))) ?_
                            refine lv_iload hx hb dX8_laySteps_94 (lv_at hl 0 rfl) ?_
                            refine j_csi [.int sh, .int (nI d)] hC hB hl.1 (c_X8_has l_ G (sr (sr I 43 (f2)) 44 (h2)) J O sh d) (va_cwS 2 hts gX8_laySteps_X8_has rfl rfl rfl (by decide +kernel) ⟨by decide, by decide⟩) dX8_laySteps_96 rfl rfl (Nat.le_of_ble_eq_true rfl) (fun r_96 u_96 H locs hp_96 hB => ?_)
                            obtain ⟨rfl, rfl⟩ := hp_96
                            refine j_eqi (y := b2 (hasB sh d)) rfl ?_
                            refine jb_if_ne (tgt := 204) hx hb dX8_laySteps_99 (by decide) (fun c_99 => ?_) (fun c_99 => ?_)
                            · refine lv_iinc (v := nI (d + 1)) (lv' := [(5, .int (nI (d + 1))), (4, .int (nI c)), (3, .int (nI n)), (0, .ref (G.2.2.1 (20, 0, 0))), (1, .int (nI m)), (2, .int (nI fr))]) hx hb dX8_laySteps_204 hl (k := 0) rfl (jn_inc _ 1) (by decide) rfl (fun ls hl => ?_)
                              refine lv_goto (tgt := 68) hx hb dX8_laySteps_207 (by decide) ?_
                              exact ih_68 f2 h2 (d + 1) (by omega) (by omega) (by show _ = lsD _ _ _ _ _ _ (it _ _ _); rw [← he2]; simp [lsD, rmF, eq_true c_87, c_99]) _ _ _ (jB_cast2 hB (by first | rfl | exact (sr_id _ _).symm | exact (srJ_id _ _).symm | (funext a; simp +decide only [sr, srJ]; (repeat' split) <;> first | rfl | (exfalso; omega) | (subst_vars; rfl))) (by first | rfl | exact (sr_id _ _).symm | exact (srJ_id _ _).symm | (funext a; simp +decide only [sr, srJ]; (repeat' split) <;> first | rfl | (exfalso; omega) | (subst_vars; rfl)))) (lv_sub hl [0, 1, 2, 3, 4, 5] rfl)
                            · refine lv_aload_n hx hb dX8_laySteps_102 rfl (lv_at hl 3 rfl) ?_
                              refine lv_iload_n hx hb dX8_laySteps_103 rfl (lv_at hl 4 rfl) ?_
                              refine lv_iload hx hb dX8_laySteps_104 (lv_at hl 0 rfl) ?_
                              refine lv_iload hx hb dX8_laySteps_106 (lv_at hl 1 rfl) ?_
                              refine j_cvi (20, 0, 0) [.int (nI m), .int (nI d), .int (nI c)] hC hB hl.1 (c_X8_passes l_ G (sr (sr I 43 (f2)) 44 (h2)) J O m d (nI c) (by omega) (by omega)) (cwV 3 hts gX8_laySteps_X8_passes rfl rfl rfl (by decide +kernel) ⟨by decide, by decide⟩) dX8_laySteps_108 jk20 rfl rfl rfl rfl (Nat.le_of_ble_eq_true rfl) (fun r_108 u_108 H locs hp_108 hB => ?_)
                              obtain ⟨rfl, rfl⟩ := hp_108
                              refine j_eqi (y := b2 (psB (I 41) m d (nI c))) rfl ?_
                              refine jb_if_eq (tgt := 204) hx hb dX8_laySteps_111 (by decide) (fun c_111 => ?_) (fun c_111 => ?_)
                              · refine lv_iinc (v := nI (d + 1)) (lv' := [(5, .int (nI (d + 1))), (4, .int (nI c)), (3, .int (nI n)), (0, .ref (G.2.2.1 (20, 0, 0))), (1, .int (nI m)), (2, .int (nI fr))]) hx hb dX8_laySteps_204 hl (k := 0) rfl (jn_inc _ 1) (by decide) rfl (fun ls hl => ?_)
                                refine lv_goto (tgt := 68) hx hb dX8_laySteps_207 (by decide) ?_
                                exact ih_68 f2 h2 (d + 1) (by omega) (by omega) (by show _ = lsD _ _ _ _ _ _ (it _ _ _); rw [← he2]; simp [lsD, rmF, eq_true c_87, c_99, c_111]) _ _ _ (jB_cast2 hB (by first | rfl | exact (sr_id _ _).symm | exact (srJ_id _ _).symm | (funext a; simp +decide only [sr, srJ]; (repeat' split) <;> first | rfl | (exfalso; omega) | (subst_vars; rfl))) (by first | rfl | exact (sr_id _ _).symm | exact (srJ_id _ _).symm | (funext a; simp +decide only [sr, srJ]; (repeat' split) <;> first | rfl | (exfalso; omega) | (subst_vars; rfl)))) (lv_sub hl [0, 1, 2, 3, 4, 5] rfl)
                              · refine lv_aload_n hx hb dX8_laySteps_114 rfl (lv_at hl 3 rfl) ?_
                                refine lv_iload hx hb dX8_laySteps_115 (lv_at hl 0 rfl) ?_
                                refine lv_iload hx hb dX8_laySteps_117 (lv_at hl 1 rfl) ?_
                                refine j_cvi (20, 0, 0) [.int (nI d), .int (nI c)] hC hB hl.1 (c_X8_behind l_ G (sr (sr I 43 (f2)) 44 (h2)) J O d (nI c) (by omega)) (cwV 2 hts gX8_laySteps_X8_behind rfl rfl rfl (by decide +kernel) ⟨by decide, by decide⟩) dX8_laySteps_119 jk20 rfl rfl rfl rfl (Nat.le_of_ble_eq_true rfl) (fun r_119 u_119 H locs hp_119 hB => ?_)
                                obtain ⟨rfl, rfl⟩ := hp_119
                                refine j_eqi (y := bhF (I 41) d (nI c)) rfl ?_
                                have hb_ := ps_ok hW (show d < nd by omega) c_111
                                refine j_eqi hb_.1 ?_
                                refine lv_istore (lv' := [(6, .int (nI (btF (I 41) d c))), (5, .int (nI d)), (4, .int (nI c)), (3, .int (nI n)), (0, .ref (G.2.2.1 (20, 0, 0))), (1, .int (nI m)), (2, .int (nI fr))]) hx hb dX8_laySteps_122 hl (by decide) rfl (fun ls hl => ?_)
                                refine lv_aload_n hx hb dX8_laySteps_124 rfl (lv_at hl 4 rfl) ?_
                                refine j_get (20, 0, 0) 4 (v := .ref (G.2.2.1 (21, 43, 0))) hC hB in_X8 lk_16 dX8_laySteps_125 jk20 rfl rfl (by decide) rfl ?_
                                refine lv_iload hx hb dX8_laySteps_128 (lv_at hl 0 rfl) ?_
                                refine lv_aload_n hx hb dX8_laySteps_130 rfl (lv_at hl 4 rfl) ?_
                                refine j_get (20, 0, 0) 4 (v := .ref (G.2.2.1 (21, 43, 0))) hC hB in_X8 lk_16 dX8_laySteps_131 jk20 rfl rfl (by decide) rfl ?_
                                refine lv_iload hx hb dX8_laySteps_134 (lv_at hl 0 rfl) ?_
                                refine j_ild 43 (btF (I 41) d c) hC hB dX8_laySteps_136 (by decide) rfl (by simp only [lenI_43]; omega) ?_
                                refine j_eqi (x := (sr (sr I 43 (f2)) 44 (h2)) 43 (btF (I 41) d c)) (y := f2 (btF (I 41) d c)) ((congrFun (sr_ne (show (43 : Nat) ≠ 44 by omega)) _).trans ((congrFun sr_self _))) ?_
                                refine lv_ldc (v := 1000000) hx hb hown (hts (.constant RX8 148 (1000000)) (by decide +kernel)) dX8_laySteps_137 ?_
                                refine j_eqi (y := nI 1000000) rfl ?_
                                refine lv_icmp_ne (tgt := 148) hx hb dX8_laySteps_139 (by decide) (fun c_139 => ?_) (fun c_139 => ?_)
                                · refine lv_aload_n hx hb dX8_laySteps_148 rfl (lv_at hl 4 rfl) ?_
                                  refine j_get (20, 0, 0) 4 (v := .ref (G.2.2.1 (21, 43, 0))) hC hB in_X8 lk_16 dX8_laySteps_149 jk20 rfl rfl (by decide) rfl ?_
                                  refine lv_iload hx hb dX8_laySteps_152 (lv_at hl 0 rfl) ?_
                                  refine j_ild 43 (btF (I 41) d c) hC hB dX8_laySteps_154 (by decide) rfl (by simp only [lenI_43]; omega) ?_
                                  refine j_eqi (x := (sr (sr I 43 (f2)) 44 (h2)) 43 (btF (I 41) d c)) (y := f2 (btF (I 41) d c)) ((congrFun (sr_ne (show (43 : Nat) ≠ 44 by omega)) _).trans ((congrFun sr_self _))) ?_
                                  refine j_ist 43 (btF (I 41) d c) hC hB dX8_laySteps_155 (by decide) rfl (by simp only [lenI_43]; omega) (fun H locs hB => ?_)
                                  have hB : jB G A s_.heap (sr (sr I 44 (h2)) 43 (upd (f2) (btF (I 41) d c) (f2 (btF (I 41) d c))), J, O) H locs := by rw [show sr (sr I 44 (h2)) 43 (upd (f2) (btF (I 41) d c) (f2 (btF (I 41) d c))) = u2 (sr (sr I 43 (f2)) 44 (h2)) 43 (btF (I 41) d c) (f2 (btF (I 41) d c)) from (u2_sr2 (show (43 : Nat) ≠ 44 by omega)).symm]; exact hB
                                  refine lv_aload_n hx hb dX8_laySteps_156 rfl (lv_at hl 4 rfl) ?_
                                  refine j_get (20, 0, 0) 5 (v := .ref (G.2.2.1 (21, 44, 0))) hC hB in_X8 lk_19 dX8_laySteps_157 jk20 rfl rfl (by decide) rfl ?_
                                  refine lv_iload hx hb dX8_laySteps_160 (lv_at hl 0 rfl) ?_
                                  refine lv_aload_n hx hb dX8_laySteps_162 rfl (lv_at hl 4 rfl) ?_
                                  refine j_get (20, 0, 0) 4 (v := .ref (G.2.2.1 (21, 43, 0))) hC hB in_X8 lk_16 dX8_laySteps_163 jk20 rfl rfl (by decide) rfl ?_
                                  refine lv_iload hx hb dX8_laySteps_166 (lv_at hl 0 rfl) ?_
                                  refine j_ild 43 (btF (I 41) d c) hC hB dX8_laySteps_168 (by decide) rfl (by simp only [lenI_43]; omega) ?_
                                  refine j_eqi (x := (sr (sr I 44 (h2)) 43 (upd (f2) (btF (I 41) d c) (f2 (btF (I 41) d c)))) 43 (btF (I 41) d c)) (y := f2 (btF (I 41) d c)) ((congrFun sr_self _).trans (pk_us)) ?_
                                  refine lv_iload_n hx hb dX8_laySteps_169 rfl (lv_at hl 3 rfl) ?_
                                  refine lv_iconst (v := nI 1) hx hb dX8_laySteps_170 (by decide) ?_
                                  refine jn_iadd hx hb dX8_laySteps_171 ?_
                                  refine lv_icmp_ne (tgt := 196) hx hb dX8_laySteps_172 (by decide) (fun c_172 => ?_) (fun c_172 => ?_)
                                  · refine lv_aload_n hx hb dX8_laySteps_196 rfl (lv_at hl 4 rfl) ?_
                                    refine j_get (20, 0, 0) 5 (v := .ref (G.2.2.1 (21, 44, 0))) hC hB in_X8 lk_19 dX8_laySteps_197 jk20 rfl rfl (by decide) rfl ?_
                                    refine lv_iload hx hb dX8_laySteps_200 (lv_at hl 0 rfl) ?_
                                    refine j_ild 44 (btF (I 41) d c) hC hB dX8_laySteps_202 (by decide) rfl (by simp only [lenI_44]; omega) ?_
                                    refine j_eqi (x := (sr (sr I 44 (h2)) 43 (upd (f2) (btF (I 41) d c) (f2 (btF (I 41) d c)))) 44 (btF (I 41) d c)) (y := h2 (btF (I 41) d c)) ((congrFun (sr_ne (show (44 : Nat) ≠ 43 by omega)) _).trans ((congrFun sr_self _))) ?_
                                    refine j_ist 44 (btF (I 41) d c) hC hB dX8_laySteps_203 (by decide) rfl (by simp only [lenI_44]; omega) (fun H locs hB => ?_)
                                    have hB : jB G A s_.heap (sr (sr I 43 (upd (f2) (btF (I 41) d c) (f2 (btF (I 41) d c)))) 44 (upd (h2) (btF (I 41) d c) (h2 (btF (I 41) d c))), J, O) H locs := by rw [show sr (sr I 43 (upd (f2) (btF (I 41) d c) (f2 (btF (I 41) d c)))) 44 (upd (h2) (btF (I 41) d c) (h2 (btF (I 41) d c))) = u2 (sr (sr I 44 (h2)) 43 (upd (f2) (btF (I 41) d c) (f2 (btF (I 41) d c)))) 44 (btF (I 41) d c) (h2 (btF (I 41) d c)) from (u2_sr2 (show (44 : Nat) ≠ 43 by omega)).symm]; exact hB
                                    refine lv_iinc (v := nI (d + 1)) (lv' := [(5, .int (nI (d + 1))), (6, .int (nI (btF (I 41) d c))), (4, .int (nI c)), (3, .int (nI n)), (0, .ref (G.2.2.1 (20, 0, 0))), (1, .int (nI m)), (2, .int (nI fr))]) hx hb dX8_laySteps_204 hl (k := 1) rfl (jn_inc _ 1) (by decide) rfl (fun ls hl => ?_)
                                    refine lv_goto (tgt := 68) hx hb dX8_laySteps_207 (by decide) ?_
                                    exact ih_68 (upd (f2) (btF (I 41) d c) (f2 (btF (I 41) d c))) (upd (h2) (btF (I 41) d c) (h2 (btF (I 41) d c))) (d + 1) (by omega) (by omega) (by show _ = lsD _ _ _ _ _ _ (it _ _ _); rw [← he2]; simp [lsD, rmF, eq_true c_87, c_99, c_111, c_139, c_172]) _ _ _ (jB_cast2 hB (by first | rfl | exact (sr_id _ _).symm | exact (srJ_id _ _).symm | (funext a; simp +decide only [sr, srJ]; (repeat' split) <;> first | rfl | (exfalso; omega) | (subst_vars; rfl))) (by first | rfl | exact (sr_id _ _).symm | exact (srJ_id _ _).symm | (funext a; simp +decide only [sr, srJ]; (repeat' split) <;> first | rfl | (exfalso; omega) | (subst_vars; rfl)))) (lv_sub hl [0, 2, 3, 4, 5, 6] rfl)
                                  · refine lv_aload_n hx hb dX8_laySteps_175 rfl (lv_at hl 4 rfl) ?_
                                    refine j_get (20, 0, 0) 5 (v := .ref (G.2.2.1 (21, 44, 0))) hC hB in_X8 lk_19 dX8_laySteps_176 jk20 rfl rfl (by decide) rfl ?_
                                    refine lv_iload hx hb dX8_laySteps_179 (lv_at hl 0 rfl) ?_
                                    refine j_ild 44 (btF (I 41) d c) hC hB dX8_laySteps_181 (by decide) rfl (by simp only [lenI_44]; omega) ?_
                                    refine j_eqi (x := (sr (sr I 44 (h2)) 43 (upd (f2) (btF (I 41) d c) (f2 (btF (I 41) d c)))) 44 (btF (I 41) d c)) (y := h2 (btF (I 41) d c)) ((congrFun (sr_ne (show (44 : Nat) ≠ 43 by omega)) _).trans ((congrFun sr_self _))) ?_
                                    refine lv_aload_n hx hb dX8_laySteps_182 rfl (lv_at hl 4 rfl) ?_
                                    refine j_get (20, 0, 0) 5 (v := .ref (G.2.2.1 (21, 44, 0))) hC hB in_X8 lk_19 dX8_laySteps_183 jk20 rfl rfl (by decide) rfl ?_
                                    refine lv_iload hx hb dX8_laySteps_186 (lv_at hl 2 rfl) ?_
                                    refine j_ild 44 c hC hB dX8_laySteps_188 (by decide) rfl (by simp only [lenI_44]; omega) ?_
                                    refine j_eqi (x := (sr (sr I 44 (h2)) 43 (upd (f2) (btF (I 41) d c) (f2 (btF (I 41) d c)))) 44 c) (y := h2 c) ((congrFun (sr_ne (show (44 : Nat) ≠ 43 by omega)) _).trans ((congrFun sr_self _))) ?_
                                    refine lv_iadd hx hb dX8_laySteps_189 ?_
                                    refine lv_ldc (v := 1000003) hx hb hown (hts (.constant RX8 153 (1000003)) (by decide +kernel)) dX8_laySteps_190 ?_
                                    refine j_eqi (y := nI 1000003) rfl ?_
                                    refine lv_irem hx hb dX8_laySteps_192 (by decide) ?_
                                    refine lv_goto (tgt := 203) hx hb dX8_laySteps_193 (by decide) ?_
                                    refine j_ist 44 (btF (I 41) d c) hC hB dX8_laySteps_203 (by decide) rfl (by simp only [lenI_44]; omega) (fun H locs hB => ?_)
                                    have hB : jB G A s_.heap (sr (sr I 43 (upd (f2) (btF (I 41) d c) (f2 (btF (I 41) d c)))) 44 (upd (h2) (btF (I 41) d c) (((h2 (btF (I 41) d c)) + (h2 c)) - ((h2 (btF (I 41) d c)) + (h2 c)) / (nI 1000003) * (nI 1000003))), J, O) H locs := by rw [show sr (sr I 43 (upd (f2) (btF (I 41) d c) (f2 (btF (I 41) d c)))) 44 (upd (h2) (btF (I 41) d c) (((h2 (btF (I 41) d c)) + (h2 c)) - ((h2 (btF (I 41) d c)) + (h2 c)) / (nI 1000003) * (nI 1000003))) = u2 (sr (sr I 44 (h2)) 43 (upd (f2) (btF (I 41) d c) (f2 (btF (I 41) d c)))) 44 (btF (I 41) d c) (((h2 (btF (I 41) d c)) + (h2 c)) - ((h2 (btF (I 41) d c)) + (h2 c)) / (nI 1000003) * (nI 1000003)) from (u2_sr2 (show (44 : Nat) ≠ 43 by omega)).symm]; exact hB
                                    refine lv_iinc (v := nI (d + 1)) (lv' := [(5, .int (nI (d + 1))), (6, .int (nI (btF (I 41) d c))), (4, .int (nI c)), (3, .int (nI n)), (0, .ref (G.2.2.1 (20, 0, 0))), (1, .int (nI m)), (2, .int (nI fr))]) hx hb dX8_laySteps_204 hl (k := 1) rfl (jn_inc _ 1) (by decide) rfl (fun ls hl => ?_)
                                    refine lv_goto (tgt := 68) hx hb dX8_laySteps_207 (by decide) ?_
                                    exact ih_68 (upd (f2) (btF (I 41) d c) (f2 (btF (I 41) d c))) (upd (h2) (btF (I 41) d c) (((h2 (btF (I 41) d c)) + (h2 c)) - ((h2 (btF (I 41) d c)) + (h2 c)) / (nI 1000003) * (nI 1000003))) (d + 1) (by omega) (by omega) (by show _ = lsD _ _ _ _ _ _ (it _ _ _); rw [← he2]; simp [lsD, rmF, eq_true c_87, c_99, c_111, c_139, eq_true c_172]) _ _ _ (jB_cast2 hB (by first | rfl | exact (sr_id _ _).symm | exact (srJ_id _ _).symm | (funext a; simp +decide only [sr, srJ]; (repeat' split) <;> first | rfl | (exfalso; omega) | (subst_vars; rfl))) (by first | rfl | exact (sr_id _ _).symm | exact (srJ_id _ _).symm | (funext a; simp +decide only [sr, srJ]; (repeat' split) <;> first | rfl | (exfalso; omega) | (subst_vars; rfl)))) (lv_sub hl [0, 2, 3, 4, 5, 6] rfl)
                                · refine lv_iload_n hx hb dX8_laySteps_142 rfl (lv_at hl 3 rfl) ?_
                                  refine lv_iconst (v := nI 1) hx hb dX8_laySteps_143 (by decide) ?_
                                  refine jn_iadd hx hb dX8_laySteps_144 ?_
                                  refine lv_goto (tgt := 155) hx hb dX8_laySteps_145 (by decide) ?_
                                  refine j_ist 43 (btF (I 41) d c) hC hB dX8_laySteps_155 (by decide) rfl (by simp only [lenI_43]; omega) (fun H locs hB => ?_)
                                  have hB : jB G A s_.heap (sr (sr I 44 (h2)) 43 (upd (f2) (btF (I 41) d c) (nI (n + 1))), J, O) H locs := by rw [show sr (sr I 44 (h2)) 43 (upd (f2) (btF (I 41) d c) (nI (n + 1))) = u2 (sr (sr I 43 (f2)) 44 (h2)) 43 (btF (I 41) d c) (nI (n + 1)) from (u2_sr2 (show (43 : Nat) ≠ 44 by omega)).symm]; exact hB
                                  refine lv_aload_n hx hb dX8_laySteps_156 rfl (lv_at hl 4 rfl) ?_
                                  refine j_get (20, 0, 0) 5 (v := .ref (G.2.2.1 (21, 44, 0))) hC hB in_X8 lk_19 dX8_laySteps_157 jk20 rfl rfl (by decide) rfl ?_
                                  refine lv_iload hx hb dX8_laySteps_160 (lv_at hl 0 rfl) ?_
                                  refine lv_aload_n hx hb dX8_laySteps_162 rfl (lv_at hl 4 rfl) ?_
                                  refine j_get (20, 0, 0) 4 (v := .ref (G.2.2.1 (21, 43, 0))) hC hB in_X8 lk_16 dX8_laySteps_163 jk20 rfl rfl (by decide) rfl ?_
                                  refine lv_iload hx hb dX8_laySteps_166 (lv_at hl 0 rfl) ?_
                                  refine j_ild 43 (btF (I 41) d c) hC hB dX8_laySteps_168 (by decide) rfl (by simp only [lenI_43]; omega) ?_
                                  refine j_eqi (x := (sr (sr I 44 (h2)) 43 (upd (f2) (btF (I 41) d c) (nI (n + 1)))) 43 (btF (I 41) d c)) (y := nI (n + 1)) ((congrFun sr_self _).trans (pk_us)) ?_
                                  refine lv_iload_n hx hb dX8_laySteps_169 rfl (lv_at hl 3 rfl) ?_
                                  refine lv_iconst (v := nI 1) hx hb dX8_laySteps_170 (by decide) ?_
                                  refine jn_iadd hx hb dX8_laySteps_171 ?_
                                  refine lv_icmp_ne (tgt := 196) hx hb dX8_laySteps_172 (by decide) (fun c_172 => ?_) (fun c_172 => ?_)
                                  · exact absurd rfl c_172
                                  · refine lv_aload_n hx hb dX8_laySteps_175 rfl (lv_at hl 4 rfl) ?_
                                    refine j_get (20, 0, 0) 5 (v := .ref (G.2.2.1 (21, 44, 0))) hC hB in_X8 lk_19 dX8_laySteps_176 jk20 rfl rfl (by decide) rfl ?_
                                    refine lv_iload hx hb dX8_laySteps_179 (lv_at hl 0 rfl) ?_
                                    refine j_ild 44 (btF (I 41) d c) hC hB dX8_laySteps_181 (by decide) rfl (by simp only [lenI_44]; omega) ?_
                                    refine j_eqi (x := (sr (sr I 44 (h2)) 43 (upd (f2) (btF (I 41) d c) (nI (n + 1)))) 44 (btF (I 41) d c)) (y := h2 (btF (I 41) d c)) ((congrFun (sr_ne (show (44 : Nat) ≠ 43 by omega)) _).trans ((congrFun sr_self _))) ?_
                                    refine lv_aload_n hx hb dX8_laySteps_182 rfl (lv_at hl 4 rfl) ?_
                                    refine j_get (20, 0, 0) 5 (v := .ref (G.2.2.1 (21, 44, 0))) hC hB in_X8 lk_19 dX8_laySteps_183 jk20 rfl rfl (by decide) rfl ?_
                                    refine lv_iload hx hb dX8_laySteps_186 (lv_at hl 2 rfl) ?_
                                    refine j_ild 44 c hC hB dX8_laySteps_188 (by decide) rfl (by simp only [lenI_44]; omega) ?_
                                    refine j_eqi (x := (sr (sr I 44 (h2)) 43 (upd (f2) (btF (I 41) d c) (nI (n + 1)))) 44 c) (y := h2 c) ((congrFun (sr_ne (show (44 : Nat) ≠ 43 by omega)) _).trans ((congrFun sr_self _))) ?_
                                    refine lv_iadd hx hb dX8_laySteps_189 ?_
                                    refine lv_ldc (v := 1000003) hx hb hown (hts (.constant RX8 153 (1000003)) (by decide +kernel)) dX8_laySteps_190 ?_
                                    refine j_eqi (y := nI 1000003) rfl ?_
                                    refine lv_irem hx hb dX8_laySteps_192 (by decide) ?_
                                    refine lv_goto (tgt := 203) hx hb dX8_laySteps_193 (by decide) ?_
                                    refine j_ist 44 (btF (I 41) d c) hC hB dX8_laySteps_203 (by decide) rfl (by simp only [lenI_44]; omega) (fun H locs hB => ?_)
                                    have hB : jB G A s_.heap (sr (sr I 43 (upd (f2) (btF (I 41) d c) (nI (n + 1)))) 44 (upd (h2) (btF (I 41) d c) (((h2 (btF (I 41) d c)) + (h2 c)) - ((h2 (btF (I 41) d c)) + (h2 c)) / (nI 1000003) * (nI 1000003))), J, O) H locs := by rw [show sr (sr I 43 (upd (f2) (btF (I 41) d c) (nI (n + 1)))) 44 (upd (h2) (btF (I 41) d c) (((h2 (btF (I 41) d c)) + (h2 c)) - ((h2 (btF (I 41) d c)) + (h2 c)) / (nI 1000003) * (nI 1000003))) = u2 (sr (sr I 44 (h2)) 43 (upd (f2) (btF (I 41) d c) (nI (n + 1)))) 44 (btF (I 41) d c) (((h2 (btF (I 41) d c)) + (h2 c)) - ((h2 (btF (I 41) d c)) + (h2 c)) / (nI 1000003) * (nI 1000003)) from (u2_sr2 (show (44 : Nat) ≠ 43 by omega)).symm]; exact hB
                                    refine lv_iinc (v := nI (d + 1)) (lv' := [(5, .int (nI (d + 1))), (6, .int (nI (btF (I 41) d c))), (4, .int (nI c)), (3, .int (nI n)), (0, .ref (G.2.2.1 (20, 0, 0))), (1, .int (nI m)), (2, .int (nI fr))]) hx hb dX8_laySteps_204 hl (k := 1) rfl (jn_inc _ 1) (by decide) rfl (fun ls hl => ?_)
                                    refine lv_goto (tgt := 68) hx hb dX8_laySteps_207 (by decide) ?_
                                    exact ih_68 (upd (f2) (btF (I 41) d c) (nI (n + 1))) (upd (h2) (btF (I 41) d c) (((h2 (btF (I 41) d c)) + (h2 c)) - ((h2 (btF (I 41) d c)) + (h2 c)) / (nI 1000003) * (nI 1000003))) (d + 1) (by omega) (by omega) (by show _ = lsD _ _ _ _ _ _ (it _ _ _); rw [← he2]; simp [lsD, rmF, eq_true c_87, c_99, c_111, eq_true c_139, eq_true c_172]) _ _ _ (jB_cast2 hB (by first | rfl | exact (sr_id _ _).symm | exact (srJ_id _ _).symm | (funext a; simp +decide only [sr, srJ]; (repeat' split) <;> first | rfl | (exfalso; omega) | (subst_vars; rfl))) (by first | rfl | exact (sr_id _ _).symm | exact (srJ_id _ _).symm | (funext a; simp +decide only [sr, srJ]; (repeat' split) <;> first | rfl | (exfalso; omega) | (subst_vars; rfl)))) (lv_sub hl [0, 2, 3, 4, 5, 6] rfl)
                    exact lp_68 _ f1 h1 0 (Nat.lt_succ_self _) (by omega) (rfl) _ _ _ (jB_cast2 hB (by first | rfl | exact (sr_id _ _).symm | exact (srJ_id _ _).symm | (funext a; simp +decide only [sr, srJ]; (repeat' split) <;> first | rfl | (exfalso; omega) | (subst_vars; rfl))) (by first | rfl | exact (sr_id _ _).symm | exact (srJ_id _ _).symm | (funext a; simp +decide only [sr, srJ]; (repeat' split) <;> first | rfl | (exfalso; omega) | (subst_vars; rfl)))) (lv_sub hl [0, 1, 2, 3, 4, 5] rfl)
              exact lp_58 _ f0 h0 0 (Nat.lt_succ_self _) (by omega) (rfl) _ _ _ (jB_cast2 hB (by first | rfl | exact (sr_id _ _).symm | exact (srJ_id _ _).symm | (funext a; simp +decide only [sr, srJ]; (repeat' split) <;> first | rfl | (exfalso; omega) | (subst_vars; rfl))) (by first | rfl | exact (sr_id _ _).symm | exact (srJ_id _ _).symm | (funext a; simp +decide only [sr, srJ]; (repeat' split) <;> first | rfl | (exfalso; omega) | (subst_vars; rfl)))) (lv_sub hl [0, 1, 2, 3, 4] rfl)
        exact lp_49 _ f h 0 (Nat.lt_succ_self _) (by omega) (by rw [hf, hh, show k = 8 by omega]; rfl) _ _ _ (jB_cast2 hB (by first | rfl | exact (sr_id _ _).symm | exact (srJ_id _ _).symm | (funext a; simp +decide only [sr, srJ]; (repeat' split) <;> first | rfl | (exfalso; omega) | (subst_vars; rfl))) (by first | rfl | exact (sr_id _ _).symm | exact (srJ_id _ _).symm | (funext a; simp +decide only [sr, srJ]; (repeat' split) <;> first | rfl | (exfalso; omega) | (subst_vars; rfl)))) (lv_sub hl [0, 1, 2, 3] rfl)
      · refine lv_aload_n hx hb dX8_laySteps_8 rfl (lv_at hl 1 rfl) ?_
        refine j_get (20, 0, 0) 4 (v := .ref (G.2.2.1 (21, 43, 0))) hC hB in_X8 lk_16 dX8_laySteps_9 jk20 rfl rfl (by decide) rfl ?_
        refine lv_iload_n hx hb dX8_laySteps_12 rfl (lv_at hl 0 rfl) ?_
        refine lv_iload_n hx hb dX8_laySteps_13 rfl (lv_at hl 0 rfl) ?_
        refine lv_iload_n hx hb dX8_laySteps_14 rfl (lv_at hl 3 rfl) ?_
        refine jn_icmp_ne (tgt := 22) hx hb dX8_laySteps_15 (by decide) (by omega) (by omega) (fun c_15 => ?_) (fun c_15 => ?_)
        · refine lv_ldc (v := 1000000) hx hb hown (hts (.constant RX8 148 (1000000)) (by decide +kernel)) dX8_laySteps_22 ?_
          refine j_eqi (y := nI 1000000) rfl ?_
          refine j_ist 43 k hC hB dX8_laySteps_24 (by decide) rfl (by simp only [lenI_43]; omega) (fun H locs hB => ?_)
          have hB : jB G A s_.heap (sr (sr I 44 (h)) 43 (upd (f) k (nI 1000000)), J, O) H locs := by rw [show sr (sr I 44 (h)) 43 (upd (f) k (nI 1000000)) = u2 (sr (sr I 43 (f)) 44 (h)) 43 k (nI 1000000) from (u2_sr2 (show (43 : Nat) ≠ 44 by omega)).symm]; exact hB
          refine lv_aload_n hx hb dX8_laySteps_25 rfl (lv_at hl 1 rfl) ?_
          refine j_get (20, 0, 0) 5 (v := .ref (G.2.2.1 (21, 44, 0))) hC hB in_X8 lk_19 dX8_laySteps_26 jk20 rfl rfl (by decide) rfl ?_
          refine lv_iload_n hx hb dX8_laySteps_29 rfl (lv_at hl 0 rfl) ?_
          refine lv_iload_n hx hb dX8_laySteps_30 rfl (lv_at hl 0 rfl) ?_
          refine lv_iload_n hx hb dX8_laySteps_31 rfl (lv_at hl 3 rfl) ?_
          refine jn_icmp_ne (tgt := 39) hx hb dX8_laySteps_32 (by decide) (by omega) (by omega) (fun c_32 => ?_) (fun c_32 => ?_)
          · refine lv_iconst (v := nI 0) hx hb dX8_laySteps_39 (by decide) ?_
            refine j_ist 44 k hC hB dX8_laySteps_40 (by decide) rfl (by simp only [lenI_44]; omega) (fun H locs hB => ?_)
            have hB : jB G A s_.heap (sr (sr I 43 (upd (f) k (nI 1000000))) 44 (upd (h) k (nI 0)), J, O) H locs := by rw [show sr (sr I 43 (upd (f) k (nI 1000000))) 44 (upd (h) k (nI 0)) = u2 (sr (sr I 44 (h)) 43 (upd (f) k (nI 1000000))) 44 k (nI 0) from (u2_sr2 (show (44 : Nat) ≠ 43 by omega)).symm]; exact hB
            refine lv_iinc (v := nI (k + 1)) (lv' := [(3, .int (nI (k + 1))), (0, .ref (G.2.2.1 (20, 0, 0))), (1, .int (nI m)), (2, .int (nI fr))]) hx hb dX8_laySteps_41 hl (k := 0) rfl (jn_inc _ 1) (by decide) rfl (fun ls hl => ?_)
            refine lv_goto (tgt := 2) hx hb dX8_laySteps_44 (by decide) ?_
            exact ih_2 (upd (f) k (nI 1000000)) (upd (h) k (nI 0)) (k + 1) (by omega) (by omega) (by rw [hf, ← inR8_step]; simp [c_15]) (by rw [hh, ← inR8_step]; simp [c_32]) _ _ _ (jB_cast2 hB (by first | rfl | exact (sr_id _ _).symm | exact (srJ_id _ _).symm | (funext a; simp +decide only [sr, srJ]; (repeat' split) <;> first | rfl | (exfalso; omega) | (subst_vars; rfl))) (by first | rfl | exact (sr_id _ _).symm | exact (srJ_id _ _).symm | (funext a; simp +decide only [sr, srJ]; (repeat' split) <;> first | rfl | (exfalso; omega) | (subst_vars; rfl)))) (lv_sub hl [0, 1, 2, 3] rfl)
          · refine lv_iconst (v := nI 1) hx hb dX8_laySteps_35 (by decide) ?_
            refine lv_goto (tgt := 40) hx hb dX8_laySteps_36 (by decide) ?_
            refine j_ist 44 k hC hB dX8_laySteps_40 (by decide) rfl (by simp only [lenI_44]; omega) (fun H locs hB => ?_)
            have hB : jB G A s_.heap (sr (sr I 43 (upd (f) k (nI 1000000))) 44 (upd (h) k (nI 1)), J, O) H locs := by rw [show sr (sr I 43 (upd (f) k (nI 1000000))) 44 (upd (h) k (nI 1)) = u2 (sr (sr I 44 (h)) 43 (upd (f) k (nI 1000000))) 44 k (nI 1) from (u2_sr2 (show (44 : Nat) ≠ 43 by omega)).symm]; exact hB
            refine lv_iinc (v := nI (k + 1)) (lv' := [(3, .int (nI (k + 1))), (0, .ref (G.2.2.1 (20, 0, 0))), (1, .int (nI m)), (2, .int (nI fr))]) hx hb dX8_laySteps_41 hl (k := 0) rfl (jn_inc _ 1) (by decide) rfl (fun ls hl => ?_)
            refine lv_goto (tgt := 2) hx hb dX8_laySteps_44 (by decide) ?_
            exact ih_2 (upd (f) k (nI 1000000)) (upd (h) k (nI 1)) (k + 1) (by omega) (by omega) (by rw [hf, ← inR8_step]; simp [c_15]) (by rw [hh, ← inR8_step]; simp [eq_true c_32]) _ _ _ (jB_cast2 hB (by first | rfl | exact (sr_id _ _).symm | exact (srJ_id _ _).symm | (funext a; simp +decide only [sr, srJ]; (repeat' split) <;> first | rfl | (exfalso; omega) | (subst_vars; rfl))) (by first | rfl | exact (sr_id _ _).symm | exact (srJ_id _ _).symm | (funext a; simp +decide only [sr, srJ]; (repeat' split) <;> first | rfl | (exfalso; omega) | (subst_vars; rfl)))) (lv_sub hl [0, 1, 2, 3] rfl)
        · refine lv_iconst (v := nI 0) hx hb dX8_laySteps_18 (by decide) ?_
          refine lv_goto (tgt := 24) hx hb dX8_laySteps_19 (by decide) ?_
          refine j_ist 43 k hC hB dX8_laySteps_24 (by decide) rfl (by simp only [lenI_43]; omega) (fun H locs hB => ?_)
          have hB : jB G A s_.heap (sr (sr I 44 (h)) 43 (upd (f) k (nI 0)), J, O) H locs := by rw [show sr (sr I 44 (h)) 43 (upd (f) k (nI 0)) = u2 (sr (sr I 43 (f)) 44 (h)) 43 k (nI 0) from (u2_sr2 (show (43 : Nat) ≠ 44 by omega)).symm]; exact hB
          refine lv_aload_n hx hb dX8_laySteps_25 rfl (lv_at hl 1 rfl) ?_
          refine j_get (20, 0, 0) 5 (v := .ref (G.2.2.1 (21, 44, 0))) hC hB in_X8 lk_19 dX8_laySteps_26 jk20 rfl rfl (by decide) rfl ?_
          refine lv_iload_n hx hb dX8_laySteps_29 rfl (lv_at hl 0 rfl) ?_
          refine lv_iload_n hx hb dX8_laySteps_30 rfl (lv_at hl 0 rfl) ?_
          refine lv_iload_n hx hb dX8_laySteps_31 rfl (lv_at hl 3 rfl) ?_
          refine jn_icmp_ne (tgt := 39) hx hb dX8_laySteps_32 (by decide) (by omega) (by omega) (fun c_32 => ?_) (fun c_32 => ?_)
          · refine lv_iconst (v := nI 0) hx hb dX8_laySteps_39 (by decide) ?_
            refine j_ist 44 k hC hB dX8_laySteps_40 (by decide) rfl (by simp only [lenI_44]; omega) (fun H locs hB => ?_)
            have hB : jB G A s_.heap (sr (sr I 43 (upd (f) k (nI 0))) 44 (upd (h) k (nI 0)), J, O) H locs := by rw [show sr (sr I 43 (upd (f) k (nI 0))) 44 (upd (h) k (nI 0)) = u2 (sr (sr I 44 (h)) 43 (upd (f) k (nI 0))) 44 k (nI 0) from (u2_sr2 (show (44 : Nat) ≠ 43 by omega)).symm]; exact hB
            refine lv_iinc (v := nI (k + 1)) (lv' := [(3, .int (nI (k + 1))), (0, .ref (G.2.2.1 (20, 0, 0))), (1, .int (nI m)), (2, .int (nI fr))]) hx hb dX8_laySteps_41 hl (k := 0) rfl (jn_inc _ 1) (by decide) rfl (fun ls hl => ?_)
            refine lv_goto (tgt := 2) hx hb dX8_laySteps_44 (by decide) ?_
            exact ih_2 (upd (f) k (nI 0)) (upd (h) k (nI 0)) (k + 1) (by omega) (by omega) (by rw [hf, ← inR8_step]; simp [eq_true c_15]) (by rw [hh, ← inR8_step]; simp [c_32]) _ _ _ (jB_cast2 hB (by first | rfl | exact (sr_id _ _).symm | exact (srJ_id _ _).symm | (funext a; simp +decide only [sr, srJ]; (repeat' split) <;> first | rfl | (exfalso; omega) | (subst_vars; rfl))) (by first | rfl | exact (sr_id _ _).symm | exact (srJ_id _ _).symm | (funext a; simp +decide only [sr, srJ]; (repeat' split) <;> first | rfl | (exfalso; omega) | (subst_vars; rfl)))) (lv_sub hl [0, 1, 2, 3] rfl)
          · refine lv_iconst (v := nI 1) hx hb dX8_laySteps_35 (by decide) ?_
            refine lv_goto (tgt := 40) hx hb dX8_laySteps_36 (by decide) ?_
            refine j_ist 44 k hC hB dX8_laySteps_40 (by decide) rfl (by simp only [lenI_44]; omega) (fun H locs hB => ?_)
            have hB : jB G A s_.heap (sr (sr I 43 (upd (f) k (nI 0))) 44 (upd (h) k (nI 1)), J, O) H locs := by rw [show sr (sr I 43 (upd (f) k (nI 0))) 44 (upd (h) k (nI 1)) = u2 (sr (sr I 44 (h)) 43 (upd (f) k (nI 0))) 44 k (nI 1) from (u2_sr2 (show (44 : Nat) ≠ 43 by omega)).symm]; exact hB
            refine lv_iinc (v := nI (k + 1)) (lv' := [(3, .int (nI (k + 1))), (0, .ref (G.2.2.1 (20, 0, 0))), (1, .int (nI m)), (2, .int (nI fr))]) hx hb dX8_laySteps_41 hl (k := 0) rfl (jn_inc _ 1) (by decide) rfl (fun ls hl => ?_)
            refine lv_goto (tgt := 2) hx hb dX8_laySteps_44 (by decide) ?_
            exact ih_2 (upd (f) k (nI 0)) (upd (h) k (nI 1)) (k + 1) (by omega) (by omega) (by rw [hf, ← inR8_step]; simp [eq_true c_15]) (by rw [hh, ← inR8_step]; simp [eq_true c_32]) _ _ _ (jB_cast2 hB (by first | rfl | exact (sr_id _ _).symm | exact (srJ_id _ _).symm | (funext a; simp +decide only [sr, srJ]; (repeat' split) <;> first | rfl | (exfalso; omega) | (subst_vars; rfl))) (by first | rfl | exact (sr_id _ _).symm | exact (srJ_id _ _).symm | (funext a; simp +decide only [sr, srJ]; (repeat' split) <;> first | rfl | (exfalso; omega) | (subst_vars; rfl)))) (lv_sub hl [0, 1, 2, 3] rfl)
  exact lp_2 _ (I 43) (I 44) 0 (Nat.lt_succ_self _) (by omega) ((inR8_0 _ _ _ _).symm) ((inR8_0 _ _ _ _).symm) _ _ _ (jB_cast2 hB (by first | rfl | exact (sr_id _ _).symm | exact (srJ_id _ _).symm | (funext a; simp +decide only [sr, srJ]; (repeat' split) <;> first | rfl | (exfalso; omega) | (subst_vars; rfl))) (by first | rfl | exact (sr_id _ _).symm | exact (srJ_id _ _).symm | (funext a; simp +decide only [sr, srJ]; (repeat' split) <;> first | rfl | (exfalso; omega) | (subst_vars; rfl)))) (lv_sub hl [0, 1, 2, 3] rfl)

set_option maxHeartbeats 4000000 in
set_option maxRecDepth 100000 in
theorem c_X8_layOf (l_ : Launch) (G : jG) (I : Nat → Nat → Int32) (J : Nat → Nat → Int64) (O : Nat → Nat → Nat) (m : Nat) (hm : m < 4) {cc : Nat} (hcc : cc < 8) (ecc : I 41 (51 + m) = nI cc) {nd : Nat} (hnd : nd ≤ 10) (hD : I 41 0 = nI nd) (hW : wfD (I 41) nd) : jMv l_ G yX8_layOf wsX8_layOf ({ frames := 4, cells := 0, slots := 0, locals := 99 }) [.ref (G.2.2.1 (20, 0, 0)), .int (nI m)] (I, J, O) (fun u => u = (sr (sr (sr I 40 (upd (I 40) 1 (nI 0))) 43 ((lsF (I 41) (I 43) (I 44) m (nI 0) cc nd).1)) 44 ((lsF (I 41) (I 43) (I 44) m (nI 0) cc nd).2), J, O)) := by
  refine jMv_of (cc := cX8_layOf) (maxL := 2) (ret := none) (lv0 := [(0, .ref (G.2.2.1 (20, 0, 0))), (1, .int (nI m))]) (by decide) rfl (Nat.le_of_ble_eq_true rfl) rfl ?_
  intro pg_ ev_ s_ mi_ below meth cd_ A ls hC hB hl
  obtain ⟨hx, hb, hr, hml, hown, hts, hlocks, hK, hA⟩ := id hC
  have lk_149 := hts (.fieldLink RX8 149 "RiddlePrisonModel" "shut" "I") (by decide +kernel)
  have lk_7 := hts (.fieldLink RX8 7 "RiddlePrisonModel" "now" "[I") (by decide +kernel)
  have in_X8 := (fun w h => List.mem_cons_of_mem _ (List.mem_append_right _ h) : ∀ w ∈ wsX80, w ∈ wsX8_layOf)
  refine lv_aload_n hx hb dX8_layOf_0 rfl (lv_at hl 0 rfl) ?_
  refine lv_iconst (v := nI 0) hx hb dX8_layOf_1 (by decide) ?_
  refine j_put (20, 0, 0) 3 (u2 I 40 1 (nI 0), J, O) (ty := .int) hC hB in_X8 tyX8_ok nmX8 lk_149 dX8_layOf_2 jk20 rfl rfl (by decide) rfl (by decide +kernel) rfl rfl (Nat.le_of_ble_eq_true rfl) (fun z hz hne => jw_fr z hz hne) (rfl) (fun H locs hB => ?_)
  have hB : jB G A s_.heap (sr I 40 (upd (I 40) 1 (nI 0)), J, O) H locs := by rw [show sr I 40 (upd (I 40) 1 (nI 0)) = u2 I 40 1 (nI 0) from (u2_eq _ _ _ _).symm]; exact hB
  refine lv_aload_n hx hb dX8_layOf_5 rfl (lv_at hl 0 rfl) ?_
  refine lv_iload_n hx hb dX8_layOf_6 rfl (lv_at hl 1 rfl) ?_
  refine lv_aload_n hx hb dX8_layOf_7 rfl (lv_at hl 0 rfl) ?_
  refine j_get (20, 0, 0) 0 (v := .ref (G.2.2.1 (21, 41, 0))) hC hB in_X8 lk_7 dX8_layOf_8 jk20 rfl rfl (by decide) rfl ?_
  refine lv_bipush (v := nI 51) hx hb dX8_layOf_11 (by decide) ?_
  refine lv_iload_n hx hb dX8_layOf_13 rfl (lv_at hl 1 rfl) ?_
  refine jn_iadd hx hb dX8_layOf_14 ?_
  refine j_ild 41 (51 + m) hC hB dX8_layOf_15 (by decide) rfl (by simp only [lenI_41]; omega) ?_
  refine j_eqi (x := (sr I 40 (upd (I 40) 1 (nI 0))) 41 (51 + m)) (y := nI cc) ((congrFun (sr_ne (show (41 : Nat) ≠ 40 by omega)) _).trans (ecc)) ?_
  refine j_cvv (20, 0, 0) [.int (nI m), .int (nI cc)] hC hB hl.1 (c_X8_laySteps l_ G (sr I 40 (upd (I 40) 1 (nI 0))) J O m cc (by omega) (by omega) (by omega) ((congrFun (sr_ne (show (41 : Nat) ≠ 40 by omega)) _).trans (hD)) (hW) ((congrFun sr_self _).trans (pk_us))) (cwV 2 hts gX8_layOf_X8_laySteps rfl rfl rfl (by decide +kernel) ⟨by decide, by decide⟩) dX8_layOf_16 jk20 rfl rfl rfl rfl (Nat.le_of_ble_eq_true rfl) (fun u_16 H locs hp_16 hB => ?_)
  obtain rfl := hp_16
  have hB : jB G A s_.heap (sr (sr (sr I 40 (upd (I 40) 1 (nI 0))) 43 ((lsF (I 41) (I 43) (I 44) m (nI 0) cc nd).1)) 44 ((lsF (I 41) (I 43) (I 44) m (nI 0) cc nd).2), J, O) H locs := hB
  exact j_vret hC hB dX8_layOf_19 (rfl)
