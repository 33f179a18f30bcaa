set_option maxHeartbeats 4000000 in
set_option maxRecDepth 100000 in
theorem c_X8_meet (l_ : Launch) (G : jG) (I : Nat → Nat → Int32) (J : Nat → Nat → Int64) (O : Nat → Nat → Nat) (man other what : Int32) {nd : Nat} (hnd : nd ≤ 10) (hD : I 41 0 = nI nd) {nm : Nat} (hnm : nm ≤ 4) (hM : I 41 1 = nI nm) (hW : wfD (I 41) nd) (hWc : ∀ m, m < nm → ∃ c, c < 8 ∧ I 41 (51 + m) = nI c) : jMi l_ G yX8_meet wsX8_meet ({ frames := 5, cells := 0, slots := 0, locals := 120 }) [.ref (G.2.2.1 (20, 0, 0)), .int man, .int other, .int what] (I, J, O) (fun r u => r = meeA (I 41) nd nm man other what ∧ SMs (I, J, O) u) := by
  refine jMi_of (cc := cX8_meet) (maxL := 8) (ret := (some .int)) (lv0 := [(0, .ref (G.2.2.1 (20, 0, 0))), (1, .int man), (2, .int other), (3, .int what)]) (by decide) rfl (Nat.le_of_ble_eq_true rfl) rfl ?_
  intro pg_ ev_ s_ mi_ below meth cd_ A ls hC hB hl
  obtain ⟨hx, hb, hr, hml, hown, hts, hlocks, hK, hA⟩ := id hC
  have lk_28 := hts (.fieldLink RX8 28 "RiddlePrisonModel" "stepsOfOne" "[I") (by decide +kernel)
  have lk_16 := hts (.fieldLink RX8 16 "RiddlePrisonModel" "steps" "[I") (by decide +kernel)
  have in_X8 := (fun w h => List.mem_cons_of_mem _ (List.mem_append_right _ h) : ∀ w ∈ wsX80, w ∈ wsX8_meet)
  refine lv_aload_n hx hb dX8_meet_0 rfl (lv_at hl 0 rfl) ?_
  refine lv_iload_n hx hb dX8_meet_1 rfl (lv_at hl 1 rfl) ?_
  refine j_cvi (20, 0, 0) [.int man] hC hB hl.1 (c_X8_isMan l_ G I J O man (by omega) (hM)) (cwV 1 hts gX8_meet_X8_isMan rfl rfl rfl (by decide +kernel) ⟨by decide, by decide⟩) dX8_meet_2 jk20 rfl rfl rfl rfl (Nat.le_of_ble_eq_true rfl) (fun r_2 u_2 H locs hp_2 hB => ?_)
  obtain ⟨rfl, rfl⟩ := hp_2
  refine jb_if_eq (tgt := 31) hx hb dX8_meet_5 (by decide) (fun c_5 => ?_) (fun c_5 => ?_)
  · refine lv_iconst (v := (-1 : Int32)) hx hb dX8_meet_31 (by decide) ?_
    exact j_iret hC hB dX8_meet_32 (⟨by simp [meeA, c_5], ⟨SM.rf, SMJ.rf, rfl⟩⟩)
  · obtain ⟨mm, hmm, rfl⟩ := isB_nat c_5 (by omega)
    obtain ⟨cc, hcc, ecc⟩ := hWc mm hmm
    refine lv_aload_n hx hb dX8_meet_8 rfl (lv_at hl 0 rfl) ?_
    refine lv_iload_n hx hb dX8_meet_9 rfl (lv_at hl 2 rfl) ?_
    refine j_cvi (20, 0, 0) [.int other] hC hB hl.1 (c_X8_isMan l_ G I J O other (by omega) (hM)) (cwV 1 hts gX8_meet_X8_isMan rfl rfl rfl (by decide +kernel) ⟨by decide, by decide⟩) dX8_meet_10 jk20 rfl rfl rfl rfl (Nat.le_of_ble_eq_true rfl) (fun r_10 u_10 H locs hp_10 hB => ?_)
    obtain ⟨rfl, rfl⟩ := hp_10
    refine jb_if_eq (tgt := 31) hx hb dX8_meet_13 (by decide) (fun c_13 => ?_) (fun c_13 => ?_)
    · refine lv_iconst (v := (-1 : Int32)) hx hb dX8_meet_31 (by decide) ?_
      exact j_iret hC hB dX8_meet_32 (⟨by simp [meeA, c_5, c_13], ⟨SM.rf, SMJ.rf, rfl⟩⟩)
    · obtain ⟨oo, hoo, rfl⟩ := isB_nat c_13 (by omega)
      obtain ⟨co, hco, eco⟩ := hWc oo hoo
      refine lv_iload_n hx hb dX8_meet_16 rfl (lv_at hl 1 rfl) ?_
      refine lv_iload_n hx hb dX8_meet_17 rfl (lv_at hl 2 rfl) ?_
      refine jn_icmp_eq (tgt := 31) hx hb dX8_meet_18 (by decide) (by omega) (by omega) (fun c_18 => ?_) (fun c_18 => ?_)
      · refine lv_iconst (v := (-1 : Int32)) hx hb dX8_meet_31 (by decide) ?_
        exact j_iret hC hB dX8_meet_32 (⟨by simp [meeA, c_5, c_13, eq_true c_18, nIq (show mm < 2147483648 by omega) (show oo < 2147483648 by omega)], ⟨SM.rf, SMJ.rf, rfl⟩⟩)
      · refine lv_iload_n hx hb dX8_meet_21 rfl (lv_at hl 3 rfl) ?_
        refine lv_i2l (v := what.toInt64) hx hb dX8_meet_22 rfl ?_
        refine lv_lconst (v := 0) hx hb dX8_meet_23 rfl ?_
        refine lv_lconst (v := 1) hx hb dX8_meet_24 rfl ?_
        refine j_csi [.long what.toInt64, .long ((0 : Int64)), .long ((1 : Int64))] hC hB hl.1 (c_X8_in l_ G I J O what.toInt64 ((0 : Int64)) ((1 : Int64))) (va_cwS 3 hts gX8_meet_X8_in rfl rfl rfl (by decide +kernel) ⟨by decide, by decide⟩) dX8_meet_25 rfl rfl (Nat.le_of_ble_eq_true rfl) (fun r_25 u_25 H locs hp_25 hB => ?_)
        obtain ⟨rfl, rfl⟩ := hp_25
        refine j_eqi (y := b2 (isB what 2)) (by rw [inR_isB (n := 2) (by decide)]) ?_
        refine jb_if_ne (tgt := 33) hx hb dX8_meet_28 (by decide) (fun c_28 => ?_) (fun c_28 => ?_)
        · obtain ⟨ww, hww, rfl⟩ := isB_nat c_28 (by omega)
          refine lv_aload_n hx hb dX8_meet_33 rfl (lv_at hl 0 rfl) ?_
          refine lv_iload_n hx hb dX8_meet_34 rfl (lv_at hl 1 rfl) ?_
          refine j_cvv (20, 0, 0) [.int (nI mm)] hC hB hl.1 (c_X8_layOf l_ G I J O mm (by omega) (by omega) (ecc) (by omega) (hD) (hW)) (cwV 1 hts gX8_meet_X8_layOf rfl rfl rfl (by decide +kernel) ⟨by decide, by decide⟩) dX8_meet_35 jk20 rfl rfl rfl rfl (Nat.le_of_ble_eq_true rfl) (fun u_35 H locs hp_35 hB => ?_)
          obtain rfl := hp_35
          have hB : jB G A s_.heap (sr (sr (sr I 40 (upd (I 40) 1 (nI 0))) 43 ((lsF (I 41) (I 43) (I 44) mm (nI 0) cc nd).1)) 44 ((lsF (I 41) (I 43) (I 44) mm (nI 0) cc nd).2), J, O) H locs := hB
          refine lv_iconst (v := nI 0) hx hb dX8_meet_38 (by decide) ?_
          refine lv_istore (lv' := [(4, .int (nI 0)), (0, .ref (G.2.2.1 (20, 0, 0))), (1, .int (nI mm)), (2, .int (nI oo)), (3, .int (nI ww))]) hx hb dX8_meet_39 hl (by decide) rfl (fun ls hl => ?_)
          have lp_41 : ∀ (fu : Nat) (f : Nat → Int32) (k : Nat), 8 - k < fu → (k ≤ 8) → (f = cpR (lsF (I 41) (I 43) (I 44) mm (nI 0) cc nd).1 (I 47) k) → ∀ H locs ls, jB G A s_.heap (sr (sr (sr (sr I 40 (upd (I 40) 1 (nI 0))) 43 ((lsF (I 41) (I 43) (I 44) mm (nI 0) cc nd).1)) 44 ((lsF (I 41) (I 43) (I 44) mm (nI 0) cc nd).2)) 47 (f), J, O) H locs → lv_has ls 8 [(4, .int (nI k)), (0, .ref (G.2.2.1 (20, 0, 0))), (1, .int (nI mm)), (2, .int (nI oo)), (3, .int (nI ww))] → W pg_ l_ ev_ ({ frames := 5, cells := 0, slots := 0, locals := 120 }) s_ mi_ ([.ref (G.2.2.1 (20, 0, 0)), .int (nI mm), .int (nI oo), .int (nI ww)]).toArray below meth cd_ H locs 0 0 (jQi G A below [.ref (G.2.2.1 (20, 0, 0)), .int (nI mm), .int (nI oo), .int (nI ww)] s_ (fun r u => r = meeA (I 41) nd nm (nI mm) (nI oo) (nI ww) ∧ SMs (I, J, O) u)) (F0 mi_ 41 ls []) := by
            intro fu
            induction fu with
            | zero => intro f k hf; exact absurd hf (Nat.not_lt_zero _)
            | succ fu ih_41 =>
              intro f k hf_41 hk hf H locs ls hB hl
              refine lv_iload hx hb dX8_meet_41 (lv_at hl 0 rfl) ?_
              refine lv_bipush (v := nI 8) hx hb dX8_meet_43 (by decide) ?_
              refine jn_icmp_ge (tgt := 68) hx hb dX8_meet_45 (by decide) (by omega) (by omega) (fun c_45 => ?_) (fun c_45 => ?_)
              · refine lv_aload_n hx hb dX8_meet_68 rfl (lv_at hl 1 rfl) ?_
                refine lv_iload_n hx hb dX8_meet_69 rfl (lv_at hl 3 rfl) ?_
                refine j_cvv (20, 0, 0) [.int (nI oo)] hC hB hl.1 (c_X8_layOf l_ G (sr (sr (sr (sr I 40 (upd (I 40) 1 (nI 0))) 43 ((lsF (I 41) (I 43) (I 44) mm (nI 0) cc nd).1)) 44 ((lsF (I 41) (I 43) (I 44) mm (nI 0) cc nd).2)) 47 (f)) J O oo (by omega) (by omega) ((congrFun (sr_ne (show (41 : Nat) ≠ 47 by omega)) _).trans ((congrFun (sr_ne (show (41 : Nat) ≠ 44 by omega)) _).trans ((congrFun (sr_ne (show (41 : Nat) ≠ 43 by omega)) _).trans ((congrFun (sr_ne (show (41 : Nat) ≠ 40 by omega)) _).trans (eco))))) (by omega) ((congrFun (sr_ne (show (41 : Nat) ≠ 47 by omega)) _).trans ((congrFun (sr_ne (show (41 : Nat) ≠ 44 by omega)) _).trans ((congrFun (sr_ne (show (41 : Nat) ≠ 43 by omega)) _).trans ((congrFun (sr_ne (show (41 : Nat) ≠ 40 by omega)) _).trans (hD))))) (hW)) (cwV 1 hts gX8_meet_X8_layOf rfl rfl rfl (by decide +kernel) ⟨by decide, by decide⟩) dX8_meet_70 jk20 rfl rfl rfl rfl (Nat.le_of_ble_eq_true rfl) (fun u_70 H locs hp_70 hB => ?_)
                obtain rfl := hp_70
                have hB : jB G A s_.heap (sr (sr (sr (sr I 47 (f)) 40 (upd (upd (I 40) 1 (nI 0)) 1 (nI 0))) 43 ((lsF (I 41) ((lsF (I 41) (I 43) (I 44) mm (nI 0) cc nd).1) ((lsF (I 41) (I 43) (I 44) mm (nI 0) cc nd).2) oo (nI 0) co nd).1)) 44 ((lsF (I 41) ((lsF (I 41) (I 43) (I 44) mm (nI 0) cc nd).1) ((lsF (I 41) (I 43) (I 44) mm (nI 0) cc nd).2) oo (nI 0) co nd).2), J, O) H locs := by rw [show sr (sr (sr (sr I 47 (f)) 40 (upd (upd (I 40) 1 (nI 0)) 1 (nI 0))) 43 ((lsF (I 41) ((lsF (I 41) (I 43) (I 44) mm (nI 0) cc nd).1) ((lsF (I 41) (I 43) (I 44) mm (nI 0) cc nd).2) oo (nI 0) co nd).1)) 44 ((lsF (I 41) ((lsF (I 41) (I 43) (I 44) mm (nI 0) cc nd).1) ((lsF (I 41) (I 43) (I 44) mm (nI 0) cc nd).2) oo (nI 0) co nd).2) = sr (sr (sr (sr (sr (sr (sr I 40 (upd (I 40) 1 (nI 0))) 43 ((lsF (I 41) (I 43) (I 44) mm (nI 0) cc nd).1)) 44 ((lsF (I 41) (I 43) (I 44) mm (nI 0) cc nd).2)) 47 (f)) 40 (upd (upd (I 40) 1 (nI 0)) 1 (nI 0))) 43 ((lsF (I 41) ((lsF (I 41) (I 43) (I 44) mm (nI 0) cc nd).1) ((lsF (I 41) (I 43) (I 44) mm (nI 0) cc nd).2) oo (nI 0) co nd).1)) 44 ((lsF (I 41) ((lsF (I 41) (I 43) (I 44) mm (nI 0) cc nd).1) ((lsF (I 41) (I 43) (I 44) mm (nI 0) cc nd).2) oo (nI 0) co nd).2) from by funext a; simp +decide only [sr]; (repeat' split) <;> first | rfl | (exfalso; omega) | (subst_vars; rfl)]; exact hB
                refine lv_bipush (v := (-4 : Int32)) hx hb dX8_meet_73 (by decide) ?_
                refine lv_istore (lv' := [(4, .int ((-4 : Int32))), (0, .ref (G.2.2.1 (20, 0, 0))), (1, .int (nI mm)), (2, .int (nI oo)), (3, .int (nI ww))]) hx hb dX8_meet_75 hl (by decide) rfl (fun ls hl => ?_)
                refine lv_ldc (v := 1000000) hx hb hown (hts (.constant RX8 148 (1000000)) (by decide +kernel)) dX8_meet_77 ?_
                refine j_eqi (y := nI 1000000) rfl ?_
                refine lv_istore (lv' := [(5, .int (nI 1000000)), (4, .int ((-4 : Int32))), (0, .ref (G.2.2.1 (20, 0, 0))), (1, .int (nI mm)), (2, .int (nI oo)), (3, .int (nI ww))]) hx hb dX8_meet_79 hl (by decide) rfl (fun ls hl => ?_)
                refine lv_iconst (v := nI 0) hx hb dX8_meet_81 (by decide) ?_
                refine lv_istore (lv' := [(6, .int (nI 0)), (5, .int (nI 1000000)), (4, .int ((-4 : Int32))), (0, .ref (G.2.2.1 (20, 0, 0))), (1, .int (nI mm)), (2, .int (nI oo)), (3, .int (nI ww))]) hx hb dX8_meet_82 hl (by decide) rfl (fun ls hl => ?_)
                have lp_84 : ∀ (fu : Nat) (best : Int32) (least : Int32) (x : Nat), 8 - x < fu → (x ≤ 8) → ((best, least) = it (meeS f (lsF (I 41) (lsF (I 41) (I 43) (I 44) mm (nI 0) cc nd).1 (lsF (I 41) (I 43) (I 44) mm (nI 0) cc nd).2 oo (nI 0) co nd).1) x (-4, nI 1000000)) → ∀ H locs ls, jB G A s_.heap (sr (sr (sr (sr I 47 (f)) 40 (upd (upd (I 40) 1 (nI 0)) 1 (nI 0))) 43 ((lsF (I 41) ((lsF (I 41) (I 43) (I 44) mm (nI 0) cc nd).1) ((lsF (I 41) (I 43) (I 44) mm (nI 0) cc nd).2) oo (nI 0) co nd).1)) 44 ((lsF (I 41) ((lsF (I 41) (I 43) (I 44) mm (nI 0) cc nd).1) ((lsF (I 41) (I 43) (I 44) mm (nI 0) cc nd).2) oo (nI 0) co nd).2), J, O) H locs → lv_has ls 8 [(6, .int (nI x)), (5, .int least), (4, .int best), (0, .ref (G.2.2.1 (20, 0, 0))), (1, .int (nI mm)), (2, .int (nI oo)), (3, .int (nI ww))] → W pg_ l_ ev_ ({ frames := 5, cells := 0, slots := 0, locals := 120 }) s_ mi_ ([.ref (G.2.2.1 (20, 0, 0)), .int (nI mm), .int (nI oo), .int (nI ww)]).toArray below meth cd_ H locs 0 0 (jQi G A below [.ref (G.2.2.1 (20, 0, 0)), .int (nI mm), .int (nI oo), .int (nI ww)] s_ (fun r u => r = meeA (I 41) nd nm (nI mm) (nI oo) (nI ww) ∧ SMs (I, J, O) u)) (F0 mi_ 84 ls []) := by
                  intro fu
                  induction fu with
                  | zero => intro best least x hf; exact absurd hf (Nat.not_lt_zero _)
                  | succ fu ih_84 =>
                    intro best least x hf_84 hx8 hs H locs ls hB hl
                    refine lv_iload hx hb dX8_meet_84 (lv_at hl 0 rfl) ?_
                    refine lv_bipush (v := nI 8) hx hb dX8_meet_86 (by decide) ?_
                    refine jn_icmp_ge (tgt := 165) hx hb dX8_meet_88 (by decide) (by omega) (by omega) (fun c_88 => ?_) (fun c_88 => ?_)
                    · refine lv_iload hx hb dX8_meet_165 (lv_at hl 2 rfl) ?_
                      refine lv_bipush (v := (-4 : Int32)) hx hb dX8_meet_167 (by decide) ?_
                      refine lv_icmp_eq (tgt := 176) hx hb dX8_meet_169 (by decide) (fun c_169 => ?_) (fun c_169 => ?_)
                      · refine lv_iload hx hb dX8_meet_176 (lv_at hl 2 rfl) ?_
                        refine lv_goto (tgt := 183) hx hb dX8_meet_178 (by decide) ?_
                        exact j_iret hC hB dX8_meet_183 (⟨by have hm8 : meeF f (lsF (I 41) (lsF (I 41) (I 43) (I 44) mm (nI 0) cc nd).1 (lsF (I 41) (I 43) (I 44) mm (nI 0) cc nd).2 oo (nI 0) co nd).1 = meeF (lsZ (I 41) mm (nI 0) cc nd).1 (lsZ (I 41) oo (nI 0) co nd).1 := meeF_cong (fun j hj => by rw [hf]; show (if j < k then _ else _) = _; rw [if_pos (by omega)]; exact ((lsF_Z hW (I 43) (I 44) mm (nI 0) cc) j hj).1) (fun j hj => ((lsF_Z hW (lsF (I 41) (I 43) (I 44) mm (nI 0) cc nd).1 (lsF (I 41) (I 43) (I 44) mm (nI 0) cc nd).2 oo (nI 0) co) j hj).1); have hbl : (best, least) = meeF (lsZ (I 41) mm (nI 0) cc nd).1 (lsZ (I 41) oo (nI 0) co nd).1 := (by rw [hs, show x = 8 by omega]; exact hm8); simp [meeA, ← hbl, nIq (show mm < 2147483648 by omega) (show oo < 2147483648 by omega), nIq (show ww < 2147483648 by omega) (show 0 < 2147483648 by decide), nIc (show oo < 2147483648 by omega), nIc (show co < 2147483648 by omega), eco, tN, ceF, nIc (show mm < 2147483648 by omega), nIc (show cc < 2147483648 by omega), ecc, c_5, c_13, c_18, c_28, eq_true c_169], ⟨SM.sr (SM.sr (SM_40 (SM.sr (SM.rf) scr47) (rfl) (rfl)) scr43) scr44, SMJ.rf, rfl⟩⟩)
                      · refine lv_iload_n hx hb dX8_meet_172 rfl (lv_at hl 6 rfl) ?_
                        refine jn_if_ne (tgt := 181) hx hb dX8_meet_173 (by decide) (by omega) (fun c_173 => ?_) (fun c_173 => ?_)
                        · refine lv_iload hx hb dX8_meet_181 (lv_at hl 1 rfl) ?_
                          exact j_iret hC hB dX8_meet_183 (⟨by have hm8 : meeF f (lsF (I 41) (lsF (I 41) (I 43) (I 44) mm (nI 0) cc nd).1 (lsF (I 41) (I 43) (I 44) mm (nI 0) cc nd).2 oo (nI 0) co nd).1 = meeF (lsZ (I 41) mm (nI 0) cc nd).1 (lsZ (I 41) oo (nI 0) co nd).1 := meeF_cong (fun j hj => by rw [hf]; show (if j < k then _ else _) = _; rw [if_pos (by omega)]; exact ((lsF_Z hW (I 43) (I 44) mm (nI 0) cc) j hj).1) (fun j hj => ((lsF_Z hW (lsF (I 41) (I 43) (I 44) mm (nI 0) cc nd).1 (lsF (I 41) (I 43) (I 44) mm (nI 0) cc nd).2 oo (nI 0) co) j hj).1); have hbl : (best, least) = meeF (lsZ (I 41) mm (nI 0) cc nd).1 (lsZ (I 41) oo (nI 0) co nd).1 := (by rw [hs, show x = 8 by omega]; exact hm8); simp [meeA, ← hbl, nIq (show mm < 2147483648 by omega) (show oo < 2147483648 by omega), nIq (show ww < 2147483648 by omega) (show 0 < 2147483648 by decide), nIc (show oo < 2147483648 by omega), nIc (show co < 2147483648 by omega), eco, tN, ceF, nIc (show mm < 2147483648 by omega), nIc (show cc < 2147483648 by omega), ecc, c_5, c_13, c_18, c_28, c_169, c_173], ⟨SM.sr (SM.sr (SM_40 (SM.sr (SM.rf) scr47) (rfl) (rfl)) scr43) scr44, SMJ.rf, rfl⟩⟩)
                        · refine lv_iload hx hb dX8_meet_176 (lv_at hl 2 rfl) ?_
                          refine lv_goto (tgt := 183) hx hb dX8_meet_178 (by decide) ?_
                          exact j_iret hC hB dX8_meet_183 (⟨by have hm8 : meeF f (lsF (I 41) (lsF (I 41) (I 43) (I 44) mm (nI 0) cc nd).1 (lsF (I 41) (I 43) (I 44) mm (nI 0) cc nd).2 oo (nI 0) co nd).1 = meeF (lsZ (I 41) mm (nI 0) cc nd).1 (lsZ (I 41) oo (nI 0) co nd).1 := meeF_cong (fun j hj => by rw [hf]; show (if j < k then _ else _) = _; rw [if_pos (by omega)]; exact ((lsF_Z hW (I 43) (I 44) mm (nI 0) cc) j hj).1) (fun j hj => ((lsF_Z hW (lsF (I 41) (I 43) (I 44) mm (nI 0) cc nd).1 (lsF (I 41) (I 43) (I 44) mm (nI 0) cc nd).2 oo (nI 0) co) j hj).1); have hbl : (best, least) = meeF (lsZ (I 41) mm (nI 0) cc nd).1 (lsZ (I 41) oo (nI 0) co nd).1 := (by rw [hs, show x = 8 by omega]; exact hm8); simp [meeA, ← hbl, nIq (show mm < 2147483648 by omega) (show oo < 2147483648 by omega), nIq (show ww < 2147483648 by omega) (show 0 < 2147483648 by decide), nIc (show oo < 2147483648 by omega), nIc (show co < 2147483648 by omega), eco, tN, ceF, nIc (show mm < 2147483648 by omega), nIc (show cc < 2147483648 by omega), ecc, c_5, c_13, c_18, c_28, c_169, eq_true c_173], ⟨SM.sr (SM.sr (SM_40 (SM.sr (SM.rf) scr47) (rfl) (rfl)) scr43) scr44, SMJ.rf, rfl⟩⟩)
                    · refine lv_aload_n hx hb dX8_meet_91 rfl (lv_at hl 3 rfl) ?_
                      refine j_get (20, 0, 0) 8 (v := .ref (G.2.2.1 (21, 47, 0))) hC hB in_X8 lk_28 dX8_meet_92 jk20 rfl rfl (by decide) rfl ?_
                      refine lv_iload hx hb dX8_meet_95 (lv_at hl 0 rfl) ?_
                      refine j_ild 47 x hC hB dX8_meet_97 (by decide) rfl (by simp only [lenI_47]; omega) ?_
                      refine j_eqi (x := (sr (sr (sr (sr I 47 (f)) 40 (upd (upd (I 40) 1 (nI 0)) 1 (nI 0))) 43 ((lsF (I 41) ((lsF (I 41) (I 43) (I 44) mm (nI 0) cc nd).1) ((lsF (I 41) (I 43) (I 44) mm (nI 0) cc nd).2) oo (nI 0) co nd).1)) 44 ((lsF (I 41) ((lsF (I 41) (I 43) (I 44) mm (nI 0) cc nd).1) ((lsF (I 41) (I 43) (I 44) mm (nI 0) cc nd).2) oo (nI 0) co nd).2)) 47 x) (y := f x) ((congrFun (sr_ne (show (47 : Nat) ≠ 44 by omega)) _).trans ((congrFun (sr_ne (show (47 : Nat) ≠ 43 by omega)) _).trans ((congrFun (sr_ne (show (47 : Nat) ≠ 40 by omega)) _).trans ((congrFun sr_self _))))) ?_
                      refine lv_aload_n hx hb dX8_meet_98 rfl (lv_at hl 3 rfl) ?_
                      refine j_get (20, 0, 0) 4 (v := .ref (G.2.2.1 (21, 43, 0))) hC hB in_X8 lk_16 dX8_meet_99 jk20 rfl rfl (by decide) rfl ?_
                      refine lv_iload hx hb dX8_meet_102 (lv_at hl 0 rfl) ?_
                      refine j_ild 43 x hC hB dX8_meet_104 (by decide) rfl (by simp only [lenI_43]; omega) ?_
                      refine j_eqi (x := (sr (sr (sr (sr I 47 (f)) 40 (upd (upd (I 40) 1 (nI 0)) 1 (nI 0))) 43 ((lsF (I 41) ((lsF (I 41) (I 43) (I 44) mm (nI 0) cc nd).1) ((lsF (I 41) (I 43) (I 44) mm (nI 0) cc nd).2) oo (nI 0) co nd).1)) 44 ((lsF (I 41) ((lsF (I 41) (I 43) (I 44) mm (nI 0) cc nd).1) ((lsF (I 41) (I 43) (I 44) mm (nI 0) cc nd).2) oo (nI 0) co nd).2)) 43 x) (y := ((lsF (I 41) ((lsF (I 41) (I 43) (I 44) mm (nI 0) cc nd).1) ((lsF (I 41) (I 43) (I 44) mm (nI 0) cc nd).2) oo (nI 0) co nd).1) x) ((congrFun (sr_ne (show (43 : Nat) ≠ 44 by omega)) _).trans ((congrFun sr_self _))) ?_
                      refine lv_icmp_le (tgt := 118) hx hb dX8_meet_105 (by decide) (fun c_105 => ?_) (fun c_105 => ?_)
                      · refine lv_aload_n hx hb dX8_meet_118 rfl (lv_at hl 3 rfl) ?_
                        refine j_get (20, 0, 0) 4 (v := .ref (G.2.2.1 (21, 43, 0))) hC hB in_X8 lk_16 dX8_meet_119 jk20 rfl rfl (by decide) rfl ?_
                        refine lv_iload hx hb dX8_meet_122 (lv_at hl 0 rfl) ?_
                        refine j_ild 43 x hC hB dX8_meet_124 (by decide) rfl (by simp only [lenI_43]; omega) ?_
                        refine j_eqi (x := (sr (sr (sr (sr I 47 (f)) 40 (upd (upd (I 40) 1 (nI 0)) 1 (nI 0))) 43 ((lsF (I 41) ((lsF (I 41) (I 43) (I 44) mm (nI 0) cc nd).1) ((lsF (I 41) (I 43) (I 44) mm (nI 0) cc nd).2) oo (nI 0) co nd).1)) 44 ((lsF (I 41) ((lsF (I 41) (I 43) (I 44) mm (nI 0) cc nd).1) ((lsF (I 41) (I 43) (I 44) mm (nI 0) cc nd).2) oo (nI 0) co nd).2)) 43 x) (y := ((lsF (I 41) ((lsF (I 41) (I 43) (I 44) mm (nI 0) cc nd).1) ((lsF (I 41) (I 43) (I 44) mm (nI 0) cc nd).2) oo (nI 0) co nd).1) x) ((congrFun (sr_ne (show (43 : Nat) ≠ 44 by omega)) _).trans ((congrFun sr_self _))) ?_
                        refine lv_istore (lv' := [(7, .int (((lsF (I 41) ((lsF (I 41) (I 43) (I 44) mm (nI 0) cc nd).1) ((lsF (I 41) (I 43) (I 44) mm (nI 0) cc nd).2) oo (nI 0) co nd).1) x)), (6, .int (nI x)), (5, .int least), (4, .int best), (0, .ref (G.2.2.1 (20, 0, 0))), (1, .int (nI mm)), (2, .int (nI oo)), (3, .int (nI ww))]) hx hb dX8_meet_125 hl (by decide) rfl (fun ls hl => ?_)
                        refine lv_iload hx hb dX8_meet_127 (lv_at hl 0 rfl) ?_
                        refine lv_iload hx hb dX8_meet_129 (lv_at hl 2 rfl) ?_
                        refine lv_icmp_ge (tgt := 139) hx hb dX8_meet_131 (by decide) (fun c_131 => ?_) (fun c_131 => ?_)
                        · refine lv_iload hx hb dX8_meet_139 (lv_at hl 3 rfl) ?_
                          refine lv_istore (lv' := [(4, .int best), (7, .int (((lsF (I 41) ((lsF (I 41) (I 43) (I 44) mm (nI 0) cc nd).1) ((lsF (I 41) (I 43) (I 44) mm (nI 0) cc nd).2) oo (nI 0) co nd).1) x)), (6, .int (nI x)), (5, .int least), (0, .ref (G.2.2.1 (20, 0, 0))), (1, .int (nI mm)), (2, .int (nI oo)), (3, .int (nI ww))]) hx hb dX8_meet_141 hl (by decide) rfl (fun ls hl => ?_)
                          refine lv_iload hx hb dX8_meet_143 (lv_at hl 1 rfl) ?_
                          refine lv_iload hx hb dX8_meet_145 (lv_at hl 3 rfl) ?_
                          refine lv_icmp_ge (tgt := 155) hx hb dX8_meet_147 (by decide) (fun c_147 => ?_) (fun c_147 => ?_)
                          · refine lv_iload hx hb dX8_meet_155 (lv_at hl 3 rfl) ?_
                            refine lv_istore (lv' := [(5, .int least), (4, .int best), (7, .int (((lsF (I 41) ((lsF (I 41) (I 43) (I 44) mm (nI 0) cc nd).1) ((lsF (I 41) (I 43) (I 44) mm (nI 0) cc nd).2) oo (nI 0) co nd).1) x)), (6, .int (nI x)), (0, .ref (G.2.2.1 (20, 0, 0))), (1, .int (nI mm)), (2, .int (nI oo)), (3, .int (nI ww))]) hx hb dX8_meet_157 hl (by decide) rfl (fun ls hl => ?_)
                            refine lv_iinc (v := nI (x + 1)) (lv' := [(6, .int (nI (x + 1))), (5, .int least), (4, .int best), (7, .int (((lsF (I 41) ((lsF (I 41) (I 43) (I 44) mm (nI 0) cc nd).1) ((lsF (I 41) (I 43) (I 44) mm (nI 0) cc nd).2) oo (nI 0) co nd).1) x)), (0, .ref (G.2.2.1 (20, 0, 0))), (1, .int (nI mm)), (2, .int (nI oo)), (3, .int (nI ww))]) hx hb dX8_meet_159 hl (k := 3) rfl (jn_inc _ 1) (by decide) rfl (fun ls hl => ?_)
                            refine lv_goto (tgt := 84) hx hb dX8_meet_162 (by decide) ?_
                            exact ih_84 best least (x + 1) (by omega) (by omega) (by show _ = meeS _ _ _ (it _ _ _); rw [← hs]; simp [meeS, mxI, c_105, c_131]) _ _ _ hB (lv_sub hl [0, 1, 2, 4, 5, 6, 7] rfl)
                          · exact absurd c_131 c_147
                        · refine lv_iload hx hb dX8_meet_134 (lv_at hl 1 rfl) ?_
                          refine lv_goto (tgt := 141) hx hb dX8_meet_136 (by decide) ?_
                          refine lv_istore (lv' := [(4, .int (nI x)), (7, .int (((lsF (I 41) ((lsF (I 41) (I 43) (I 44) mm (nI 0) cc nd).1) ((lsF (I 41) (I 43) (I 44) mm (nI 0) cc nd).2) oo (nI 0) co nd).1) x)), (6, .int (nI x)), (5, .int least), (0, .ref (G.2.2.1 (20, 0, 0))), (1, .int (nI mm)), (2, .int (nI oo)), (3, .int (nI ww))]) hx hb dX8_meet_141 hl (by decide) rfl (fun ls hl => ?_)
                          refine lv_iload hx hb dX8_meet_143 (lv_at hl 1 rfl) ?_
                          refine lv_iload hx hb dX8_meet_145 (lv_at hl 3 rfl) ?_
                          refine lv_icmp_ge (tgt := 155) hx hb dX8_meet_147 (by decide) (fun c_147 => ?_) (fun c_147 => ?_)
                          · exact absurd c_147 c_131
                          · refine lv_iload hx hb dX8_meet_150 (lv_at hl 1 rfl) ?_
                            refine lv_goto (tgt := 157) hx hb dX8_meet_152 (by decide) ?_
                            refine lv_istore (lv' := [(5, .int (((lsF (I 41) ((lsF (I 41) (I 43) (I 44) mm (nI 0) cc nd).1) ((lsF (I 41) (I 43) (I 44) mm (nI 0) cc nd).2) oo (nI 0) co nd).1) x)), (4, .int (nI x)), (7, .int (((lsF (I 41) ((lsF (I 41) (I 43) (I 44) mm (nI 0) cc nd).1) ((lsF (I 41) (I 43) (I 44) mm (nI 0) cc nd).2) oo (nI 0) co nd).1) x)), (6, .int (nI x)), (0, .ref (G.2.2.1 (20, 0, 0))), (1, .int (nI mm)), (2, .int (nI oo)), (3, .int (nI ww))]) hx hb dX8_meet_157 hl (by decide) rfl (fun ls hl => ?_)
                            refine lv_iinc (v := nI (x + 1)) (lv' := [(6, .int (nI (x + 1))), (5, .int (((lsF (I 41) ((lsF (I 41) (I 43) (I 44) mm (nI 0) cc nd).1) ((lsF (I 41) (I 43) (I 44) mm (nI 0) cc nd).2) oo (nI 0) co nd).1) x)), (4, .int (nI x)), (7, .int (((lsF (I 41) ((lsF (I 41) (I 43) (I 44) mm (nI 0) cc nd).1) ((lsF (I 41) (I 43) (I 44) mm (nI 0) cc nd).2) oo (nI 0) co nd).1) x)), (0, .ref (G.2.2.1 (20, 0, 0))), (1, .int (nI mm)), (2, .int (nI oo)), (3, .int (nI ww))]) hx hb dX8_meet_159 hl (k := 3) rfl (jn_inc _ 1) (by decide) rfl (fun ls hl => ?_)
                            refine lv_goto (tgt := 84) hx hb dX8_meet_162 (by decide) ?_
                            exact ih_84 (nI x) (((lsF (I 41) ((lsF (I 41) (I 43) (I 44) mm (nI 0) cc nd).1) ((lsF (I 41) (I 43) (I 44) mm (nI 0) cc nd).2) oo (nI 0) co nd).1) x) (x + 1) (by omega) (by omega) (by show _ = meeS _ _ _ (it _ _ _); rw [← hs]; simp [meeS, mxI, c_105, c_131]) _ _ _ hB (lv_sub hl [0, 1, 2, 4, 5, 6, 7] rfl)
                      · refine lv_aload_n hx hb dX8_meet_108 rfl (lv_at hl 3 rfl) ?_
                        refine j_get (20, 0, 0) 8 (v := .ref (G.2.2.1 (21, 47, 0))) hC hB in_X8 lk_28 dX8_meet_109 jk20 rfl rfl (by decide) rfl ?_
                        refine lv_iload hx hb dX8_meet_112 (lv_at hl 0 rfl) ?_
                        refine j_ild 47 x hC hB dX8_meet_114 (by decide) rfl (by simp only [lenI_47]; omega) ?_
                        refine j_eqi (x := (sr (sr (sr (sr I 47 (f)) 40 (upd (upd (I 40) 1 (nI 0)) 1 (nI 0))) 43 ((lsF (I 41) ((lsF (I 41) (I 43) (I 44) mm (nI 0) cc nd).1) ((lsF (I 41) (I 43) (I 44) mm (nI 0) cc nd).2) oo (nI 0) co nd).1)) 44 ((lsF (I 41) ((lsF (I 41) (I 43) (I 44) mm (nI 0) cc nd).1) ((lsF (I 41) (I 43) (I 44) mm (nI 0) cc nd).2) oo (nI 0) co nd).2)) 47 x) (y := f x) ((congrFun (sr_ne (show (47 : Nat) ≠ 44 by omega)) _).trans ((congrFun (sr_ne (show (47 : Nat) ≠ 43 by omega)) _).trans ((congrFun (sr_ne (show (47 : Nat) ≠ 40 by omega)) _).trans ((congrFun sr_self _))))) ?_
                        refine lv_goto (tgt := 125) hx hb dX8_meet_115 (by decide) ?_
                        refine lv_istore (lv' := [(7, .int (f x)), (6, .int (nI x)), (5, .int least), (4, .int best), (0, .ref (G.2.2.1 (20, 0, 0))), (1, .int (nI mm)), (2, .int (nI oo)), (3, .int (nI ww))]) hx hb dX8_meet_125 hl (by decide) rfl (fun ls hl => ?_)
                        refine lv_iload hx hb dX8_meet_127 (lv_at hl 0 rfl) ?_
                        refine lv_iload hx hb dX8_meet_129 (lv_at hl 2 rfl) ?_
                        refine lv_icmp_ge (tgt := 139) hx hb dX8_meet_131 (by decide) (fun c_131 => ?_) (fun c_131 => ?_)
                        · refine lv_iload hx hb dX8_meet_139 (lv_at hl 3 rfl) ?_
                          refine lv_istore (lv' := [(4, .int best), (7, .int (f x)), (6, .int (nI x)), (5, .int least), (0, .ref (G.2.2.1 (20, 0, 0))), (1, .int (nI mm)), (2, .int (nI oo)), (3, .int (nI ww))]) hx hb dX8_meet_141 hl (by decide) rfl (fun ls hl => ?_)
                          refine lv_iload hx hb dX8_meet_143 (lv_at hl 1 rfl) ?_
                          refine lv_iload hx hb dX8_meet_145 (lv_at hl 3 rfl) ?_
                          refine lv_icmp_ge (tgt := 155) hx hb dX8_meet_147 (by decide) (fun c_147 => ?_) (fun c_147 => ?_)
                          · refine lv_iload hx hb dX8_meet_155 (lv_at hl 3 rfl) ?_
                            refine lv_istore (lv' := [(5, .int least), (4, .int best), (7, .int (f x)), (6, .int (nI x)), (0, .ref (G.2.2.1 (20, 0, 0))), (1, .int (nI mm)), (2, .int (nI oo)), (3, .int (nI ww))]) hx hb dX8_meet_157 hl (by decide) rfl (fun ls hl => ?_)
                            refine lv_iinc (v := nI (x + 1)) (lv' := [(6, .int (nI (x + 1))), (5, .int least), (4, .int best), (7, .int (f x)), (0, .ref (G.2.2.1 (20, 0, 0))), (1, .int (nI mm)), (2, .int (nI oo)), (3, .int (nI ww))]) hx hb dX8_meet_159 hl (k := 3) rfl (jn_inc _ 1) (by decide) rfl (fun ls hl => ?_)
                            refine lv_goto (tgt := 84) hx hb dX8_meet_162 (by decide) ?_
                            exact ih_84 best least (x + 1) (by omega) (by omega) (by show _ = meeS _ _ _ (it _ _ _); rw [← hs]; simp [meeS, mxI, c_105, c_131]) _ _ _ hB (lv_sub hl [0, 1, 2, 4, 5, 6, 7] rfl)
                          · exact absurd c_131 c_147
                        · refine lv_iload hx hb dX8_meet_134 (lv_at hl 1 rfl) ?_
                          refine lv_goto (tgt := 141) hx hb dX8_meet_136 (by decide) ?_
                          refine lv_istore (lv' := [(4, .int (nI x)), (7, .int (f x)), (6, .int (nI x)), (5, .int least), (0, .ref (G.2.2.1 (20, 0, 0))), (1, .int (nI mm)), (2, .int (nI oo)), (3, .int (nI ww))]) hx hb dX8_meet_141 hl (by decide) rfl (fun ls hl => ?_)
                          refine lv_iload hx hb dX8_meet_143 (lv_at hl 1 rfl) ?_
                          refine lv_iload hx hb dX8_meet_145 (lv_at hl 3 rfl) ?_
                          refine lv_icmp_ge (tgt := 155) hx hb dX8_meet_147 (by decide) (fun c_147 => ?_) (fun c_147 => ?_)
                          · exact absurd c_147 c_131
                          · refine lv_iload hx hb dX8_meet_150 (lv_at hl 1 rfl) ?_
                            refine lv_goto (tgt := 157) hx hb dX8_meet_152 (by decide) ?_
                            refine lv_istore (lv' := [(5, .int (f x)), (4, .int (nI x)), (7, .int (f x)), (6, .int (nI x)), (0, .ref (G.2.2.1 (20, 0, 0))), (1, .int (nI mm)), (2, .int (nI oo)), (3, .int (nI ww))]) hx hb dX8_meet_157 hl (by decide) rfl (fun ls hl => ?_)
                            refine lv_iinc (v := nI (x + 1)) (lv' := [(6, .int (nI (x + 1))), (5, .int (f x)), (4, .int (nI x)), (7, .int (f x)), (0, .ref (G.2.2.1 (20, 0, 0))), (1, .int (nI mm)), (2, .int (nI oo)), (3, .int (nI ww))]) hx hb dX8_meet_159 hl (k := 3) rfl (jn_inc _ 1) (by decide) rfl (fun ls hl => ?_)
                            refine lv_goto (tgt := 84) hx hb dX8_meet_162 (by decide) ?_
                            exact ih_84 (nI x) (f x) (x + 1) (by omega) (by omega) (by show _ = meeS _ _ _ (it _ _ _); rw [← hs]; simp [meeS, mxI, c_105, c_131]) _ _ _ hB (lv_sub hl [0, 1, 2, 4, 5, 6, 7] rfl)
                exact lp_84 _ ((-4 : Int32)) (nI 1000000) 0 (Nat.lt_succ_self _) (by omega) (rfl) _ _ _ hB (lv_sub hl [0, 1, 2, 3, 4, 5, 6] rfl)
              · refine lv_aload_n hx hb dX8_meet_48 rfl (lv_at hl 1 rfl) ?_
                refine j_get (20, 0, 0) 8 (v := .ref (G.2.2.1 (21, 47, 0))) hC hB in_X8 lk_28 dX8_meet_49 jk20 rfl rfl (by decide) rfl ?_
                refine lv_iload hx hb dX8_meet_52 (lv_at hl 0 rfl) ?_
                refine lv_aload_n hx hb dX8_meet_54 rfl (lv_at hl 1 rfl) ?_
                refine j_get (20, 0, 0) 4 (v := .ref (G.2.2.1 (21, 43, 0))) hC hB in_X8 lk_16 dX8_meet_55 jk20 rfl rfl (by decide) rfl ?_
                refine lv_iload hx hb dX8_meet_58 (lv_at hl 0 rfl) ?_
                refine j_ild 43 k hC hB dX8_meet_60 (by decide) rfl (by simp only [lenI_43]; omega) ?_
                refine j_eqi (x := (sr (sr (sr (sr I 40 (upd (I 40) 1 (nI 0))) 43 ((lsF (I 41) (I 43) (I 44) mm (nI 0) cc nd).1)) 44 ((lsF (I 41) (I 43) (I 44) mm (nI 0) cc nd).2)) 47 (f)) 43 k) (y := ((lsF (I 41) (I 43) (I 44) mm (nI 0) cc nd).1) k) ((congrFun (sr_ne (show (43 : Nat) ≠ 47 by omega)) _).trans ((congrFun (sr_ne (show (43 : Nat) ≠ 44 by omega)) _).trans ((congrFun sr_self _)))) ?_
                refine j_ist 47 k hC hB dX8_meet_61 (by decide) rfl (by simp only [lenI_47]; omega) (fun H locs hB => ?_)
                have hB : jB G A s_.heap (sr (sr (sr (sr I 40 (upd (I 40) 1 (nI 0))) 43 ((lsF (I 41) (I 43) (I 44) mm (nI 0) cc nd).1)) 44 ((lsF (I 41) (I 43) (I 44) mm (nI 0) cc nd).2)) 47 (upd (f) k (((lsF (I 41) (I 43) (I 44) mm (nI 0) cc nd).1) k)), J, O) H locs := by rw [show sr (sr (sr (sr I 40 (upd (I 40) 1 (nI 0))) 43 ((lsF (I 41) (I 43) (I 44) mm (nI 0) cc nd).1)) 44 ((lsF (I 41) (I 43) (I 44) mm (nI 0) cc nd).2)) 47 (upd (f) k (((lsF (I 41) (I 43) (I 44) mm (nI 0) cc nd).1) k)) = u2 (sr (sr (sr (sr I 40 (upd (I 40) 1 (nI 0))) 43 ((lsF (I 41) (I 43) (I 44) mm (nI 0) cc nd).1)) 44 ((lsF (I 41) (I 43) (I 44) mm (nI 0) cc nd).2)) 47 (f)) 47 k (((lsF (I 41) (I 43) (I 44) mm (nI 0) cc nd).1) k) from (u2_sr _ _ _ _ _).symm]; exact hB
                refine lv_iinc (v := nI (k + 1)) (lv' := [(4, .int (nI (k + 1))), (0, .ref (G.2.2.1 (20, 0, 0))), (1, .int (nI mm)), (2, .int (nI oo)), (3, .int (nI ww))]) hx hb dX8_meet_62 hl (k := 0) rfl (jn_inc _ 1) (by decide) rfl (fun ls hl => ?_)
                refine lv_goto (tgt := 41) hx hb dX8_meet_65 (by decide) ?_
                exact ih_41 (upd (f) k (((lsF (I 41) (I 43) (I 44) mm (nI 0) cc nd).1) k)) (k + 1) (by omega) (by omega) (by rw [hf]; exact cpR_step _ _ _) _ _ _ (jB_cast2 hB (by first | rfl | exact (sr_id _ _).symm | exact (srJ_id _ _).symm | (funext a; simp +decide only [sr, srJ]; (repeat' split) <;> first | rfl | (exfalso; omega) | (subst_vars; rfl))) (by first | rfl | exact (sr_id _ _).symm | exact (srJ_id _ _).symm | (funext a; simp +decide only [sr, srJ]; (repeat' split) <;> first | rfl | (exfalso; omega) | (subst_vars; rfl)))) (lv_sub hl [0, 1, 2, 3, 4] rfl)
          exact lp_41 _ (I 47) 0 (Nat.lt_succ_self _) (by omega) ((cpR_0 _ _).symm) _ _ _ (jB_cast2 hB (by first | rfl | exact (sr_id _ _).symm | exact (srJ_id _ _).symm | (funext a; simp +decide only [sr, srJ]; (repeat' split) <;> first | rfl | (exfalso; omega) | (subst_vars; rfl))) (by first | rfl | exact (sr_id _ _).symm | exact (srJ_id _ _).symm | (funext a; simp +decide only [sr, srJ]; (repeat' split) <;> first | rfl | (exfalso; omega) | (subst_vars; rfl)))) (lv_sub hl [0, 1, 2, 3, 4] rfl)
        · refine lv_iconst (v := (-1 : Int32)) hx hb dX8_meet_31 (by decide) ?_
          exact j_iret hC hB dX8_meet_32 (⟨by simp [meeA, c_5, c_13, c_18, c_28, nIq (show mm < 2147483648 by omega) (show oo < 2147483648 by omega)], ⟨SM.rf, SMJ.rf, rfl⟩⟩)

set_option maxHeartbeats 4000000 in
set_option maxRecDepth 100000 in
theorem c_X8_wit (l_ : Launch) (G : jG) (I : Nat → Nat → Int32) (J : Nat → Nat → Int64) (O : Nat → Nat → Nat) (man cell : Int32) {nd : Nat} (hnd : nd ≤ 10) (hD : I 41 0 = nI nd) {nm : Nat} (hnm : nm ≤ 4) (hM : I 41 1 = nI nm) (hW : wfD (I 41) nd) (hWc : ∀ m, m < nm → ∃ c, c < 8 ∧ I 41 (51 + m) = nI c) : jMi l_ G yX8_wit wsX8_wit ({ frames := 5, cells := 0, slots := 0, locals := 122 }) [.ref (G.2.2.1 (20, 0, 0)), .int man, .int cell] (I, J, O) (fun r u => r = witA (I 41) nd nm man cell ∧ SMs (I, J, O) u) := by
  refine jMi_of (cc := cX8_wit) (maxL := 6) (ret := (some .int)) (lv0 := [(0, .ref (G.2.2.1 (20, 0, 0))), (1, .int man), (2, .int cell)]) (by decide) rfl (Nat.le_of_ble_eq_true rfl) rfl ?_
  intro pg_ ev_ s_ mi_ below meth cd_ A ls hC hB hl
  obtain ⟨hx, hb, hr, hml, hown, hts, hlocks, hK, hA⟩ := id hC
  have lk_7 := hts (.fieldLink RX8 7 "RiddlePrisonModel" "now" "[I") (by decide +kernel)
  have in_X8 := (fun w h => List.mem_cons_of_mem _ (List.mem_append_right _ h) : ∀ w ∈ wsX80, w ∈ wsX8_wit)
  refine lv_aload_n hx hb dX8_wit_0 rfl (lv_at hl 0 rfl) ?_
  refine lv_iload_n hx hb dX8_wit_1 rfl (lv_at hl 1 rfl) ?_
  refine j_cvi (20, 0, 0) [.int man] hC hB hl.1 (c_X8_isMan l_ G I J O man (by omega) (hM)) (cwV 1 hts gX8_wit_X8_isMan rfl rfl rfl (by decide +kernel) ⟨by decide, by decide⟩) dX8_wit_2 jk20 rfl rfl rfl rfl (Nat.le_of_ble_eq_true rfl) (fun r_2 u_2 H locs hp_2 hB => ?_)
  obtain ⟨rfl, rfl⟩ := hp_2
  refine jb_if_eq (tgt := 15) hx hb dX8_wit_5 (by decide) (fun c_5 => ?_) (fun c_5 => ?_)
  · refine lv_iconst (v := (-1 : Int32)) hx hb dX8_wit_15 (by decide) ?_
    exact j_iret hC hB dX8_wit_16 (⟨by simp [witA, c_5], ⟨SM.rf, SMJ.rf, rfl⟩⟩)
  · obtain ⟨mm, hmm, rfl⟩ := isB_nat c_5 (by omega)
    obtain ⟨cc, hcc, ecc⟩ := hWc mm hmm
    refine lv_iload_n hx hb dX8_wit_8 rfl (lv_at hl 2 rfl) ?_
    refine j_csi [.int cell] hC hB hl.1 (c_X8_isCell l_ G I J O cell) (va_cwS 1 hts gX8_wit_X8_isCell rfl rfl rfl (by decide +kernel) ⟨by decide, by decide⟩) dX8_wit_9 rfl rfl (Nat.le_of_ble_eq_true rfl) (fun r_9 u_9 H locs hp_9 hB => ?_)
    obtain ⟨rfl, rfl⟩ := hp_9
    refine jb_if_ne (tgt := 17) hx hb dX8_wit_12 (by decide) (fun c_12 => ?_) (fun c_12 => ?_)
    · obtain ⟨xx, hxx, rfl⟩ := isB_nat c_12 (by omega)
      refine lv_aload_n hx hb dX8_wit_17 rfl (lv_at hl 0 rfl) ?_
      refine j_get (20, 0, 0) 0 (v := .ref (G.2.2.1 (21, 41, 0))) hC hB in_X8 lk_7 dX8_wit_18 jk20 rfl rfl (by decide) rfl ?_
      refine lv_bipush (v := nI 63) hx hb dX8_wit_21 (by decide) ?_
      refine lv_iload_n hx hb dX8_wit_23 rfl (lv_at hl 1 rfl) ?_
      refine jn_iadd hx hb dX8_wit_24 ?_
      refine j_ild 41 (63 + mm) hC hB dX8_wit_25 (by decide) rfl (by simp only [lenI_41]; omega) ?_
      refine j_eqi (y := (I 41) (63 + mm)) rfl ?_
      refine lv_istore_n (lv' := [(3, .int ((I 41) (63 + mm))), (0, .ref (G.2.2.1 (20, 0, 0))), (1, .int (nI mm)), (2, .int (nI xx))]) hx hb dX8_wit_26 rfl hl (by decide) rfl (fun ls hl => ?_)
      refine lv_bipush (v := (-4 : Int32)) hx hb dX8_wit_27 (by decide) ?_
      refine lv_istore (lv' := [(4, .int ((-4 : Int32))), (3, .int ((I 41) (63 + mm))), (0, .ref (G.2.2.1 (20, 0, 0))), (1, .int (nI mm)), (2, .int (nI xx))]) hx hb dX8_wit_29 hl (by decide) rfl (fun ls hl => ?_)
      refine lv_bipush (v := nI 9) hx hb dX8_wit_31 (by decide) ?_
      refine lv_istore (lv' := [(5, .int (nI 9)), (4, .int ((-4 : Int32))), (3, .int ((I 41) (63 + mm))), (0, .ref (G.2.2.1 (20, 0, 0))), (1, .int (nI mm)), (2, .int (nI xx))]) hx hb dX8_wit_33 hl (by decide) rfl (fun ls hl => ?_)
      have lp_35 : ∀ (fu : Nat) (f : Nat → Int32) (a : Nat → Int32) (b : Nat → Int32) (c : Nat → Int32) (least : Int32) (k : Nat) (x : Int32), k < fu → (a 0 = I 40 0) → (a 2 = I 40 2) → (k ≤ 10) → (f = upd (I 41) (63 + mm) x) → (least = it (witS (I 41) mm cc nd xx) (10 - k) (-4)) → ∀ H locs ls, jB G A s_.heap (sr (sr (sr (sr I 41 (f)) 40 (a)) 43 (b)) 44 (c), J, O) H locs → lv_has ls 6 [(5, .int (nI k + (-1 : Int32))), (4, .int least), (3, .int ((I 41) (63 + mm))), (0, .ref (G.2.2.1 (20, 0, 0))), (1, .int (nI mm)), (2, .int (nI xx))] → W pg_ l_ ev_ ({ frames := 5, cells := 0, slots := 0, locals := 122 }) s_ mi_ ([.ref (G.2.2.1 (20, 0, 0)), .int (nI mm), .int (nI xx)]).toArray below meth cd_ H locs 0 0 (jQi G A below [.ref (G.2.2.1 (20, 0, 0)), .int (nI mm), .int (nI xx)] s_ (fun r u => r = witA (I 41) nd nm (nI mm) (nI xx) ∧ SMs (I, J, O) u)) (F0 mi_ 35 ls []) := by
        intro fu
        induction fu with
        | zero => intro f a b c least k x hf; exact absurd hf (Nat.not_lt_zero _)
        | succ fu ih_35 =>
          intro f a b c least k x hf_35 ha0 ha2 hk hf hs H locs ls hB hl
          refine lv_iload hx hb dX8_wit_35 (lv_at hl 0 rfl) ?_
          refine lv_if_lt (tgt := 76) hx hb dX8_wit_37 (by decide) (fun c_37 => ?_) (fun c_37 => ?_)
          · refine lv_aload_n hx hb dX8_wit_76 rfl (lv_at hl 3 rfl) ?_
            refine j_get (20, 0, 0) 0 (v := .ref (G.2.2.1 (21, 41, 0))) hC hB in_X8 lk_7 dX8_wit_77 jk20 rfl rfl (by decide) rfl ?_
            refine lv_bipush (v := nI 63) hx hb dX8_wit_80 (by decide) ?_
            refine lv_iload_n hx hb dX8_wit_82 rfl (lv_at hl 4 rfl) ?_
            refine jn_iadd hx hb dX8_wit_83 ?_
            refine lv_iload_n hx hb dX8_wit_84 rfl (lv_at hl 2 rfl) ?_
            refine j_ist 41 (63 + mm) hC hB dX8_wit_85 (by decide) rfl (by simp only [lenI_41]; omega) (fun H locs hB => ?_)
            have hB : jB G A s_.heap (sr (sr (sr (sr I 40 (a)) 43 (b)) 44 (c)) 41 (upd (f) (63 + mm) ((I 41) (63 + mm))), J, O) H locs := by rw [show sr (sr (sr (sr I 40 (a)) 43 (b)) 44 (c)) 41 (upd (f) (63 + mm) ((I 41) (63 + mm))) = u2 (sr (sr (sr (sr I 41 (f)) 40 (a)) 43 (b)) 44 (c)) 41 (63 + mm) ((I 41) (63 + mm)) from by (rw [u2_eq, show (sr (sr (sr (sr I 41 (f)) 40 (a)) 43 (b)) 44 (c)) 41 = f from (sr_ne (show (41 : Nat) ≠ 44 by omega)).trans ((sr_ne (show (41 : Nat) ≠ 43 by omega)).trans ((sr_ne (show (41 : Nat) ≠ 40 by omega)).trans (sr_self)))]; funext a_; by_cases ha_ : a_ = 41; (rw [ha_, sr_self, sr_self]); (rw [sr_ne ha_, sr_ne ha_]; simp only [sr, if_neg ha_]))]; exact hB
            refine lv_iload hx hb dX8_wit_86 (lv_at hl 1 rfl) ?_
            exact j_iret hC hB dX8_wit_88 (⟨by rw [hs, k_neg hk c_37]; simp [witA, tN, ceF, nIc (show mm < 2147483648 by omega), nIc (show cc < 2147483648 by omega), ecc, nIc (show xx < 2147483648 by omega), c_5, c_12], ⟨SM_41 (SM.sr (SM.sr (SM_40 (SM.rf) (ha0) (ha2)) scr43) scr44) (by rw [hf, upd_upd]; exact upd_same _ _), SMJ.rf, rfl⟩⟩)
          · have hk1 := k_pos c_37
            rw [show nI k + (-1 : Int32) = nI (k - 1) from sb_m1 hk1] at hl
            have hf0 : f 0 = nI nd := by rw [hf]; exact (pk_un (by omega)).trans hD
            have hfc : f (51 + mm) = nI cc := by rw [hf]; exact (pk_un (by omega)).trans ecc
            have hfW : wfD f nd := by rw [hf]; exact wfD_upd hW hnd (by omega)
            refine lv_aload_n hx hb dX8_wit_40 rfl (lv_at hl 3 rfl) ?_
            refine j_get (20, 0, 0) 0 (v := .ref (G.2.2.1 (21, 41, 0))) hC hB in_X8 lk_7 dX8_wit_41 jk20 rfl rfl (by decide) rfl ?_
            refine lv_bipush (v := nI 63) hx hb dX8_wit_44 (by decide) ?_
            refine lv_iload_n hx hb dX8_wit_46 rfl (lv_at hl 4 rfl) ?_
            refine jn_iadd hx hb dX8_wit_47 ?_
            refine lv_iload hx hb dX8_wit_48 (lv_at hl 0 rfl) ?_
            refine j_ist 41 (63 + mm) hC hB dX8_wit_50 (by decide) rfl (by simp only [lenI_41]; omega) (fun H locs hB => ?_)
            have hB : jB G A s_.heap (sr (sr (sr (sr I 40 (a)) 43 (b)) 44 (c)) 41 (upd (f) (63 + mm) (nI (k - 1))), J, O) H locs := by rw [show sr (sr (sr (sr I 40 (a)) 43 (b)) 44 (c)) 41 (upd (f) (63 + mm) (nI (k - 1))) = u2 (sr (sr (sr (sr I 41 (f)) 40 (a)) 43 (b)) 44 (c)) 41 (63 + mm) (nI (k - 1)) from by (rw [u2_eq, show (sr (sr (sr (sr I 41 (f)) 40 (a)) 43 (b)) 44 (c)) 41 = f from (sr_ne (show (41 : Nat) ≠ 44 by omega)).trans ((sr_ne (show (41 : Nat) ≠ 43 by omega)).trans ((sr_ne (show (41 : Nat) ≠ 40 by omega)).trans (sr_self)))]; funext a_; by_cases ha_ : a_ = 41; (rw [ha_, sr_self, sr_self]); (rw [sr_ne ha_, sr_ne ha_]; simp only [sr, if_neg ha_]))]; exact hB
            refine lv_aload_n hx hb dX8_wit_51 rfl (lv_at hl 3 rfl) ?_
            refine lv_iload_n hx hb dX8_wit_52 rfl (lv_at hl 4 rfl) ?_
            refine lv_iload_n hx hb dX8_wit_53 rfl (lv_at hl 5 rfl) ?_
            refine lv_iconst (v := nI 0) hx hb dX8_wit_54 (by decide) ?_
            refine j_cvi (20, 0, 0) [.int (nI mm), .int (nI xx), .int (nI 0)] hC hB hl.1 (c_X8_reachesBut l_ G (sr (sr (sr (sr I 40 (a)) 43 (b)) 44 (c)) 41 (upd (f) (63 + mm) (nI (k - 1)))) J O mm xx (nI 0) (by omega) (by omega) (by omega) ((congrFun sr_self _).trans ((pk_un (show (51 + mm : Nat) ≠ 63 + mm by omega)).trans (hfc))) (by omega) ((congrFun sr_self _).trans ((pk_un (show (0 : Nat) ≠ 63 + mm by omega)).trans (hf0))) (wfD_upd hfW hnd (by omega))) (cwV 3 hts gX8_wit_X8_reachesBut rfl rfl rfl (by decide +kernel) ⟨by decide, by decide⟩) dX8_wit_55 jk20 rfl rfl rfl rfl (Nat.le_of_ble_eq_true rfl) (fun r_55 u_55 H locs hp_55 hB => ?_)
            obtain ⟨rfl, rfl⟩ := hp_55
            have hB : jB G A s_.heap (sr (sr (sr (sr I 41 (upd (f) (63 + mm) (nI (k - 1)))) 40 (upd (a) 1 (nI 0))) 43 ((lsF (upd (f) (63 + mm) (nI (k - 1))) (b) (c) mm (nI 0) cc nd).1)) 44 ((lsF (upd (f) (63 + mm) (nI (k - 1))) (b) (c) mm (nI 0) cc nd).2), J, O) H locs := by rw [show sr (sr (sr (sr I 41 (upd (f) (63 + mm) (nI (k - 1)))) 40 (upd (a) 1 (nI 0))) 43 ((lsF (upd (f) (63 + mm) (nI (k - 1))) (b) (c) mm (nI 0) cc nd).1)) 44 ((lsF (upd (f) (63 + mm) (nI (k - 1))) (b) (c) mm (nI 0) cc nd).2) = sr (sr (sr (sr (sr (sr (sr I 40 (a)) 43 (b)) 44 (c)) 41 (upd (f) (63 + mm) (nI (k - 1)))) 40 (upd (a) 1 (nI 0))) 43 ((lsF (upd (f) (63 + mm) (nI (k - 1))) (b) (c) mm (nI 0) cc nd).1)) 44 ((lsF (upd (f) (63 + mm) (nI (k - 1))) (b) (c) mm (nI 0) cc nd).2) from by funext a; simp +decide only [sr]; (repeat' split) <;> first | rfl | (exfalso; omega) | (subst_vars; rfl)]; exact hB
            refine j_eqi (y := b2 (rbB (upd (f) (63 + mm) (nI (k - 1))) mm (nI 0) cc nd xx)) rfl ?_
            refine jb_if_eq (tgt := 66) hx hb dX8_wit_58 (by decide) (fun c_58 => ?_) (fun c_58 => ?_)
            · refine lv_iload hx hb dX8_wit_66 (lv_at hl 1 rfl) ?_
              refine lv_istore (lv' := [(4, .int least), (5, .int (nI (k - 1))), (3, .int ((I 41) (63 + mm))), (0, .ref (G.2.2.1 (20, 0, 0))), (1, .int (nI mm)), (2, .int (nI xx))]) hx hb dX8_wit_68 hl (by decide) rfl (fun ls hl => ?_)
              refine lv_iinc (v := (nI (k - 1)) + (-1 : Int32)) (lv' := [(5, .int ((nI (k - 1)) + (-1 : Int32))), (4, .int least), (3, .int ((I 41) (63 + mm))), (0, .ref (G.2.2.1 (20, 0, 0))), (1, .int (nI mm)), (2, .int (nI xx))]) hx hb dX8_wit_70 hl (k := 1) rfl rfl (by decide) rfl (fun ls hl => ?_)
              refine lv_goto (tgt := 35) hx hb dX8_wit_73 (by decide) ?_
              exact ih_35 (upd (f) (63 + mm) (nI (k - 1))) (upd (a) 1 (nI 0)) ((lsF (upd (f) (63 + mm) (nI (k - 1))) (b) (c) mm (nI 0) cc nd).1) ((lsF (upd (f) (63 + mm) (nI (k - 1))) (b) (c) mm (nI 0) cc nd).2) least (k - 1) (nI (k - 1)) (by omega) ((pk_un (by decide)).trans ha0) ((pk_un (by decide)).trans ha2) (by omega) (by rw [hf, upd_upd]) (by rw [hf, upd_upd] at c_58; rw [show 10 - (k - 1) = (10 - k) + 1 by omega]; show _ = witS _ _ _ _ _ _ (it _ _ _); rw [← hs]; simp [witS, show 9 - (10 - k) = k - 1 by omega, c_58]) _ _ _ (jB_cast2 hB (by first | rfl | exact (sr_id _ _).symm | exact (srJ_id _ _).symm | (funext a; simp +decide only [sr, srJ]; (repeat' split) <;> first | rfl | (exfalso; omega) | (subst_vars; rfl))) (by first | rfl | exact (sr_id _ _).symm | exact (srJ_id _ _).symm | (funext a; simp +decide only [sr, srJ]; (repeat' split) <;> first | rfl | (exfalso; omega) | (subst_vars; rfl)))) (lv_sub hl [0, 1, 2, 3, 4, 5] rfl)
            · refine lv_iload hx hb dX8_wit_61 (lv_at hl 0 rfl) ?_
              refine lv_goto (tgt := 68) hx hb dX8_wit_63 (by decide) ?_
              refine lv_istore (lv' := [(4, .int (nI (k - 1))), (5, .int (nI (k - 1))), (3, .int ((I 41) (63 + mm))), (0, .ref (G.2.2.1 (20, 0, 0))), (1, .int (nI mm)), (2, .int (nI xx))]) hx hb dX8_wit_68 hl (by decide) rfl (fun ls hl => ?_)
              refine lv_iinc (v := (nI (k - 1)) + (-1 : Int32)) (lv' := [(5, .int ((nI (k - 1)) + (-1 : Int32))), (4, .int (nI (k - 1))), (3, .int ((I 41) (63 + mm))), (0, .ref (G.2.2.1 (20, 0, 0))), (1, .int (nI mm)), (2, .int (nI xx))]) hx hb dX8_wit_70 hl (k := 1) rfl rfl (by decide) rfl (fun ls hl => ?_)
              refine lv_goto (tgt := 35) hx hb dX8_wit_73 (by decide) ?_
              exact ih_35 (upd (f) (63 + mm) (nI (k - 1))) (upd (a) 1 (nI 0)) ((lsF (upd (f) (63 + mm) (nI (k - 1))) (b) (c) mm (nI 0) cc nd).1) ((lsF (upd (f) (63 + mm) (nI (k - 1))) (b) (c) mm (nI 0) cc nd).2) (nI (k - 1)) (k - 1) (nI (k - 1)) (by omega) ((pk_un (by decide)).trans ha0) ((pk_un (by decide)).trans ha2) (by omega) (by rw [hf, upd_upd]) (by rw [hf, upd_upd] at c_58; rw [show 10 - (k - 1) = (10 - k) + 1 by omega]; show _ = witS _ _ _ _ _ _ (it _ _ _); rw [← hs]; simp [witS, show 9 - (10 - k) = k - 1 by omega, c_58]) _ _ _ (jB_cast2 hB (by first | rfl | exact (sr_id _ _).symm | exact (srJ_id _ _).symm | (funext a; simp +decide only [sr, srJ]; (repeat' split) <;> first | rfl | (exfalso; omega) | (subst_vars; rfl))) (by first | rfl | exact (sr_id _ _).symm | exact (srJ_id _ _).symm | (funext a; simp +decide only [sr, srJ]; (repeat' split) <;> first | rfl | (exfalso; omega) | (subst_vars; rfl)))) (lv_sub hl [0, 1, 2, 3, 4, 5] rfl)
      exact lp_35 _ (I 41) (I 40) (I 43) (I 44) ((-4 : Int32)) 10 (I 41 (63 + mm)) (Nat.lt_succ_self _) (rfl) (rfl) (by omega) ((upd_same _ _).symm) (rfl) _ _ _ (jB_cast2 hB (by first | rfl | exact (sr_id _ _).symm | exact (srJ_id _ _).symm | (funext a; simp +decide only [sr, srJ]; (repeat' split) <;> first | rfl | (exfalso; omega) | (subst_vars; rfl))) (by first | rfl | exact (sr_id _ _).symm | exact (srJ_id _ _).symm | (funext a; simp +decide only [sr, srJ]; (repeat' split) <;> first | rfl | (exfalso; omega) | (subst_vars; rfl)))) (lv_sub hl [0, 1, 2, 3, 4, 5] rfl)
    · refine lv_iconst (v := (-1 : Int32)) hx hb dX8_wit_15 (by decide) ?_
      exact j_iret hC hB dX8_wit_16 (⟨by simp [witA, c_5, c_12], ⟨SM.rf, SMJ.rf, rfl⟩⟩)

set_option maxHeartbeats 4000000 in
set_option maxRecDepth 100000 in
theorem c_X8_lesson (l_ : Launch) (G : jG) (I : Nat → Nat → Int32) (J : Nat → Nat → Int64) (O : Nat → Nat → Nat) (man what : Int32) {nd : Nat} (hnd : nd ≤ 10) (hD : I 41 0 = nI nd) {nm : Nat} (hnm : nm ≤ 4) (hM : I 41 1 = nI nm) (hW : wfD (I 41) nd) (hWc : ∀ m, m < nm → ∃ c, c < 8 ∧ I 41 (51 + m) = nI c) : jMi l_ G yX8_lesson wsX8_lesson ({ frames := 5, cells := 0, slots := 0, locals := 120 }) [.ref (G.2.2.1 (20, 0, 0)), .int man, .int what] (I, J, O) (fun r u => r = lesA (I 41) nd nm man what ∧ SMs (I, J, O) u) := by
  refine jMi_of (cc := cX8_lesson) (maxL := 8) (ret := (some .int)) (lv0 := [(0, .ref (G.2.2.1 (20, 0, 0))), (1, .int man), (2, .int what)]) (by decide) rfl (Nat.le_of_ble_eq_true rfl) rfl ?_
  intro pg_ ev_ s_ mi_ below meth cd_ A ls hC hB hl
  obtain ⟨hx, hb, hr, hml, hown, hts, hlocks, hK, hA⟩ := id hC
  have lk_7 := hts (.fieldLink RX8 7 "RiddlePrisonModel" "now" "[I") (by decide +kernel)
  have in_X8 := (fun w h => List.mem_cons_of_mem _ (List.mem_append_right _ h) : ∀ w ∈ wsX80, w ∈ wsX8_lesson)
  refine lv_aload_n hx hb dX8_lesson_0 rfl (lv_at hl 0 rfl) ?_
  refine lv_iload_n hx hb dX8_lesson_1 rfl (lv_at hl 1 rfl) ?_
  refine j_cvi (20, 0, 0) [.int man] hC hB hl.1 (c_X8_isMan l_ G I J O man (by omega) (hM)) (cwV 1 hts gX8_lesson_X8_isMan rfl rfl rfl (by decide +kernel) ⟨by decide, by decide⟩) dX8_lesson_2 jk20 rfl rfl rfl rfl (Nat.le_of_ble_eq_true rfl) (fun r_2 u_2 H locs hp_2 hB => ?_)
  obtain ⟨rfl, rfl⟩ := hp_2
  refine jb_if_eq (tgt := 18) hx hb dX8_lesson_5 (by decide) (fun c_5 => ?_) (fun c_5 => ?_)
  · refine lv_iconst (v := (-1 : Int32)) hx hb dX8_lesson_18 (by decide) ?_
    exact j_iret hC hB dX8_lesson_19 (⟨by simp [lesA, c_5], ⟨SM.rf, SMJ.rf, rfl⟩⟩)
  · obtain ⟨mm, hmm, rfl⟩ := isB_nat c_5 (by omega)
    obtain ⟨cc, hcc, ecc⟩ := hWc mm hmm
    refine lv_iload_n hx hb dX8_lesson_8 rfl (lv_at hl 2 rfl) ?_
    refine lv_i2l (v := what.toInt64) hx hb dX8_lesson_9 rfl ?_
    refine lv_lconst (v := 0) hx hb dX8_lesson_10 rfl ?_
    refine lv_lconst (v := 1) hx hb dX8_lesson_11 rfl ?_
    refine j_csi [.long what.toInt64, .long ((0 : Int64)), .long ((1 : Int64))] hC hB hl.1 (c_X8_in l_ G I J O what.toInt64 ((0 : Int64)) ((1 : Int64))) (va_cwS 3 hts gX8_lesson_X8_in rfl rfl rfl (by decide +kernel) ⟨by decide, by decide⟩) dX8_lesson_12 rfl rfl (Nat.le_of_ble_eq_true rfl) (fun r_12 u_12 H locs hp_12 hB => ?_)
    obtain ⟨rfl, rfl⟩ := hp_12
    refine j_eqi (y := b2 (isB what 2)) (by rw [inR_isB (n := 2) (by decide)]) ?_
    refine jb_if_ne (tgt := 20) hx hb dX8_lesson_15 (by decide) (fun c_15 => ?_) (fun c_15 => ?_)
    · obtain ⟨ww, hww, rfl⟩ := isB_nat c_15 (by omega)
      refine lv_aload_n hx hb dX8_lesson_20 rfl (lv_at hl 0 rfl) ?_
      refine j_get (20, 0, 0) 0 (v := .ref (G.2.2.1 (21, 41, 0))) hC hB in_X8 lk_7 dX8_lesson_21 jk20 rfl rfl (by decide) rfl ?_
      refine lv_bipush (v := nI 7) hx hb dX8_lesson_24 (by decide) ?_
      refine lv_iload_n hx hb dX8_lesson_26 rfl (lv_at hl 1 rfl) ?_
      refine jn_iadd hx hb dX8_lesson_27 ?_
      refine j_ild 41 (7 + mm) hC hB dX8_lesson_28 (by decide) rfl (by simp only [lenI_41]; omega) ?_
      refine j_eqi (y := (I 41) (7 + mm)) rfl ?_
      refine lv_istore_n (lv' := [(3, .int ((I 41) (7 + mm))), (0, .ref (G.2.2.1 (20, 0, 0))), (1, .int (nI mm)), (2, .int (nI ww))]) hx hb dX8_lesson_29 rfl hl (by decide) rfl (fun ls hl => ?_)
      refine lv_iconst (v := nI 0) hx hb dX8_lesson_30 (by decide) ?_
      refine lv_istore (lv' := [(4, .int (nI 0)), (3, .int ((I 41) (7 + mm))), (0, .ref (G.2.2.1 (20, 0, 0))), (1, .int (nI mm)), (2, .int (nI ww))]) hx hb dX8_lesson_31 hl (by decide) rfl (fun ls hl => ?_)
      refine lv_iconst (v := nI 0) hx hb dX8_lesson_33 (by decide) ?_
      refine lv_istore (lv' := [(5, .int (nI 0)), (4, .int (nI 0)), (3, .int ((I 41) (7 + mm))), (0, .ref (G.2.2.1 (20, 0, 0))), (1, .int (nI mm)), (2, .int (nI ww))]) hx hb dX8_lesson_34 hl (by decide) rfl (fun ls hl => ?_)
      refine lv_iconst (v := nI 0) hx hb dX8_lesson_36 (by decide) ?_
      refine lv_istore (lv' := [(6, .int (nI 0)), (5, .int (nI 0)), (4, .int (nI 0)), (3, .int ((I 41) (7 + mm))), (0, .ref (G.2.2.1 (20, 0, 0))), (1, .int (nI mm)), (2, .int (nI ww))]) hx hb dX8_lesson_37 hl (by decide) rfl (fun ls hl => ?_)
      have lp_39 : ∀ (fu : Nat) (f : Nat → Int32) (a : Nat → Int32) (b : Nat → Int32) (c : Nat → Int32) (best : Int32) (most : Int32) (s : Nat) (x : Int32), 4 - s < fu → (a 0 = I 40 0) → (a 2 = I 40 2) → (s ≤ 4) → (f = upd (I 41) (7 + mm) x) → ((best, most) = it (lesS (I 41) mm cc nd) s (nI 0, nI 0)) → ∀ H locs ls, jB G A s_.heap (sr (sr (sr (sr I 41 (f)) 40 (a)) 43 (b)) 44 (c), J, O) H locs → lv_has ls 8 [(6, .int (nI s)), (5, .int most), (4, .int best), (3, .int ((I 41) (7 + mm))), (0, .ref (G.2.2.1 (20, 0, 0))), (1, .int (nI mm)), (2, .int (nI ww))] → W pg_ l_ ev_ ({ frames := 5, cells := 0, slots := 0, locals := 120 }) s_ mi_ ([.ref (G.2.2.1 (20, 0, 0)), .int (nI mm), .int (nI ww)]).toArray below meth cd_ H locs 0 0 (jQi G A below [.ref (G.2.2.1 (20, 0, 0)), .int (nI mm), .int (nI ww)] s_ (fun r u => r = lesA (I 41) nd nm (nI mm) (nI ww) ∧ SMs (I, J, O) u)) (F0 mi_ 39 ls []) := by
        intro fu
        induction fu with
        | zero => intro f a b c best most s x hf; exact absurd hf (Nat.not_lt_zero _)
        | succ fu ih_39 =>
          intro f a b c best most s x hf_39 ha0 ha2 hs4 hf hs H locs ls hB hl
          refine lv_iload hx hb dX8_lesson_39 (lv_at hl 0 rfl) ?_
          refine lv_iconst (v := nI 4) hx hb dX8_lesson_41 (by decide) ?_
          refine jn_icmp_ge (tgt := 108) hx hb dX8_lesson_42 (by decide) (by omega) (by omega) (fun c_42 => ?_) (fun c_42 => ?_)
          · refine lv_aload_n hx hb dX8_lesson_108 rfl (lv_at hl 4 rfl) ?_
            refine j_get (20, 0, 0) 0 (v := .ref (G.2.2.1 (21, 41, 0))) hC hB in_X8 lk_7 dX8_lesson_109 jk20 rfl rfl (by decide) rfl ?_
            refine lv_bipush (v := nI 7) hx hb dX8_lesson_112 (by decide) ?_
            refine lv_iload_n hx hb dX8_lesson_114 rfl (lv_at hl 5 rfl) ?_
            refine jn_iadd hx hb dX8_lesson_115 ?_
            refine lv_iload_n hx hb dX8_lesson_116 rfl (lv_at hl 3 rfl) ?_
            refine j_ist 41 (7 + mm) hC hB dX8_lesson_117 (by decide) rfl (by simp only [lenI_41]; omega) (fun H locs hB => ?_)
            have hB : jB G A s_.heap (sr (sr (sr (sr I 40 (a)) 43 (b)) 44 (c)) 41 (upd (f) (7 + mm) ((I 41) (7 + mm))), J, O) H locs := by rw [show sr (sr (sr (sr I 40 (a)) 43 (b)) 44 (c)) 41 (upd (f) (7 + mm) ((I 41) (7 + mm))) = u2 (sr (sr (sr (sr I 41 (f)) 40 (a)) 43 (b)) 44 (c)) 41 (7 + mm) ((I 41) (7 + mm)) from by (rw [u2_eq, show (sr (sr (sr (sr I 41 (f)) 40 (a)) 43 (b)) 44 (c)) 41 = f from (sr_ne (show (41 : Nat) ≠ 44 by omega)).trans ((sr_ne (show (41 : Nat) ≠ 43 by omega)).trans ((sr_ne (show (41 : Nat) ≠ 40 by omega)).trans (sr_self)))]; funext a_; by_cases ha_ : a_ = 41; (rw [ha_, sr_self, sr_self]); (rw [sr_ne ha_, sr_ne ha_]; simp only [sr, if_neg ha_]))]; exact hB
            refine lv_iload_n hx hb dX8_lesson_118 rfl (lv_at hl 6 rfl) ?_
            refine jn_if_ne (tgt := 127) hx hb dX8_lesson_119 (by decide) (by omega) (fun c_119 => ?_) (fun c_119 => ?_)
            · refine lv_iload hx hb dX8_lesson_127 (lv_at hl 1 rfl) ?_
              exact j_iret hC hB dX8_lesson_129 (⟨by have hbl : (best, most) = lesF (I 41) mm cc nd := (by rw [hs, show s = 4 by omega]; rfl); simp [lesA, ← hbl, nIq (show ww < 2147483648 by omega) (show 0 < 2147483648 by decide), tN, ceF, nIc (show mm < 2147483648 by omega), nIc (show cc < 2147483648 by omega), ecc, c_5, c_15, c_119], ⟨SM_41 (SM.sr (SM.sr (SM_40 (SM.rf) (ha0) (ha2)) scr43) scr44) (by rw [hf, upd_upd]; exact upd_same _ _), SMJ.rf, rfl⟩⟩)
            · refine lv_iload hx hb dX8_lesson_122 (lv_at hl 2 rfl) ?_
              refine lv_goto (tgt := 129) hx hb dX8_lesson_124 (by decide) ?_
              exact j_iret hC hB dX8_lesson_129 (⟨by have hbl : (best, most) = lesF (I 41) mm cc nd := (by rw [hs, show s = 4 by omega]; rfl); simp [lesA, ← hbl, nIq (show ww < 2147483648 by omega) (show 0 < 2147483648 by decide), tN, ceF, nIc (show mm < 2147483648 by omega), nIc (show cc < 2147483648 by omega), ecc, c_5, c_15, eq_true c_119], ⟨SM_41 (SM.sr (SM.sr (SM_40 (SM.rf) (ha0) (ha2)) scr43) scr44) (by rw [hf, upd_upd]; exact upd_same _ _), SMJ.rf, rfl⟩⟩)
          · have hf0 : f 0 = nI nd := by rw [hf]; exact (pk_un (by omega)).trans hD
            have hfc : f (51 + mm) = nI cc := by rw [hf]; exact (pk_un (by omega)).trans ecc
            have hfW : wfD f nd := by rw [hf]; exact wfD_upd7 hW hnd hmm hnm
            refine lv_aload_n hx hb dX8_lesson_45 rfl (lv_at hl 4 rfl) ?_
            refine j_get (20, 0, 0) 0 (v := .ref (G.2.2.1 (21, 41, 0))) hC hB in_X8 lk_7 dX8_lesson_46 jk20 rfl rfl (by decide) rfl ?_
            refine lv_bipush (v := nI 7) hx hb dX8_lesson_49 (by decide) ?_
            refine lv_iload_n hx hb dX8_lesson_51 rfl (lv_at hl 5 rfl) ?_
            refine jn_iadd hx hb dX8_lesson_52 ?_
            refine lv_iload hx hb dX8_lesson_53 (lv_at hl 0 rfl) ?_
            refine j_ist 41 (7 + mm) hC hB dX8_lesson_55 (by decide) rfl (by simp only [lenI_41]; omega) (fun H locs hB => ?_)
            have hB : jB G A s_.heap (sr (sr (sr (sr I 40 (a)) 43 (b)) 44 (c)) 41 (upd (f) (7 + mm) (nI s)), J, O) H locs := by rw [show sr (sr (sr (sr I 40 (a)) 43 (b)) 44 (c)) 41 (upd (f) (7 + mm) (nI s)) = u2 (sr (sr (sr (sr I 41 (f)) 40 (a)) 43 (b)) 44 (c)) 41 (7 + mm) (nI s) from by (rw [u2_eq, show (sr (sr (sr (sr I 41 (f)) 40 (a)) 43 (b)) 44 (c)) 41 = f from (sr_ne (show (41 : Nat) ≠ 44 by omega)).trans ((sr_ne (show (41 : Nat) ≠ 43 by omega)).trans ((sr_ne (show (41 : Nat) ≠ 40 by omega)).trans (sr_self)))]; funext a_; by_cases ha_ : a_ = 41; (rw [ha_, sr_self, sr_self]); (rw [sr_ne ha_, sr_ne ha_]; simp only [sr, if_neg ha_]))]; exact hB
            refine lv_aload_n hx hb dX8_lesson_56 rfl (lv_at hl 4 rfl) ?_
            refine lv_iload_n hx hb dX8_lesson_57 rfl (lv_at hl 5 rfl) ?_
            refine j_cvv (20, 0, 0) [.int (nI mm)] hC hB hl.1 (c_X8_layOf l_ G (sr (sr (sr (sr I 40 (a)) 43 (b)) 44 (c)) 41 (upd (f) (7 + mm) (nI s))) J O mm (by omega) (by omega) ((congrFun sr_self _).trans ((pk_un (show (51 + mm : Nat) ≠ 7 + mm by omega)).trans (hfc))) (by omega) ((congrFun sr_self _).trans ((pk_un (show (0 : Nat) ≠ 7 + mm by omega)).trans (hf0))) (wfD_upd7 hfW hnd hmm hnm)) (cwV 1 hts gX8_lesson_X8_layOf rfl rfl rfl (by decide +kernel) ⟨by decide, by decide⟩) dX8_lesson_58 jk20 rfl rfl rfl rfl (Nat.le_of_ble_eq_true rfl) (fun u_58 H locs hp_58 hB => ?_)
            obtain rfl := hp_58
            have hB : jB G A s_.heap (sr (sr (sr (sr I 41 (upd (f) (7 + mm) (nI s))) 40 (upd (a) 1 (nI 0))) 43 ((lsF (upd (f) (7 + mm) (nI s)) (b) (c) mm (nI 0) cc nd).1)) 44 ((lsF (upd (f) (7 + mm) (nI s)) (b) (c) mm (nI 0) cc nd).2), J, O) H locs := by rw [show sr (sr (sr (sr I 41 (upd (f) (7 + mm) (nI s))) 40 (upd (a) 1 (nI 0))) 43 ((lsF (upd (f) (7 + mm) (nI s)) (b) (c) mm (nI 0) cc nd).1)) 44 ((lsF (upd (f) (7 + mm) (nI s)) (b) (c) mm (nI 0) cc nd).2) = sr (sr (sr (sr (sr (sr (sr I 40 (a)) 43 (b)) 44 (c)) 41 (upd (f) (7 + mm) (nI s))) 40 (upd (a) 1 (nI 0))) 43 ((lsF (upd (f) (7 + mm) (nI s)) (b) (c) mm (nI 0) cc nd).1)) 44 ((lsF (upd (f) (7 + mm) (nI s)) (b) (c) mm (nI 0) cc nd).2) from by funext a; simp +decide only [sr]; (repeat' split) <;> first | rfl | (exfalso; omega) | (subst_vars; rfl)]; exact hB
            refine lv_aload_n hx hb dX8_lesson_61 rfl (lv_at hl 4 rfl) ?_
            refine j_cvi (20, 0, 0) [] hC hB hl.1 (c_X8_reached l_ G (sr (sr (sr (sr I 41 (upd (f) (7 + mm) (nI s))) 40 (upd (a) 1 (nI 0))) 43 ((lsF (upd (f) (7 + mm) (nI s)) (b) (c) mm (nI 0) cc nd).1)) 44 ((lsF (upd (f) (7 + mm) (nI s)) (b) (c) mm (nI 0) cc nd).2)) J O) (cwV 0 hts gX8_lesson_X8_reached rfl rfl rfl (by decide +kernel) ⟨by decide, by decide⟩) dX8_lesson_62 jk20 rfl rfl rfl rfl (Nat.le_of_ble_eq_true rfl) (fun r_62 u_62 H locs hp_62 hB => ?_)
            obtain ⟨rfl, rfl⟩ := hp_62
            refine j_eqi (y := rchF ((lsF (upd (f) (7 + mm) (nI s)) (b) (c) mm (nI 0) cc nd).1) 8) rfl ?_
            refine j_csi [.int (rchF ((lsF (upd (f) (7 + mm) (nI s)) (b) (c) mm (nI 0) cc nd).1) 8)] hC hB hl.1 (c_X8_bits l_ G (sr (sr (sr (sr I 41 (upd (f) (7 + mm) (nI s))) 40 (upd (a) 1 (nI 0))) 43 ((lsF (upd (f) (7 + mm) (nI s)) (b) (c) mm (nI 0) cc nd).1)) 44 ((lsF (upd (f) (7 + mm) (nI s)) (b) (c) mm (nI 0) cc nd).2)) J O (rchF ((lsF (upd (f) (7 + mm) (nI s)) (b) (c) mm (nI 0) cc nd).1) 8)) (va_cwS 1 hts gX8_lesson_X8_bits rfl rfl rfl (by decide +kernel) ⟨by decide, by decide⟩) dX8_lesson_65 rfl rfl (Nat.le_of_ble_eq_true rfl) (fun r_65 u_65 H locs hp_65 hB => ?_)
            obtain ⟨rfl, rfl⟩ := hp_65
            refine j_eqi (y := bitsF (rchF ((lsF (upd (f) (7 + mm) (nI s)) (b) (c) mm (nI 0) cc nd).1) 8)) rfl ?_
            refine lv_istore (lv' := [(7, .int (bitsF (rchF ((lsF (upd (f) (7 + mm) (nI s)) (b) (c) mm (nI 0) cc nd).1) 8))), (6, .int (nI s)), (5, .int most), (4, .int best), (3, .int ((I 41) (7 + mm))), (0, .ref (G.2.2.1 (20, 0, 0))), (1, .int (nI mm)), (2, .int (nI ww))]) hx hb dX8_lesson_68 hl (by decide) rfl (fun ls hl => ?_)
            refine lv_iload hx hb dX8_lesson_70 (lv_at hl 0 rfl) ?_
            refine lv_iload hx hb dX8_lesson_72 (lv_at hl 2 rfl) ?_
            refine lv_icmp_le (tgt := 82) hx hb dX8_lesson_74 (by decide) (fun c_74 => ?_) (fun c_74 => ?_)
            · refine lv_iload hx hb dX8_lesson_82 (lv_at hl 3 rfl) ?_
              refine lv_istore (lv' := [(4, .int best), (7, .int (bitsF (rchF ((lsF (upd (f) (7 + mm) (nI s)) (b) (c) mm (nI 0) cc nd).1) 8))), (6, .int (nI s)), (5, .int most), (3, .int ((I 41) (7 + mm))), (0, .ref (G.2.2.1 (20, 0, 0))), (1, .int (nI mm)), (2, .int (nI ww))]) hx hb dX8_lesson_84 hl (by decide) rfl (fun ls hl => ?_)
              refine lv_iload hx hb dX8_lesson_86 (lv_at hl 1 rfl) ?_
              refine lv_iload hx hb dX8_lesson_88 (lv_at hl 3 rfl) ?_
              refine lv_icmp_le (tgt := 98) hx hb dX8_lesson_90 (by decide) (fun c_90 => ?_) (fun c_90 => ?_)
              · refine lv_iload hx hb dX8_lesson_98 (lv_at hl 3 rfl) ?_
                refine lv_istore (lv' := [(5, .int most), (4, .int best), (7, .int (bitsF (rchF ((lsF (upd (f) (7 + mm) (nI s)) (b) (c) mm (nI 0) cc nd).1) 8))), (6, .int (nI s)), (3, .int ((I 41) (7 + mm))), (0, .ref (G.2.2.1 (20, 0, 0))), (1, .int (nI mm)), (2, .int (nI ww))]) hx hb dX8_lesson_100 hl (by decide) rfl (fun ls hl => ?_)
                refine lv_iinc (v := nI (s + 1)) (lv' := [(6, .int (nI (s + 1))), (5, .int most), (4, .int best), (7, .int (bitsF (rchF ((lsF (upd (f) (7 + mm) (nI s)) (b) (c) mm (nI 0) cc nd).1) 8))), (3, .int ((I 41) (7 + mm))), (0, .ref (G.2.2.1 (20, 0, 0))), (1, .int (nI mm)), (2, .int (nI ww))]) hx hb dX8_lesson_102 hl (k := 3) rfl (jn_inc _ 1) (by decide) rfl (fun ls hl => ?_)
                refine lv_goto (tgt := 39) hx hb dX8_lesson_105 (by decide) ?_
                exact ih_39 (upd (f) (7 + mm) (nI s)) (upd (a) 1 (nI 0)) ((lsF (upd (f) (7 + mm) (nI s)) (b) (c) mm (nI 0) cc nd).1) ((lsF (upd (f) (7 + mm) (nI s)) (b) (c) mm (nI 0) cc nd).2) best most (s + 1) (nI s) (by omega) ((pk_un (by decide)).trans ha0) ((pk_un (by decide)).trans ha2) (by omega) (by rw [hf, upd_upd]) (by have hq : bitsF (rchF (lsF (upd f (7 + mm) (nI s)) b c mm (nI 0) cc nd).1 8) = lesQ (I 41) mm cc nd s := (by rw [rchF_cong (fun j hj => ((lsF_Z (wfD_upd7 hfW hnd hmm hnm) b c mm (nI 0) cc) j hj).1), hf, upd_upd]; rfl); show _ = lesS _ _ _ _ _ (it _ _ _); rw [← hs]; rw [hq] at c_74; simp [lesS, hq, c_74]) _ _ _ (jB_cast2 hB (by first | rfl | exact (sr_id _ _).symm | exact (srJ_id _ _).symm | (funext a; simp +decide only [sr, srJ]; (repeat' split) <;> first | rfl | (exfalso; omega) | (subst_vars; rfl))) (by first | rfl | exact (sr_id _ _).symm | exact (srJ_id _ _).symm | (funext a; simp +decide only [sr, srJ]; (repeat' split) <;> first | rfl | (exfalso; omega) | (subst_vars; rfl)))) (lv_sub hl [0, 1, 2, 4, 5, 6, 7] rfl)
              · exact absurd c_74 c_90
            · refine lv_iload hx hb dX8_lesson_77 (lv_at hl 1 rfl) ?_
              refine lv_goto (tgt := 84) hx hb dX8_lesson_79 (by decide) ?_
              refine lv_istore (lv' := [(4, .int (nI s)), (7, .int (bitsF (rchF ((lsF (upd (f) (7 + mm) (nI s)) (b) (c) mm (nI 0) cc nd).1) 8))), (6, .int (nI s)), (5, .int most), (3, .int ((I 41) (7 + mm))), (0, .ref (G.2.2.1 (20, 0, 0))), (1, .int (nI mm)), (2, .int (nI ww))]) hx hb dX8_lesson_84 hl (by decide) rfl (fun ls hl => ?_)
              refine lv_iload hx hb dX8_lesson_86 (lv_at hl 1 rfl) ?_
              refine lv_iload hx hb dX8_lesson_88 (lv_at hl 3 rfl) ?_
              refine lv_icmp_le (tgt := 98) hx hb dX8_lesson_90 (by decide) (fun c_90 => ?_) (fun c_90 => ?_)
              · exact absurd c_90 c_74
              · refine lv_iload hx hb dX8_lesson_93 (lv_at hl 1 rfl) ?_
                refine lv_goto (tgt := 100) hx hb dX8_lesson_95 (by decide) ?_
                refine lv_istore (lv' := [(5, .int (bitsF (rchF ((lsF (upd (f) (7 + mm) (nI s)) (b) (c) mm (nI 0) cc nd).1) 8))), (4, .int (nI s)), (7, .int (bitsF (rchF ((lsF (upd (f) (7 + mm) (nI s)) (b) (c) mm (nI 0) cc nd).1) 8))), (6, .int (nI s)), (3, .int ((I 41) (7 + mm))), (0, .ref (G.2.2.1 (20, 0, 0))), (1, .int (nI mm)), (2, .int (nI ww))]) hx hb dX8_lesson_100 hl (by decide) rfl (fun ls hl => ?_)
                refine lv_iinc (v := nI (s + 1)) (lv' := [(6, .int (nI (s + 1))), (5, .int (bitsF (rchF ((lsF (upd (f) (7 + mm) (nI s)) (b) (c) mm (nI 0) cc nd).1) 8))), (4, .int (nI s)), (7, .int (bitsF (rchF ((lsF (upd (f) (7 + mm) (nI s)) (b) (c) mm (nI 0) cc nd).1) 8))), (3, .int ((I 41) (7 + mm))), (0, .ref (G.2.2.1 (20, 0, 0))), (1, .int (nI mm)), (2, .int (nI ww))]) hx hb dX8_lesson_102 hl (k := 3) rfl (jn_inc _ 1) (by decide) rfl (fun ls hl => ?_)
                refine lv_goto (tgt := 39) hx hb dX8_lesson_105 (by decide) ?_
                exact ih_39 (upd (f) (7 + mm) (nI s)) (upd (a) 1 (nI 0)) ((lsF (upd (f) (7 + mm) (nI s)) (b) (c) mm (nI 0) cc nd).1) ((lsF (upd (f) (7 + mm) (nI s)) (b) (c) mm (nI 0) cc nd).2) (nI s) (bitsF (rchF ((lsF (upd (f) (7 + mm) (nI s)) (b) (c) mm (nI 0) cc nd).1) 8)) (s + 1) (nI s) (by omega) ((pk_un (by decide)).trans ha0) ((pk_un (by decide)).trans ha2) (by omega) (by rw [hf, upd_upd]) (by have hq : bitsF (rchF (lsF (upd f (7 + mm) (nI s)) b c mm (nI 0) cc nd).1 8) = lesQ (I 41) mm cc nd s := (by rw [rchF_cong (fun j hj => ((lsF_Z (wfD_upd7 hfW hnd hmm hnm) b c mm (nI 0) cc) j hj).1), hf, upd_upd]; rfl); show _ = lesS _ _ _ _ _ (it _ _ _); rw [← hs]; rw [hq] at c_74; simp [lesS, hq, c_74]) _ _ _ (jB_cast2 hB (by first | rfl | exact (sr_id _ _).symm | exact (srJ_id _ _).symm | (funext a; simp +decide only [sr, srJ]; (repeat' split) <;> first | rfl | (exfalso; omega) | (subst_vars; rfl))) (by first | rfl | exact (sr_id _ _).symm | exact (srJ_id _ _).symm | (funext a; simp +decide only [sr, srJ]; (repeat' split) <;> first | rfl | (exfalso; omega) | (subst_vars; rfl)))) (lv_sub hl [0, 1, 2, 4, 5, 6, 7] rfl)
      exact lp_39 _ (I 41) (I 40) (I 43) (I 44) (nI 0) (nI 0) 0 (I 41 (7 + mm)) (Nat.lt_succ_self _) (rfl) (rfl) (by omega) ((upd_same _ _).symm) (rfl) _ _ _ (jB_cast2 hB (by first | rfl | exact (sr_id _ _).symm | exact (srJ_id _ _).symm | (funext a; simp +decide only [sr, srJ]; (repeat' split) <;> first | rfl | (exfalso; omega) | (subst_vars; rfl))) (by first | rfl | exact (sr_id _ _).symm | exact (srJ_id _ _).symm | (funext a; simp +decide only [sr, srJ]; (repeat' split) <;> first | rfl | (exfalso; omega) | (subst_vars; rfl)))) (lv_sub hl [0, 1, 2, 3, 4, 5, 6] rfl)
    · refine lv_iconst (v := (-1 : Int32)) hx hb dX8_lesson_18 (by decide) ?_
      exact j_iret hC hB dX8_lesson_19 (⟨by simp [lesA, c_5, c_15], ⟨SM.rf, SMJ.rf, rfl⟩⟩)
