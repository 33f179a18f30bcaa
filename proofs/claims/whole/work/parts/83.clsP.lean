set_option maxHeartbeats 4000000 in
set_option maxRecDepth 100000 in
theorem c_X6_skipBlanks (l_ : Launch) (G : jG) (I : Nat → Nat → Int32) (J : Nat → Nat → Int64) (O : Nat → Nat → Nat)  {o : Nat → Int32} {n : Nat} {s : Nat × Bool} (hn : n ≤ 90) (hs : s.1 ≤ n) (hT : I 23 = tS o n s) : jMv l_ G yX6_skipBlanks wsX6_skipBlanks ({ frames := 0, cells := 0, slots := 0, locals := 0 }) [.ref (G.2.2.1 (9, 0, 0))] (I, J, O) (fun u => u = (sr I 23 (tS o n (skS (I 22) n s)), J, O)) := by
  refine jMv_of (cc := cX6_skipBlanks) (maxL := 1) (ret := none) (lv0 := [(0, .ref (G.2.2.1 (9, 0, 0)))]) (by decide) rfl (Nat.le_of_ble_eq_true rfl) rfl ?_
  intro pg_ ev_ s_ mi_ below meth cd_ A ls hC hB hl
  obtain ⟨hx, hb, hr, hml, hown, hts, hlocks, hK, hA⟩ := id hC
  have lk_22 := hts (.fieldLink RX6 22 "RiddlePrison$Tape" "faulty" "Z") (by decide +kernel)
  have lk_19 := hts (.fieldLink RX6 19 "RiddlePrison$Tape" "place" "I") (by decide +kernel)
  have lk_15 := hts (.fieldLink RX6 15 "RiddlePrison$Tape" "size" "I") (by decide +kernel)
  have lk_9 := hts (.fieldLink RX6 9 "RiddlePrison$Tape" "letters" "[C") (by decide +kernel)
  have in_X6 := (fun w h => List.mem_cons_of_mem _ (List.mem_append_right _ h) : ∀ w ∈ wsX60, w ∈ wsX6_skipBlanks)
  have hT0 : I 23 0 = nI n := by rw [hT]; exact tS_0
  have hT1 : I 23 1 = nI s.1 := by rw [hT]; exact tS_1
  have hT2 : I 23 2 = b2 s.2 := by rw [hT]; exact tS_2
  have lp_0 : ∀ (fu : Nat) (r : Nat → Int32) (q : Nat), n - q < fu → (r = tS o n (q, s.2)) → (q ≤ n) → (s.2 = false → sk (I 22) n q = sk (I 22) n s.1) → (s.2 = true → q = s.1) → ∀ H locs ls, jB G A s_.heap (sr I 23 (r), J, O) H locs → lv_has ls 1 [(0, .ref (G.2.2.1 (9, 0, 0)))] → W pg_ l_ ev_ ({ frames := 0, cells := 0, slots := 0, locals := 0 }) s_ mi_ ([.ref (G.2.2.1 (9, 0, 0))]).toArray below meth cd_ H locs 0 0 (jQv G A below [.ref (G.2.2.1 (9, 0, 0))] s_ (fun u => u = (sr I 23 (tS o n (skS (I 22) n s)), J, O))) (F0 mi_ 0 ls []) := by
    intro fu
    induction fu with
    | zero => intro r q hf; exact absurd hf (Nat.not_lt_zero _)
    | succ fu ih_0 =>
      intro r q hf_0 hr hq hs2 hq1 H locs ls hB hl
      refine lv_aload_n hx hb dX6_skipBlanks_0 rfl (lv_at hl 0 rfl) ?_
      refine j_get (9, 0, 0) 3 (v := .int ((sr I 23 (r)) 23 2)) hC hB in_X6 lk_22 dX6_skipBlanks_1 jk9 rfl rfl (by decide) rfl ?_
      refine j_eqi (x := (sr I 23 (r)) 23 2) (y := b2 s.2) (sr_sj.trans (by rw [hr]; exact tS_2)) ?_
      refine jb_if_ne (tgt := 45) hx hb dX6_skipBlanks_4 (by decide) (fun c_4 => ?_) (fun c_4 => ?_)
      · exact j_vret hC hB dX6_skipBlanks_45 (by rw [hr, show skS (I 22) n s = (q, s.2) from by unfold skS; rw [if_pos c_4, hq1 c_4]])
      · refine lv_aload_n hx hb dX6_skipBlanks_7 rfl (lv_at hl 0 rfl) ?_
        refine j_get (9, 0, 0) 2 (v := .int ((sr I 23 (r)) 23 1)) hC hB in_X6 lk_19 dX6_skipBlanks_8 jk9 rfl rfl (by decide) rfl ?_
        refine j_eqi (x := (sr I 23 (r)) 23 1) (y := nI q) (sr_sj.trans (by rw [hr]; exact tS_1)) ?_
        refine lv_aload_n hx hb dX6_skipBlanks_11 rfl (lv_at hl 0 rfl) ?_
        refine j_get (9, 0, 0) 1 (v := .int ((sr I 23 (r)) 23 0)) hC hB in_X6 lk_15 dX6_skipBlanks_12 jk9 rfl rfl (by decide) rfl ?_
        refine j_eqi (x := (sr I 23 (r)) 23 0) (y := nI n) (sr_sj.trans (by rw [hr]; exact tS_0)) ?_
        refine jn_icmp_ge (tgt := 45) hx hb dX6_skipBlanks_15 (by decide) (by omega) (by omega) (fun c_15 => ?_) (fun c_15 => ?_)
        · exact j_vret hC hB dX6_skipBlanks_45 (by rw [hr, show skS (I 22) n s = (q, s.2) from by unfold skS; cases hz : s.2 with | true => rw [if_pos rfl, hq1 hz] | false => rw [if_neg (by decide), ← hs2 hz, sk_ge c_15]])
        · refine lv_aload_n hx hb dX6_skipBlanks_18 rfl (lv_at hl 0 rfl) ?_
          refine j_get (9, 0, 0) 0 (v := .ref (G.2.2.1 (10, 0, 0))) hC hB in_X6 lk_9 dX6_skipBlanks_19 jk9 rfl rfl (by decide) rfl ?_
          refine lv_aload_n hx hb dX6_skipBlanks_22 rfl (lv_at hl 0 rfl) ?_
          refine j_get (9, 0, 0) 2 (v := .int ((sr I 23 (r)) 23 1)) hC hB in_X6 lk_19 dX6_skipBlanks_23 jk9 rfl rfl (by decide) rfl ?_
          refine j_eqi (x := (sr I 23 (r)) 23 1) (y := nI q) (sr_sj.trans (by rw [hr]; exact tS_1)) ?_
          refine j_cld q hC hB dX6_skipBlanks_26 rfl (by omega) ?_
          refine j_eqi (x := (sr I 23 (r)) 22 q) (y := (I 22) q) ((sr_nj (show (22 : Nat) ≠ 23 by omega))) ?_
          refine lv_bipush (v := nI 32) hx hb dX6_skipBlanks_27 (by decide) ?_
          refine lv_icmp_ne (tgt := 45) hx hb dX6_skipBlanks_29 (by decide) (fun c_29 => ?_) (fun c_29 => ?_)
          · exact j_vret hC hB dX6_skipBlanks_45 (by rw [hr, show skS (I 22) n s = (q, s.2) from by unfold skS; cases hz : s.2 with | true => rw [if_pos rfl, hq1 hz] | false => rw [if_neg (by decide), ← hs2 hz, sk_end c_29]])
          · refine lv_aload_n hx hb dX6_skipBlanks_32 rfl (lv_at hl 0 rfl) ?_
            refine lv_dup hx hb dX6_skipBlanks_33 rfl ?_
            refine j_get (9, 0, 0) 2 (v := .int ((sr I 23 (r)) 23 1)) hC hB in_X6 lk_19 dX6_skipBlanks_34 jk9 rfl rfl (by decide) rfl ?_
            refine j_eqi (x := (sr I 23 (r)) 23 1) (y := nI q) (sr_sj.trans (by rw [hr]; exact tS_1)) ?_
            refine lv_iconst (v := nI 1) hx hb dX6_skipBlanks_37 (by decide) ?_
            refine jn_iadd hx hb dX6_skipBlanks_38 ?_
            refine j_put (9, 0, 0) 2 (u2 (sr I 23 (r)) 23 1 (nI (q + 1)), J, O) (ty := .int) hC hB in_X6 tyX6_ok nmX6 lk_19 dX6_skipBlanks_39 jk9 rfl rfl (by decide) rfl (by decide +kernel) rfl rfl (Nat.le_of_ble_eq_true rfl) (fun z hz hne => jw_fr z hz hne) (rfl) (fun H locs hB => ?_)
            have hB : jB G A s_.heap (sr I 23 (upd (r) 1 (nI (q + 1))), J, O) H locs := by rw [show sr I 23 (upd (r) 1 (nI (q + 1))) = u2 (sr I 23 (r)) 23 1 (nI (q + 1)) from (u2_sr _ _ _ _ _).symm]; exact hB
            refine lv_goto (tgt := 0) hx hb dX6_skipBlanks_42 (by decide) ?_
            exact ih_0 (upd (r) 1 (nI (q + 1))) (q + 1) (by omega) (by rw [hr]; exact tS_p) (by omega) (fun h => by rw [← hs2 h]; exact (sk_on c_15 c_29).symm) (fun h => absurd (h.symm.trans c_4) (by decide)) _ _ _ hB (lv_sub hl [0] rfl)
  exact lp_0 _ (I 23) s.1 (Nat.lt_succ_self _) (hT) (hs) (fun _ => rfl) (fun _ => rfl) _ _ _ (jB_cast2 hB (by first | exact (sr_id _ _).symm | (funext a_; simp +decide only [sr]; (repeat' split) <;> first | rfl | (exfalso; omega) | (subst_vars; rfl))) rfl) (lv_sub hl [0] rfl)

set_option maxHeartbeats 4000000 in
set_option maxRecDepth 100000 in
theorem c_X6_failAt (l_ : Launch) (G : jG) (I : Nat → Nat → Int32) (J : Nat → Nat → Int64) (O : Nat → Nat → Nat) (w : Int32) (k : Nat) {o : Nat → Int32} {n : Nat} {s : Nat × Bool} (hw : s.2 = false → w = nI k) (hn : n ≤ 90) (hs : s.1 ≤ n) (hT : I 23 = tS o n s) : jMv l_ G yX6_failAt wsX6_failAt ({ frames := 0, cells := 0, slots := 0, locals := 0 }) [.ref (G.2.2.1 (9, 0, 0)), .int w] (I, J, O) (fun u => u = (sr I 23 (tS o n (flS s k)), J, O)) := by
  refine jMv_of (cc := cX6_failAt) (maxL := 2) (ret := none) (lv0 := [(0, .ref (G.2.2.1 (9, 0, 0))), (1, .int w)]) (by decide) rfl (Nat.le_of_ble_eq_true rfl) rfl ?_
  intro pg_ ev_ s_ mi_ below meth cd_ A ls hC hB hl
  obtain ⟨hx, hb, hr, hml, hown, hts, hlocks, hK, hA⟩ := id hC
  have lk_22 := hts (.fieldLink RX6 22 "RiddlePrison$Tape" "faulty" "Z") (by decide +kernel)
  have lk_19 := hts (.fieldLink RX6 19 "RiddlePrison$Tape" "place" "I") (by decide +kernel)
  have in_X6 := (fun w h => List.mem_cons_of_mem _ (List.mem_append_right _ h) : ∀ w ∈ wsX60, w ∈ wsX6_failAt)
  have hT0 : I 23 0 = nI n := by rw [hT]; exact tS_0
  have hT1 : I 23 1 = nI s.1 := by rw [hT]; exact tS_1
  have hT2 : I 23 2 = b2 s.2 := by rw [hT]; exact tS_2
  refine lv_aload_n hx hb dX6_failAt_0 rfl (lv_at hl 0 rfl) ?_
  refine j_get (9, 0, 0) 3 (v := .int (I 23 2)) hC hB in_X6 lk_22 dX6_failAt_1 jk9 rfl rfl (by decide) rfl ?_
  refine j_eqi (x := I 23 2) (y := b2 s.2) (hT2) ?_
  refine jb_if_ne (tgt := 17) hx hb dX6_failAt_4 (by decide) (fun c_4 => ?_) (fun c_4 => ?_)
  · exact j_vret hC hB dX6_failAt_17 (by rw [show flS s k = s from by rw [flS, if_pos c_4, ← c_4], ← hT, sr_id])
  · refine lv_aload_n hx hb dX6_failAt_7 rfl (lv_at hl 0 rfl) ?_
    refine lv_iconst (v := nI 1) hx hb dX6_failAt_8 (by decide) ?_
    refine j_put (9, 0, 0) 3 (u2 I 23 2 (nI 1), J, O) (ty := .boolean) hC hB in_X6 tyX6_ok nmX6 lk_22 dX6_failAt_9 jk9 rfl rfl (by decide) rfl (by decide +kernel) rfl rfl (Nat.le_of_ble_eq_true rfl) (fun z hz hne => jw_fr z hz hne) (rfl) (fun H locs hB => ?_)
    have hB : jB G A s_.heap (sr I 23 (upd (I 23) 2 (nI 1)), J, O) H locs := by rw [show sr I 23 (upd (I 23) 2 (nI 1)) = u2 I 23 2 (nI 1) from (u2_eq _ _ _ _).symm]; exact hB
    refine lv_aload_n hx hb dX6_failAt_12 rfl (lv_at hl 0 rfl) ?_
    refine lv_iload_n hx hb dX6_failAt_13 rfl (lv_at hl 1 rfl) ?_
    refine j_put (9, 0, 0) 2 (u2 (sr I 23 (upd (I 23) 2 (nI 1))) 23 1 w, J, O) (ty := .int) hC hB in_X6 tyX6_ok nmX6 lk_19 dX6_failAt_14 jk9 rfl rfl (by decide) rfl (by decide +kernel) rfl rfl (Nat.le_of_ble_eq_true rfl) (fun z hz hne => jw_fr z hz hne) (rfl) (fun H locs hB => ?_)
    have hB : jB G A s_.heap (sr I 23 (upd (upd (I 23) 2 (nI 1)) 1 w), J, O) H locs := by rw [show sr I 23 (upd (upd (I 23) 2 (nI 1)) 1 w) = u2 (sr I 23 (upd (I 23) 2 (nI 1))) 23 1 w from (u2_sr _ _ _ _ _).symm]; exact hB
    exact j_vret hC hB dX6_failAt_17 (by rw [hT, hw c_4, show flS s k = (k, true) from by rw [flS, if_neg (by rw [c_4]; decide)], show upd (upd (tS o n s) 2 (nI 1)) 1 (nI k) = tS o n (k, true) from (congrArg (fun z => upd z 1 (nI k)) (tS_f (b := true))).trans tS_p])

set_option maxHeartbeats 4000000 in
set_option maxRecDepth 100000 in
theorem c_X6_pick (l_ : Launch) (G : jG) (I : Nat → Nat → Int32) (J : Nat → Nat → Int64) (O : Nat → Nat → Nat) (i : Nat) (hi : i < 4) {o : Nat → Int32} {n : Nat} {s : Nat × Bool} (hn : n ≤ 90) (hs : s.1 ≤ n) (hT : I 23 = tS o n s) : jMi l_ G yX6_pick wsX6_pick ({ frames := 4, cells := 0, slots := 0, locals := 96 }) [.ref (G.2.2.1 (9, 0, 0)), .ref (G.2.2.1 (30, i, 0))] (I, J, O) (fun r u => r = nI ((pik (I 22) n i s).1) ∧ u = (sr I 23 (tS o n ((pik (I 22) n i s).2)), J, O)) := by
  refine jMi_of (cc := cX6_pick) (maxL := 3) (ret := (some .int)) (lv0 := [(0, .ref (G.2.2.1 (9, 0, 0))), (1, .ref (G.2.2.1 (30, i, 0)))]) (by decide) rfl (Nat.le_of_ble_eq_true rfl) rfl ?_
  intro pg_ ev_ s_ mi_ below meth cd_ A ls hC hB hl
  obtain ⟨hx, hb, hr, hml, hown, hts, hlocks, hK, hA⟩ := id hC
  have lk_22 := hts (.fieldLink RX6 22 "RiddlePrison$Tape" "faulty" "Z") (by decide +kernel)
  have lk_19 := hts (.fieldLink RX6 19 "RiddlePrison$Tape" "place" "I") (by decide +kernel)
  have lk_15 := hts (.fieldLink RX6 15 "RiddlePrison$Tape" "size" "I") (by decide +kernel)
  have lk_9 := hts (.fieldLink RX6 9 "RiddlePrison$Tape" "letters" "[C") (by decide +kernel)
  have in_X6 := (fun w h => List.mem_cons_of_mem _ (List.mem_append_right _ h) : ∀ w ∈ wsX60, w ∈ wsX6_pick)
  have hT0 : I 23 0 = nI n := by rw [hT]; exact tS_0
  have hT1 : I 23 1 = nI s.1 := by rw [hT]; exact tS_1
  have hT2 : I 23 2 = b2 s.2 := by rw [hT]; exact tS_2
  refine lv_aload_n hx hb dX6_pick_0 rfl (lv_at hl 0 rfl) ?_
  refine j_cvv (9, 0, 0) [] hC hB hl.1 (c_X6_skipBlanks l_ G I J O  (hn) (hs) (hT)) (cwV 0 hts gX6_pick_X6_skipBlanks rfl rfl rfl (by decide +kernel) ⟨by decide, by decide⟩) dX6_pick_1 jk9 rfl rfl rfl rfl (Nat.le_of_ble_eq_true rfl) (fun u_1 H locs hp_1 hB => ?_)
  obtain rfl := hp_1
  have hl_1 : (skS (I 22) n s).1 ≤ n := skS_le (hs)
  have hB : jB G A s_.heap (sr I 23 (tS o n (skS (I 22) n s)), J, O) H locs := hB
  refine lv_aload_n hx hb dX6_pick_4 rfl (lv_at hl 0 rfl) ?_
  refine j_get (9, 0, 0) 3 (v := .int ((sr I 23 (tS o n (skS (I 22) n s))) 23 2)) hC hB in_X6 lk_22 dX6_pick_5 jk9 rfl rfl (by decide) rfl ?_
  refine j_eqi (x := (sr I 23 (tS o n (skS (I 22) n s))) 23 2) (y := b2 ((skS (I 22) n s).2)) (sr_sj.trans (tS_2)) ?_
  refine jb_if_ne (tgt := 38) hx hb dX6_pick_8 (by decide) (fun c_8 => ?_) (fun c_8 => ?_)
  · refine lv_iconst (v := (-1 : Int32)) hx hb dX6_pick_38 (by decide) ?_
    refine lv_istore_n (lv' := [(2, .int ((-1 : Int32))), (0, .ref (G.2.2.1 (9, 0, 0))), (1, .ref (G.2.2.1 (30, i, 0)))]) hx hb dX6_pick_39 rfl hl (by decide) rfl (fun ls hl => ?_)
    refine lv_iload_n hx hb dX6_pick_40 rfl (lv_at hl 0 rfl) ?_
    refine lv_if_ge (tgt := 54) hx hb dX6_pick_41 (by decide) (fun c_41 => ?_) (fun c_41 => ?_)
    · exact absurd c_41 (by decide)
    · refine lv_aload_n hx hb dX6_pick_44 rfl (lv_at hl 1 rfl) ?_
      refine lv_aload_n hx hb dX6_pick_45 rfl (lv_at hl 1 rfl) ?_
      refine j_get (9, 0, 0) 2 (v := .int ((sr I 23 (tS o n (skS (I 22) n s))) 23 1)) hC hB in_X6 lk_19 dX6_pick_46 jk9 rfl rfl (by decide) rfl ?_
      refine j_eqi (x := (sr I 23 (tS o n (skS (I 22) n s))) 23 1) (y := nI ((skS (I 22) n s).1)) (sr_sj.trans (tS_1)) ?_
      refine j_cvv (9, 0, 0) [.int (nI ((skS (I 22) n s).1))] hC hB hl.1 (c_X6_failAt l_ G (sr I 23 (tS o n (skS (I 22) n s))) J O (nI ((skS (I 22) n s).1)) (((skS (I 22) n s).1)) (fun _ => rfl) (hn) (skS_le (hs)) (sr_self)) (cwV 1 hts gX6_pick_X6_failAt rfl rfl rfl (by decide +kernel) ⟨by decide, by decide⟩) dX6_pick_49 jk9 rfl rfl rfl rfl (Nat.le_of_ble_eq_true rfl) (fun u_49 H locs hp_49 hB => ?_)
      obtain rfl := hp_49
      have hl_49 : (flS ((skS (I 22) n s)) ((skS (I 22) n s).1)).1 ≤ n := flS_le (skS_le (hs)) (by omega)
      have hB : jB G A s_.heap (sr I 23 (tS o n (flS ((skS (I 22) n s)) ((skS (I 22) n s).1))), J, O) H locs := by (rw [show sr I 23 (tS o n (flS ((skS (I 22) n s)) ((skS (I 22) n s).1))) = sr (sr I 23 (tS o n (skS (I 22) n s))) 23 (tS o n (flS ((skS (I 22) n s)) ((skS (I 22) n s).1))) from by funext a; simp +decide only [sr]; (repeat' split) <;> first | rfl | (exfalso; omega) | (subst_vars; rfl)]; exact hB)
      refine lv_iconst (v := nI 0) hx hb dX6_pick_52 (by decide) ?_
      exact j_iret hC hB dX6_pick_53 (⟨by rw [pik, if_neg (fun z => absurd (z.1.symm.trans c_8) (by decide))], by rw [pik, if_neg (fun z => absurd (z.1.symm.trans c_8) (by decide))]⟩)
  · refine lv_aload_n hx hb dX6_pick_11 rfl (lv_at hl 0 rfl) ?_
    refine j_get (9, 0, 0) 2 (v := .int ((sr I 23 (tS o n (skS (I 22) n s))) 23 1)) hC hB in_X6 lk_19 dX6_pick_12 jk9 rfl rfl (by decide) rfl ?_
    refine j_eqi (x := (sr I 23 (tS o n (skS (I 22) n s))) 23 1) (y := nI ((skS (I 22) n s).1)) (sr_sj.trans (tS_1)) ?_
    refine lv_aload_n hx hb dX6_pick_15 rfl (lv_at hl 0 rfl) ?_
    refine j_get (9, 0, 0) 1 (v := .int ((sr I 23 (tS o n (skS (I 22) n s))) 23 0)) hC hB in_X6 lk_15 dX6_pick_16 jk9 rfl rfl (by decide) rfl ?_
    refine j_eqi (x := (sr I 23 (tS o n (skS (I 22) n s))) 23 0) (y := nI n) (sr_sj.trans (tS_0)) ?_
    refine jn_icmp_ge (tgt := 38) hx hb dX6_pick_19 (by decide) (by omega) (by omega) (fun c_19 => ?_) (fun c_19 => ?_)
    · refine lv_iconst (v := (-1 : Int32)) hx hb dX6_pick_38 (by decide) ?_
      refine lv_istore_n (lv' := [(2, .int ((-1 : Int32))), (0, .ref (G.2.2.1 (9, 0, 0))), (1, .ref (G.2.2.1 (30, i, 0)))]) hx hb dX6_pick_39 rfl hl (by decide) rfl (fun ls hl => ?_)
      refine lv_iload_n hx hb dX6_pick_40 rfl (lv_at hl 0 rfl) ?_
      refine lv_if_ge (tgt := 54) hx hb dX6_pick_41 (by decide) (fun c_41 => ?_) (fun c_41 => ?_)
      · exact absurd c_41 (by decide)
      · refine lv_aload_n hx hb dX6_pick_44 rfl (lv_at hl 1 rfl) ?_
        refine lv_aload_n hx hb dX6_pick_45 rfl (lv_at hl 1 rfl) ?_
        refine j_get (9, 0, 0) 2 (v := .int ((sr I 23 (tS o n (skS (I 22) n s))) 23 1)) hC hB in_X6 lk_19 dX6_pick_46 jk9 rfl rfl (by decide) rfl ?_
        refine j_eqi (x := (sr I 23 (tS o n (skS (I 22) n s))) 23 1) (y := nI ((skS (I 22) n s).1)) (sr_sj.trans (tS_1)) ?_
        refine j_cvv (9, 0, 0) [.int (nI ((skS (I 22) n s).1))] hC hB hl.1 (c_X6_failAt l_ G (sr I 23 (tS o n (skS (I 22) n s))) J O (nI ((skS (I 22) n s).1)) (((skS (I 22) n s).1)) (fun _ => rfl) (hn) (skS_le (hs)) (sr_self)) (cwV 1 hts gX6_pick_X6_failAt rfl rfl rfl (by decide +kernel) ⟨by decide, by decide⟩) dX6_pick_49 jk9 rfl rfl rfl rfl (Nat.le_of_ble_eq_true rfl) (fun u_49 H locs hp_49 hB => ?_)
        obtain rfl := hp_49
        have hl_49 : (flS ((skS (I 22) n s)) ((skS (I 22) n s).1)).1 ≤ n := flS_le (skS_le (hs)) (by omega)
        have hB : jB G A s_.heap (sr I 23 (tS o n (flS ((skS (I 22) n s)) ((skS (I 22) n s).1))), J, O) H locs := by (rw [show sr I 23 (tS o n (flS ((skS (I 22) n s)) ((skS (I 22) n s).1))) = sr (sr I 23 (tS o n (skS (I 22) n s))) 23 (tS o n (flS ((skS (I 22) n s)) ((skS (I 22) n s).1))) from by funext a; simp +decide only [sr]; (repeat' split) <;> first | rfl | (exfalso; omega) | (subst_vars; rfl)]; exact hB)
        refine lv_iconst (v := nI 0) hx hb dX6_pick_52 (by decide) ?_
        exact j_iret hC hB dX6_pick_53 (⟨by rw [pik, if_neg (fun z => absurd z.2.1 (by omega))], by rw [pik, if_neg (fun z => absurd z.2.1 (by omega))]⟩)
    · refine lv_aload_n hx hb dX6_pick_22 rfl (lv_at hl 1 rfl) ?_
      refine lv_aload_n hx hb dX6_pick_23 rfl (lv_at hl 0 rfl) ?_
      refine j_get (9, 0, 0) 0 (v := .ref (G.2.2.1 (10, 0, 0))) hC hB in_X6 lk_9 dX6_pick_24 jk9 rfl rfl (by decide) rfl ?_
      refine lv_aload_n hx hb dX6_pick_27 rfl (lv_at hl 0 rfl) ?_
      refine j_get (9, 0, 0) 2 (v := .int ((sr I 23 (tS o n (skS (I 22) n s))) 23 1)) hC hB in_X6 lk_19 dX6_pick_28 jk9 rfl rfl (by decide) rfl ?_
      refine j_eqi (x := (sr I 23 (tS o n (skS (I 22) n s))) 23 1) (y := nI ((skS (I 22) n s).1)) (sr_sj.trans (tS_1)) ?_
      refine j_cld ((skS (I 22) n s).1) hC hB dX6_pick_31 rfl (by omega) ?_
      refine j_eqi (x := (sr I 23 (tS o n (skS (I 22) n s))) 22 ((skS (I 22) n s).1)) (y := (I 22) ((skS (I 22) n s).1)) ((sr_nj (show (22 : Nat) ≠ 23 by omega))) ?_
      refine j_tcvi i [.int ((I 22) ((skS (I 22) n s).1))] hi hC hB hl.1 (c_J0_indexOf_0f7a4 l_ G (sr I 23 (tS o n (skS (I 22) n s))) J O i ((I 22) ((skS (I 22) n s).1)) (by omega)) (cwV 1 hts gX6_pick_J0_indexOf_0f7a4 rfl rfl rfl (by decide +kernel) ⟨by decide, by decide⟩) dX6_pick_32 rfl rfl (Nat.le_of_ble_eq_true rfl) (fun r_32 u_32 H locs hp_32 hB => ?_)
      obtain ⟨rfl, rfl⟩ := hp_32
      refine j_eqi (y := txO i ((I 22) ((skS (I 22) n s).1))) (rfl) ?_
      refine lv_goto (tgt := 39) hx hb dX6_pick_35 (by decide) ?_
      refine lv_istore_n (lv' := [(2, .int (txO i ((I 22) ((skS (I 22) n s).1)))), (0, .ref (G.2.2.1 (9, 0, 0))), (1, .ref (G.2.2.1 (30, i, 0)))]) hx hb dX6_pick_39 rfl hl (by decide) rfl (fun ls hl => ?_)
      refine lv_iload_n hx hb dX6_pick_40 rfl (lv_at hl 0 rfl) ?_
      refine lv_if_ge (tgt := 54) hx hb dX6_pick_41 (by decide) (fun c_41 => ?_) (fun c_41 => ?_)
      · refine lv_aload_n hx hb dX6_pick_54 rfl (lv_at hl 1 rfl) ?_
        refine lv_dup hx hb dX6_pick_55 rfl ?_
        refine j_get (9, 0, 0) 2 (v := .int ((sr I 23 (tS o n (skS (I 22) n s))) 23 1)) hC hB in_X6 lk_19 dX6_pick_56 jk9 rfl rfl (by decide) rfl ?_
        refine j_eqi (x := (sr I 23 (tS o n (skS (I 22) n s))) 23 1) (y := nI ((skS (I 22) n s).1)) (sr_sj.trans (tS_1)) ?_
        refine lv_iconst (v := nI 1) hx hb dX6_pick_59 (by decide) ?_
        refine jn_iadd hx hb dX6_pick_60 ?_
        refine j_put (9, 0, 0) 2 (u2 (sr I 23 (tS o n (skS (I 22) n s))) 23 1 (nI ((skS (I 22) n s).1 + 1)), J, O) (ty := .int) hC hB in_X6 tyX6_ok nmX6 lk_19 dX6_pick_61 jk9 rfl rfl (by decide) rfl (by decide +kernel) rfl rfl (Nat.le_of_ble_eq_true rfl) (fun z hz hne => jw_fr z hz hne) (rfl) (fun H locs hB => ?_)
        have hB : jB G A s_.heap (sr I 23 (upd (tS o n (skS (I 22) n s)) 1 (nI ((skS (I 22) n s).1 + 1))), J, O) H locs := by rw [show sr I 23 (upd (tS o n (skS (I 22) n s)) 1 (nI ((skS (I 22) n s).1 + 1))) = u2 (sr I 23 (tS o n (skS (I 22) n s))) 23 1 (nI ((skS (I 22) n s).1 + 1)) from (u2_sr _ _ _ _ _).symm]; exact hB
        have hB : jB G A s_.heap (sr I 23 (tS o n ((skS (I 22) n s).1 + 1, (skS (I 22) n s).2)), J, O) H locs := by rw [← show upd (tS o n (skS (I 22) n s)) 1 (nI ((skS (I 22) n s).1 + 1)) = tS o n ((skS (I 22) n s).1 + 1, (skS (I 22) n s).2) from tS_p]; exact hB
        refine lv_iload_n hx hb dX6_pick_64 rfl (lv_at hl 0 rfl) ?_
        exact j_iret hC hB dX6_pick_65 (⟨by rw [pik, if_pos ⟨c_8, c_19, c_41⟩]; exact (txO_nat hi c_41).1, by rw [pik, if_pos ⟨c_8, c_19, c_41⟩, c_8]⟩)
      · refine lv_aload_n hx hb dX6_pick_44 rfl (lv_at hl 1 rfl) ?_
        refine lv_aload_n hx hb dX6_pick_45 rfl (lv_at hl 1 rfl) ?_
        refine j_get (9, 0, 0) 2 (v := .int ((sr I 23 (tS o n (skS (I 22) n s))) 23 1)) hC hB in_X6 lk_19 dX6_pick_46 jk9 rfl rfl (by decide) rfl ?_
        refine j_eqi (x := (sr I 23 (tS o n (skS (I 22) n s))) 23 1) (y := nI ((skS (I 22) n s).1)) (sr_sj.trans (tS_1)) ?_
        refine j_cvv (9, 0, 0) [.int (nI ((skS (I 22) n s).1))] hC hB hl.1 (c_X6_failAt l_ G (sr I 23 (tS o n (skS (I 22) n s))) J O (nI ((skS (I 22) n s).1)) (((skS (I 22) n s).1)) (fun _ => rfl) (hn) (skS_le (hs)) (sr_self)) (cwV 1 hts gX6_pick_X6_failAt rfl rfl rfl (by decide +kernel) ⟨by decide, by decide⟩) dX6_pick_49 jk9 rfl rfl rfl rfl (Nat.le_of_ble_eq_true rfl) (fun u_49 H locs hp_49 hB => ?_)
        obtain rfl := hp_49
        have hl_49 : (flS ((skS (I 22) n s)) ((skS (I 22) n s).1)).1 ≤ n := flS_le (skS_le (hs)) (by omega)
        have hB : jB G A s_.heap (sr I 23 (tS o n (flS ((skS (I 22) n s)) ((skS (I 22) n s).1))), J, O) H locs := by (rw [show sr I 23 (tS o n (flS ((skS (I 22) n s)) ((skS (I 22) n s).1))) = sr (sr I 23 (tS o n (skS (I 22) n s))) 23 (tS o n (flS ((skS (I 22) n s)) ((skS (I 22) n s).1))) from by funext a; simp +decide only [sr]; (repeat' split) <;> first | rfl | (exfalso; omega) | (subst_vars; rfl)]; exact hB)
        refine lv_iconst (v := nI 0) hx hb dX6_pick_52 (by decide) ?_
        exact j_iret hC hB dX6_pick_53 (⟨by rw [pik, if_neg (fun z => c_41 z.2.2)], by rw [pik, if_neg (fun z => c_41 z.2.2)]⟩)

set_option maxHeartbeats 4000000 in
set_option maxRecDepth 100000 in
theorem c_X6_goesOnWith (l_ : Launch) (G : jG) (I : Nat → Nat → Int32) (J : Nat → Nat → Int64) (O : Nat → Nat → Nat) (c : Int32) {o : Nat → Int32} {n : Nat} {s : Nat × Bool} (hn : n ≤ 90) (hs : s.1 ≤ n) (hT : I 23 = tS o n s) : jMi l_ G yX6_goesOnWith wsX6_goesOnWith ({ frames := 1, cells := 0, slots := 0, locals := 20 }) [.ref (G.2.2.1 (9, 0, 0)), .int c] (I, J, O) (fun r u => r = b2 ((gn (I 22) n c s).1) ∧ u = (sr I 23 (tS o n ((gn (I 22) n c s).2)), J, O)) := by
  refine jMi_of (cc := cX6_goesOnWith) (maxL := 2) (ret := (some .boolean)) (lv0 := [(0, .ref (G.2.2.1 (9, 0, 0))), (1, .int c)]) (by decide) rfl (Nat.le_of_ble_eq_true rfl) rfl ?_
  intro pg_ ev_ s_ mi_ below meth cd_ A ls hC hB hl
  obtain ⟨hx, hb, hr, hml, hown, hts, hlocks, hK, hA⟩ := id hC
  have lk_22 := hts (.fieldLink RX6 22 "RiddlePrison$Tape" "faulty" "Z") (by decide +kernel)
  have lk_19 := hts (.fieldLink RX6 19 "RiddlePrison$Tape" "place" "I") (by decide +kernel)
  have lk_15 := hts (.fieldLink RX6 15 "RiddlePrison$Tape" "size" "I") (by decide +kernel)
  have lk_9 := hts (.fieldLink RX6 9 "RiddlePrison$Tape" "letters" "[C") (by decide +kernel)
  have in_X6 := (fun w h => List.mem_cons_of_mem _ (List.mem_append_right _ h) : ∀ w ∈ wsX60, w ∈ wsX6_goesOnWith)
  have hT0 : I 23 0 = nI n := by rw [hT]; exact tS_0
  have hT1 : I 23 1 = nI s.1 := by rw [hT]; exact tS_1
  have hT2 : I 23 2 = b2 s.2 := by rw [hT]; exact tS_2
  refine lv_aload_n hx hb dX6_goesOnWith_0 rfl (lv_at hl 0 rfl) ?_
  refine j_cvv (9, 0, 0) [] hC hB hl.1 (c_X6_skipBlanks l_ G I J O  (hn) (hs) (hT)) (cwV 0 hts gX6_goesOnWith_X6_skipBlanks rfl rfl rfl (by decide +kernel) ⟨by decide, by decide⟩) dX6_goesOnWith_1 jk9 rfl rfl rfl rfl (Nat.le_of_ble_eq_true rfl) (fun u_1 H locs hp_1 hB => ?_)
  obtain rfl := hp_1
  have hl_1 : (skS (I 22) n s).1 ≤ n := skS_le (hs)
  have hB : jB G A s_.heap (sr I 23 (tS o n (skS (I 22) n s)), J, O) H locs := hB
  refine lv_aload_n hx hb dX6_goesOnWith_4 rfl (lv_at hl 0 rfl) ?_
  refine j_get (9, 0, 0) 3 (v := .int ((sr I 23 (tS o n (skS (I 22) n s))) 23 2)) hC hB in_X6 lk_22 dX6_goesOnWith_5 jk9 rfl rfl (by decide) rfl ?_
  refine j_eqi (x := (sr I 23 (tS o n (skS (I 22) n s))) 23 2) (y := b2 ((skS (I 22) n s).2)) (sr_sj.trans (tS_2)) ?_
  refine jb_if_ne (tgt := 35) hx hb dX6_goesOnWith_8 (by decide) (fun c_8 => ?_) (fun c_8 => ?_)
  · refine lv_iconst (v := nI 0) hx hb dX6_goesOnWith_35 (by decide) ?_
    exact j_zret hC hB dX6_goesOnWith_36 (by decide) (⟨by rw [gn, if_neg (fun z => absurd (z.1.symm.trans c_8) (by decide))]; rfl, by rw [gn, if_neg (fun z => absurd (z.1.symm.trans c_8) (by decide))]⟩)
  · refine lv_aload_n hx hb dX6_goesOnWith_11 rfl (lv_at hl 0 rfl) ?_
    refine j_get (9, 0, 0) 2 (v := .int ((sr I 23 (tS o n (skS (I 22) n s))) 23 1)) hC hB in_X6 lk_19 dX6_goesOnWith_12 jk9 rfl rfl (by decide) rfl ?_
    refine j_eqi (x := (sr I 23 (tS o n (skS (I 22) n s))) 23 1) (y := nI ((skS (I 22) n s).1)) (sr_sj.trans (tS_1)) ?_
    refine lv_aload_n hx hb dX6_goesOnWith_15 rfl (lv_at hl 0 rfl) ?_
    refine j_get (9, 0, 0) 1 (v := .int ((sr I 23 (tS o n (skS (I 22) n s))) 23 0)) hC hB in_X6 lk_15 dX6_goesOnWith_16 jk9 rfl rfl (by decide) rfl ?_
    refine j_eqi (x := (sr I 23 (tS o n (skS (I 22) n s))) 23 0) (y := nI n) (sr_sj.trans (tS_0)) ?_
    refine jn_icmp_ge (tgt := 35) hx hb dX6_goesOnWith_19 (by decide) (by omega) (by omega) (fun c_19 => ?_) (fun c_19 => ?_)
    · refine lv_iconst (v := nI 0) hx hb dX6_goesOnWith_35 (by decide) ?_
      exact j_zret hC hB dX6_goesOnWith_36 (by decide) (⟨by rw [gn, if_neg (fun z => absurd z.2.1 (by omega))]; rfl, by rw [gn, if_neg (fun z => absurd z.2.1 (by omega))]⟩)
    · refine lv_aload_n hx hb dX6_goesOnWith_22 rfl (lv_at hl 0 rfl) ?_
      refine j_get (9, 0, 0) 0 (v := .ref (G.2.2.1 (10, 0, 0))) hC hB in_X6 lk_9 dX6_goesOnWith_23 jk9 rfl rfl (by decide) rfl ?_
      refine lv_aload_n hx hb dX6_goesOnWith_26 rfl (lv_at hl 0 rfl) ?_
      refine j_get (9, 0, 0) 2 (v := .int ((sr I 23 (tS o n (skS (I 22) n s))) 23 1)) hC hB in_X6 lk_19 dX6_goesOnWith_27 jk9 rfl rfl (by decide) rfl ?_
      refine j_eqi (x := (sr I 23 (tS o n (skS (I 22) n s))) 23 1) (y := nI ((skS (I 22) n s).1)) (sr_sj.trans (tS_1)) ?_
      refine j_cld ((skS (I 22) n s).1) hC hB dX6_goesOnWith_30 rfl (by omega) ?_
      refine j_eqi (x := (sr I 23 (tS o n (skS (I 22) n s))) 22 ((skS (I 22) n s).1)) (y := (I 22) ((skS (I 22) n s).1)) ((sr_nj (show (22 : Nat) ≠ 23 by omega))) ?_
      refine lv_iload_n hx hb dX6_goesOnWith_31 rfl (lv_at hl 1 rfl) ?_
      refine lv_icmp_eq (tgt := 37) hx hb dX6_goesOnWith_32 (by decide) (fun c_32 => ?_) (fun c_32 => ?_)
      · refine lv_aload_n hx hb dX6_goesOnWith_37 rfl (lv_at hl 0 rfl) ?_
        refine lv_dup hx hb dX6_goesOnWith_38 rfl ?_
        refine j_get (9, 0, 0) 2 (v := .int ((sr I 23 (tS o n (skS (I 22) n s))) 23 1)) hC hB in_X6 lk_19 dX6_goesOnWith_39 jk9 rfl rfl (by decide) rfl ?_
        refine j_eqi (x := (sr I 23 (tS o n (skS (I 22) n s))) 23 1) (y := nI ((skS (I 22) n s).1)) (sr_sj.trans (tS_1)) ?_
        refine lv_iconst (v := nI 1) hx hb dX6_goesOnWith_42 (by decide) ?_
        refine jn_iadd hx hb dX6_goesOnWith_43 ?_
        refine j_put (9, 0, 0) 2 (u2 (sr I 23 (tS o n (skS (I 22) n s))) 23 1 (nI ((skS (I 22) n s).1 + 1)), J, O) (ty := .int) hC hB in_X6 tyX6_ok nmX6 lk_19 dX6_goesOnWith_44 jk9 rfl rfl (by decide) rfl (by decide +kernel) rfl rfl (Nat.le_of_ble_eq_true rfl) (fun z hz hne => jw_fr z hz hne) (rfl) (fun H locs hB => ?_)
        have hB : jB G A s_.heap (sr I 23 (upd (tS o n (skS (I 22) n s)) 1 (nI ((skS (I 22) n s).1 + 1))), J, O) H locs := by rw [show sr I 23 (upd (tS o n (skS (I 22) n s)) 1 (nI ((skS (I 22) n s).1 + 1))) = u2 (sr I 23 (tS o n (skS (I 22) n s))) 23 1 (nI ((skS (I 22) n s).1 + 1)) from (u2_sr _ _ _ _ _).symm]; exact hB
        have hB : jB G A s_.heap (sr I 23 (tS o n ((skS (I 22) n s).1 + 1, (skS (I 22) n s).2)), J, O) H locs := by rw [← show upd (tS o n (skS (I 22) n s)) 1 (nI ((skS (I 22) n s).1 + 1)) = tS o n ((skS (I 22) n s).1 + 1, (skS (I 22) n s).2) from tS_p]; exact hB
        refine lv_iconst (v := nI 1) hx hb dX6_goesOnWith_47 (by decide) ?_
        exact j_zret hC hB dX6_goesOnWith_48 (by decide) (⟨by rw [gn, if_pos ⟨c_8, c_19, c_32⟩]; rfl, by rw [gn, if_pos ⟨c_8, c_19, c_32⟩]⟩)
      · refine lv_iconst (v := nI 0) hx hb dX6_goesOnWith_35 (by decide) ?_
        exact j_zret hC hB dX6_goesOnWith_36 (by decide) (⟨by rw [gn, if_neg (fun z => c_32 z.2.2)]; rfl, by rw [gn, if_neg (fun z => c_32 z.2.2)]⟩)

set_option maxHeartbeats 4000000 in
set_option maxRecDepth 100000 in
theorem c_X6_pickHard (l_ : Launch) (G : jG) (I : Nat → Nat → Int32) (J : Nat → Nat → Int64) (O : Nat → Nat → Nat)  {o : Nat → Int32} {n : Nat} {s : Nat × Bool} (hn : n ≤ 90) (hs : s.1 ≤ n) (hT : I 23 = tS o n s) : jMi l_ G yX6_pickHard wsX6_pickHard ({ frames := 5, cells := 0, slots := 0, locals := 118 }) [.ref (G.2.2.1 (9, 0, 0))] (I, J, O) (fun r u => r = nI ((ph (I 22) n s).1) ∧ u = (sr I 23 (tS o n ((ph (I 22) n s).2)), J, O)) := by
  refine jMi_of (cc := cX6_pickHard) (maxL := 3) (ret := (some .int)) (lv0 := [(0, .ref (G.2.2.1 (9, 0, 0)))]) (by decide) rfl (Nat.le_of_ble_eq_true rfl) rfl ?_
  intro pg_ ev_ s_ mi_ below meth cd_ A ls hC hB hl
  obtain ⟨hx, hb, hr, hml, hown, hts, hlocks, hK, hA⟩ := id hC
  have lk_19 := hts (.fieldLink RX6 19 "RiddlePrison$Tape" "place" "I") (by decide +kernel)
  have lk_22 := hts (.fieldLink RX6 22 "RiddlePrison$Tape" "faulty" "Z") (by decide +kernel)
  have lk_15 := hts (.fieldLink RX6 15 "RiddlePrison$Tape" "size" "I") (by decide +kernel)
  have lk_9 := hts (.fieldLink RX6 9 "RiddlePrison$Tape" "letters" "[C") (by decide +kernel)
  have in_X6 := (fun w h => List.mem_cons_of_mem _ (List.mem_append_right _ h) : ∀ w ∈ wsX60, w ∈ wsX6_pickHard)
  have hT0 : I 23 0 = nI n := by rw [hT]; exact tS_0
  have hT1 : I 23 1 = nI s.1 := by rw [hT]; exact tS_1
  have hT2 : I 23 2 = b2 s.2 := by rw [hT]; exact tS_2
  refine lv_aload_n hx hb dX6_pickHard_0 rfl (lv_at hl 0 rfl) ?_
  refine j_tldc 2 (by decide) rfl rfl hC hB dX6_pickHard_1 ?_
  refine j_cvi (9, 0, 0) [.ref (G.2.2.1 (30, 2, 0))] hC hB hl.1 (c_X6_pick l_ G I J O 2 (by omega) (hn) (hs) (hT)) (cwV 1 hts gX6_pickHard_X6_pick rfl rfl rfl (by decide +kernel) ⟨by decide, by decide⟩) dX6_pickHard_3 jk9 rfl rfl rfl rfl (Nat.le_of_ble_eq_true rfl) (fun r_3 u_3 H locs hp_3 hB => ?_)
  obtain ⟨rfl, rfl⟩ := hp_3
  have hv_3 := pik_lt (t := I 22) (n := n) (s := s) (i := 2) (by decide)
  have hl_3 : ((pik (I 22) n 2 s).2).1 ≤ n := pik_le (hs)
  have hB : jB G A s_.heap (sr I 23 (tS o n ((pik (I 22) n 2 s).2)), J, O) H locs := hB
  refine j_eqi (y := nI ((pik (I 22) n 2 s).1)) (rfl) ?_
  refine lv_istore_n (lv' := [(1, .int (nI ((pik (I 22) n 2 s).1))), (0, .ref (G.2.2.1 (9, 0, 0)))]) hx hb dX6_pickHard_6 rfl hl (by decide) rfl (fun ls hl => ?_)
  refine lv_aload_n hx hb dX6_pickHard_7 rfl (lv_at hl 1 rfl) ?_
  refine j_get (9, 0, 0) 2 (v := .int ((sr I 23 (tS o n ((pik (I 22) n 2 s).2))) 23 1)) hC hB in_X6 lk_19 dX6_pickHard_8 jk9 rfl rfl (by decide) rfl ?_
  refine j_eqi (x := (sr I 23 (tS o n ((pik (I 22) n 2 s).2))) 23 1) (y := nI (((pik (I 22) n 2 s).2).1)) (sr_sj.trans (tS_1)) ?_
  refine lv_iconst (v := nI 1) hx hb dX6_pickHard_11 (by decide) ?_
  refine lv_isub hx hb dX6_pickHard_12 ?_
  refine lv_istore_n (lv' := [(2, .int ((nI (((pik (I 22) n 2 s).2).1)) - (nI 1))), (1, .int (nI ((pik (I 22) n 2 s).1))), (0, .ref (G.2.2.1 (9, 0, 0)))]) hx hb dX6_pickHard_13 rfl hl (by decide) rfl (fun ls hl => ?_)
  refine lv_aload_n hx hb dX6_pickHard_14 rfl (lv_at hl 2 rfl) ?_
  refine j_get (9, 0, 0) 3 (v := .int ((sr I 23 (tS o n ((pik (I 22) n 2 s).2))) 23 2)) hC hB in_X6 lk_22 dX6_pickHard_15 jk9 rfl rfl (by decide) rfl ?_
  refine j_eqi (x := (sr I 23 (tS o n ((pik (I 22) n 2 s).2))) 23 2) (y := b2 (((pik (I 22) n 2 s).2).2)) (sr_sj.trans (tS_2)) ?_
  refine jb_if_ne (tgt := 79) hx hb dX6_pickHard_18 (by decide) (fun c_18 => ?_) (fun c_18 => ?_)
  · have eph : ph1 (I 22) n (pik (I 22) n 2 s) = ((pik (I 22) n 2 s).1, ((pik (I 22) n 2 s).2)) := by rw [ph1, if_neg (fun z => absurd (z.1.symm.trans c_18) (by decide))]
    refine lv_iload_n hx hb dX6_pickHard_79 rfl (lv_at hl 1 rfl) ?_
    refine lv_iconst (v := nI 1) hx hb dX6_pickHard_80 (by decide) ?_
    refine jn_icmp_lt (tgt := 90) hx hb dX6_pickHard_81 (by decide) (by omega) (by omega) (fun c_81 => ?_) (fun c_81 => ?_)
    · refine lv_aload_n hx hb dX6_pickHard_90 rfl (lv_at hl 2 rfl) ?_
      refine lv_iload_n hx hb dX6_pickHard_91 rfl (lv_at hl 0 rfl) ?_
      refine j_cvv (9, 0, 0) [.int ((nI (((pik (I 22) n 2 s).2).1)) - (nI 1))] hC hB hl.1 (c_X6_failAt l_ G (sr I 23 (tS o n ((pik (I 22) n 2 s).2))) J O ((nI (((pik (I 22) n 2 s).2).1)) - (nI 1)) (((pik (I 22) n 2 s).2.1 - 1)) (fun h => pk_sub (pik_1 h)) (hn) (pik_le (hs)) (sr_self)) (cwV 1 hts gX6_pickHard_X6_failAt rfl rfl rfl (by decide +kernel) ⟨by decide, by decide⟩) dX6_pickHard_92 jk9 rfl rfl rfl rfl (Nat.le_of_ble_eq_true rfl) (fun u_92 H locs hp_92 hB => ?_)
      obtain rfl := hp_92
      have hl_92 : (flS (((pik (I 22) n 2 s).2)) ((pik (I 22) n 2 s).2.1 - 1)).1 ≤ n := flS_le (pik_le (hs)) (by omega)
      have hB : jB G A s_.heap (sr I 23 (tS o n (flS (((pik (I 22) n 2 s).2)) ((pik (I 22) n 2 s).2.1 - 1))), J, O) H locs := by (rw [show sr I 23 (tS o n (flS (((pik (I 22) n 2 s).2)) ((pik (I 22) n 2 s).2.1 - 1))) = sr (sr I 23 (tS o n ((pik (I 22) n 2 s).2))) 23 (tS o n (flS (((pik (I 22) n 2 s).2)) ((pik (I 22) n 2 s).2.1 - 1))) from by funext a; simp +decide only [sr]; (repeat' split) <;> first | rfl | (exfalso; omega) | (subst_vars; rfl)]; exact hB)
      refine lv_iload_n hx hb dX6_pickHard_95 rfl (lv_at hl 1 rfl) ?_
      exact j_iret hC hB dX6_pickHard_96 (⟨by rw [ph, eph, if_pos (Or.inl (by omega))], by rw [ph, eph, if_pos (Or.inl (by omega))]⟩)
    · refine lv_iload_n hx hb dX6_pickHard_84 rfl (lv_at hl 1 rfl) ?_
      refine lv_bipush (v := nI 19) hx hb dX6_pickHard_85 (by decide) ?_
      refine jn_icmp_le (tgt := 95) hx hb dX6_pickHard_87 (by decide) (by omega) (by omega) (fun c_87 => ?_) (fun c_87 => ?_)
      · refine lv_iload_n hx hb dX6_pickHard_95 rfl (lv_at hl 1 rfl) ?_
        exact j_iret hC hB dX6_pickHard_96 (⟨by rw [ph, eph, if_neg (by omega)], by rw [ph, eph, if_neg (by omega)]⟩)
      · refine lv_aload_n hx hb dX6_pickHard_90 rfl (lv_at hl 2 rfl) ?_
        refine lv_iload_n hx hb dX6_pickHard_91 rfl (lv_at hl 0 rfl) ?_
        refine j_cvv (9, 0, 0) [.int ((nI (((pik (I 22) n 2 s).2).1)) - (nI 1))] hC hB hl.1 (c_X6_failAt l_ G (sr I 23 (tS o n ((pik (I 22) n 2 s).2))) J O ((nI (((pik (I 22) n 2 s).2).1)) - (nI 1)) (((pik (I 22) n 2 s).2.1 - 1)) (fun h => pk_sub (pik_1 h)) (hn) (pik_le (hs)) (sr_self)) (cwV 1 hts gX6_pickHard_X6_failAt rfl rfl rfl (by decide +kernel) ⟨by decide, by decide⟩) dX6_pickHard_92 jk9 rfl rfl rfl rfl (Nat.le_of_ble_eq_true rfl) (fun u_92 H locs hp_92 hB => ?_)
        obtain rfl := hp_92
        have hl_92 : (flS (((pik (I 22) n 2 s).2)) ((pik (I 22) n 2 s).2.1 - 1)).1 ≤ n := flS_le (pik_le (hs)) (by omega)
        have hB : jB G A s_.heap (sr I 23 (tS o n (flS (((pik (I 22) n 2 s).2)) ((pik (I 22) n 2 s).2.1 - 1))), J, O) H locs := by (rw [show sr I 23 (tS o n (flS (((pik (I 22) n 2 s).2)) ((pik (I 22) n 2 s).2.1 - 1))) = sr (sr I 23 (tS o n ((pik (I 22) n 2 s).2))) 23 (tS o n (flS (((pik (I 22) n 2 s).2)) ((pik (I 22) n 2 s).2.1 - 1))) from by funext a; simp +decide only [sr]; (repeat' split) <;> first | rfl | (exfalso; omega) | (subst_vars; rfl)]; exact hB)
        refine lv_iload_n hx hb dX6_pickHard_95 rfl (lv_at hl 1 rfl) ?_
        exact j_iret hC hB dX6_pickHard_96 (⟨by rw [ph, eph, if_pos (Or.inr (by omega))], by rw [ph, eph, if_pos (Or.inr (by omega))]⟩)
  · refine lv_aload_n hx hb dX6_pickHard_21 rfl (lv_at hl 2 rfl) ?_
    refine j_get (9, 0, 0) 2 (v := .int ((sr I 23 (tS o n ((pik (I 22) n 2 s).2))) 23 1)) hC hB in_X6 lk_19 dX6_pickHard_22 jk9 rfl rfl (by decide) rfl ?_
    refine j_eqi (x := (sr I 23 (tS o n ((pik (I 22) n 2 s).2))) 23 1) (y := nI (((pik (I 22) n 2 s).2).1)) (sr_sj.trans (tS_1)) ?_
    refine lv_aload_n hx hb dX6_pickHard_25 rfl (lv_at hl 2 rfl) ?_
    refine j_get (9, 0, 0) 1 (v := .int ((sr I 23 (tS o n ((pik (I 22) n 2 s).2))) 23 0)) hC hB in_X6 lk_15 dX6_pickHard_26 jk9 rfl rfl (by decide) rfl ?_
    refine j_eqi (x := (sr I 23 (tS o n ((pik (I 22) n 2 s).2))) 23 0) (y := nI n) (sr_sj.trans (tS_0)) ?_
    refine jn_icmp_ge (tgt := 79) hx hb dX6_pickHard_29 (by decide) (by omega) (by omega) (fun c_29 => ?_) (fun c_29 => ?_)
    · have eph : ph1 (I 22) n (pik (I 22) n 2 s) = ((pik (I 22) n 2 s).1, ((pik (I 22) n 2 s).2)) := by rw [ph1, if_neg (fun z => absurd z.2.1 (by omega))]
      refine lv_iload_n hx hb dX6_pickHard_79 rfl (lv_at hl 1 rfl) ?_
      refine lv_iconst (v := nI 1) hx hb dX6_pickHard_80 (by decide) ?_
      refine jn_icmp_lt (tgt := 90) hx hb dX6_pickHard_81 (by decide) (by omega) (by omega) (fun c_81 => ?_) (fun c_81 => ?_)
      · refine lv_aload_n hx hb dX6_pickHard_90 rfl (lv_at hl 2 rfl) ?_
        refine lv_iload_n hx hb dX6_pickHard_91 rfl (lv_at hl 0 rfl) ?_
        refine j_cvv (9, 0, 0) [.int ((nI (((pik (I 22) n 2 s).2).1)) - (nI 1))] hC hB hl.1 (c_X6_failAt l_ G (sr I 23 (tS o n ((pik (I 22) n 2 s).2))) J O ((nI (((pik (I 22) n 2 s).2).1)) - (nI 1)) (((pik (I 22) n 2 s).2.1 - 1)) (fun h => pk_sub (pik_1 h)) (hn) (pik_le (hs)) (sr_self)) (cwV 1 hts gX6_pickHard_X6_failAt rfl rfl rfl (by decide +kernel) ⟨by decide, by decide⟩) dX6_pickHard_92 jk9 rfl rfl rfl rfl (Nat.le_of_ble_eq_true rfl) (fun u_92 H locs hp_92 hB => ?_)
        obtain rfl := hp_92
        have hl_92 : (flS (((pik (I 22) n 2 s).2)) ((pik (I 22) n 2 s).2.1 - 1)).1 ≤ n := flS_le (pik_le (hs)) (by omega)
        have hB : jB G A s_.heap (sr I 23 (tS o n (flS (((pik (I 22) n 2 s).2)) ((pik (I 22) n 2 s).2.1 - 1))), J, O) H locs := by (rw [show sr I 23 (tS o n (flS (((pik (I 22) n 2 s).2)) ((pik (I 22) n 2 s).2.1 - 1))) = sr (sr I 23 (tS o n ((pik (I 22) n 2 s).2))) 23 (tS o n (flS (((pik (I 22) n 2 s).2)) ((pik (I 22) n 2 s).2.1 - 1))) from by funext a; simp +decide only [sr]; (repeat' split) <;> first | rfl | (exfalso; omega) | (subst_vars; rfl)]; exact hB)
        refine lv_iload_n hx hb dX6_pickHard_95 rfl (lv_at hl 1 rfl) ?_
        exact j_iret hC hB dX6_pickHard_96 (⟨by rw [ph, eph, if_pos (Or.inl (by omega))], by rw [ph, eph, if_pos (Or.inl (by omega))]⟩)
      · refine lv_iload_n hx hb dX6_pickHard_84 rfl (lv_at hl 1 rfl) ?_
        refine lv_bipush (v := nI 19) hx hb dX6_pickHard_85 (by decide) ?_
        refine jn_icmp_le (tgt := 95) hx hb dX6_pickHard_87 (by decide) (by omega) (by omega) (fun c_87 => ?_) (fun c_87 => ?_)
        · refine lv_iload_n hx hb dX6_pickHard_95 rfl (lv_at hl 1 rfl) ?_
          exact j_iret hC hB dX6_pickHard_96 (⟨by rw [ph, eph, if_neg (by omega)], by rw [ph, eph, if_neg (by omega)]⟩)
        · refine lv_aload_n hx hb dX6_pickHard_90 rfl (lv_at hl 2 rfl) ?_
          refine lv_iload_n hx hb dX6_pickHard_91 rfl (lv_at hl 0 rfl) ?_
          refine j_cvv (9, 0, 0) [.int ((nI (((pik (I 22) n 2 s).2).1)) - (nI 1))] hC hB hl.1 (c_X6_failAt l_ G (sr I 23 (tS o n ((pik (I 22) n 2 s).2))) J O ((nI (((pik (I 22) n 2 s).2).1)) - (nI 1)) (((pik (I 22) n 2 s).2.1 - 1)) (fun h => pk_sub (pik_1 h)) (hn) (pik_le (hs)) (sr_self)) (cwV 1 hts gX6_pickHard_X6_failAt rfl rfl rfl (by decide +kernel) ⟨by decide, by decide⟩) dX6_pickHard_92 jk9 rfl rfl rfl rfl (Nat.le_of_ble_eq_true rfl) (fun u_92 H locs hp_92 hB => ?_)
          obtain rfl := hp_92
          have hl_92 : (flS (((pik (I 22) n 2 s).2)) ((pik (I 22) n 2 s).2.1 - 1)).1 ≤ n := flS_le (pik_le (hs)) (by omega)
          have hB : jB G A s_.heap (sr I 23 (tS o n (flS (((pik (I 22) n 2 s).2)) ((pik (I 22) n 2 s).2.1 - 1))), J, O) H locs := by (rw [show sr I 23 (tS o n (flS (((pik (I 22) n 2 s).2)) ((pik (I 22) n 2 s).2.1 - 1))) = sr (sr I 23 (tS o n ((pik (I 22) n 2 s).2))) 23 (tS o n (flS (((pik (I 22) n 2 s).2)) ((pik (I 22) n 2 s).2.1 - 1))) from by funext a; simp +decide only [sr]; (repeat' split) <;> first | rfl | (exfalso; omega) | (subst_vars; rfl)]; exact hB)
          refine lv_iload_n hx hb dX6_pickHard_95 rfl (lv_at hl 1 rfl) ?_
          exact j_iret hC hB dX6_pickHard_96 (⟨by rw [ph, eph, if_pos (Or.inr (by omega))], by rw [ph, eph, if_pos (Or.inr (by omega))]⟩)
    · refine j_tldc 2 (by decide) rfl rfl hC hB dX6_pickHard_32 ?_
      refine lv_aload_n hx hb dX6_pickHard_34 rfl (lv_at hl 2 rfl) ?_
      refine j_get (9, 0, 0) 0 (v := .ref (G.2.2.1 (10, 0, 0))) hC hB in_X6 lk_9 dX6_pickHard_35 jk9 rfl rfl (by decide) rfl ?_
      refine lv_aload_n hx hb dX6_pickHard_38 rfl (lv_at hl 2 rfl) ?_
      refine j_get (9, 0, 0) 2 (v := .int ((sr I 23 (tS o n ((pik (I 22) n 2 s).2))) 23 1)) hC hB in_X6 lk_19 dX6_pickHard_39 jk9 rfl rfl (by decide) rfl ?_
      refine j_eqi (x := (sr I 23 (tS o n ((pik (I 22) n 2 s).2))) 23 1) (y := nI (((pik (I 22) n 2 s).2).1)) (sr_sj.trans (tS_1)) ?_
      refine j_cld (((pik (I 22) n 2 s).2).1) hC hB dX6_pickHard_42 rfl (by omega) ?_
      refine j_eqi (x := (sr I 23 (tS o n ((pik (I 22) n 2 s).2))) 22 (((pik (I 22) n 2 s).2).1)) (y := (I 22) (((pik (I 22) n 2 s).2).1)) ((sr_nj (show (22 : Nat) ≠ 23 by omega))) ?_
      refine j_tcvi 2 [.int ((I 22) (((pik (I 22) n 2 s).2).1))] (by omega) hC hB hl.1 (c_J0_indexOf_0f7a4 l_ G (sr I 23 (tS o n ((pik (I 22) n 2 s).2))) J O 2 ((I 22) (((pik (I 22) n 2 s).2).1)) (by omega)) (cwV 1 hts gX6_pickHard_J0_indexOf_0f7a4 rfl rfl rfl (by decide +kernel) ⟨by decide, by decide⟩) dX6_pickHard_43 rfl rfl (Nat.le_of_ble_eq_true rfl) (fun r_43 u_43 H locs hp_43 hB => ?_)
      obtain ⟨rfl, rfl⟩ := hp_43
      refine j_eqi (y := txO 2 ((I 22) (((pik (I 22) n 2 s).2).1))) (rfl) ?_
      refine lv_if_lt (tgt := 79) hx hb dX6_pickHard_46 (by decide) (fun c_46 => ?_) (fun c_46 => ?_)
      · have eph : ph1 (I 22) n (pik (I 22) n 2 s) = ((pik (I 22) n 2 s).1, ((pik (I 22) n 2 s).2)) := by rw [ph1, if_neg (fun z => Int32.not_lt.mpr z.2.2 c_46)]
        refine lv_iload_n hx hb dX6_pickHard_79 rfl (lv_at hl 1 rfl) ?_
        refine lv_iconst (v := nI 1) hx hb dX6_pickHard_80 (by decide) ?_
        refine jn_icmp_lt (tgt := 90) hx hb dX6_pickHard_81 (by decide) (by omega) (by omega) (fun c_81 => ?_) (fun c_81 => ?_)
        · refine lv_aload_n hx hb dX6_pickHard_90 rfl (lv_at hl 2 rfl) ?_
          refine lv_iload_n hx hb dX6_pickHard_91 rfl (lv_at hl 0 rfl) ?_
          refine j_cvv (9, 0, 0) [.int ((nI (((pik (I 22) n 2 s).2).1)) - (nI 1))] hC hB hl.1 (c_X6_failAt l_ G (sr I 23 (tS o n ((pik (I 22) n 2 s).2))) J O ((nI (((pik (I 22) n 2 s).2).1)) - (nI 1)) (((pik (I 22) n 2 s).2.1 - 1)) (fun h => pk_sub (pik_1 h)) (hn) (pik_le (hs)) (sr_self)) (cwV 1 hts gX6_pickHard_X6_failAt rfl rfl rfl (by decide +kernel) ⟨by decide, by decide⟩) dX6_pickHard_92 jk9 rfl rfl rfl rfl (Nat.le_of_ble_eq_true rfl) (fun u_92 H locs hp_92 hB => ?_)
          obtain rfl := hp_92
          have hl_92 : (flS (((pik (I 22) n 2 s).2)) ((pik (I 22) n 2 s).2.1 - 1)).1 ≤ n := flS_le (pik_le (hs)) (by omega)
          have hB : jB G A s_.heap (sr I 23 (tS o n (flS (((pik (I 22) n 2 s).2)) ((pik (I 22) n 2 s).2.1 - 1))), J, O) H locs := by (rw [show sr I 23 (tS o n (flS (((pik (I 22) n 2 s).2)) ((pik (I 22) n 2 s).2.1 - 1))) = sr (sr I 23 (tS o n ((pik (I 22) n 2 s).2))) 23 (tS o n (flS (((pik (I 22) n 2 s).2)) ((pik (I 22) n 2 s).2.1 - 1))) from by funext a; simp +decide only [sr]; (repeat' split) <;> first | rfl | (exfalso; omega) | (subst_vars; rfl)]; exact hB)
          refine lv_iload_n hx hb dX6_pickHard_95 rfl (lv_at hl 1 rfl) ?_
          exact j_iret hC hB dX6_pickHard_96 (⟨by rw [ph, eph, if_pos (Or.inl (by omega))], by rw [ph, eph, if_pos (Or.inl (by omega))]⟩)
        · refine lv_iload_n hx hb dX6_pickHard_84 rfl (lv_at hl 1 rfl) ?_
          refine lv_bipush (v := nI 19) hx hb dX6_pickHard_85 (by decide) ?_
          refine jn_icmp_le (tgt := 95) hx hb dX6_pickHard_87 (by decide) (by omega) (by omega) (fun c_87 => ?_) (fun c_87 => ?_)
          · refine lv_iload_n hx hb dX6_pickHard_95 rfl (lv_at hl 1 rfl) ?_
            exact j_iret hC hB dX6_pickHard_96 (⟨by rw [ph, eph, if_neg (by omega)], by rw [ph, eph, if_neg (by omega)]⟩)
          · refine lv_aload_n hx hb dX6_pickHard_90 rfl (lv_at hl 2 rfl) ?_
            refine lv_iload_n hx hb dX6_pickHard_91 rfl (lv_at hl 0 rfl) ?_
            refine j_cvv (9, 0, 0) [.int ((nI (((pik (I 22) n 2 s).2).1)) - (nI 1))] hC hB hl.1 (c_X6_failAt l_ G (sr I 23 (tS o n ((pik (I 22) n 2 s).2))) J O ((nI (((pik (I 22) n 2 s).2).1)) - (nI 1)) (((pik (I 22) n 2 s).2.1 - 1)) (fun h => pk_sub (pik_1 h)) (hn) (pik_le (hs)) (sr_self)) (cwV 1 hts gX6_pickHard_X6_failAt rfl rfl rfl (by decide +kernel) ⟨by decide, by decide⟩) dX6_pickHard_92 jk9 rfl rfl rfl rfl (Nat.le_of_ble_eq_true rfl) (fun u_92 H locs hp_92 hB => ?_)
            obtain rfl := hp_92
            have hl_92 : (flS (((pik (I 22) n 2 s).2)) ((pik (I 22) n 2 s).2.1 - 1)).1 ≤ n := flS_le (pik_le (hs)) (by omega)
            have hB : jB G A s_.heap (sr I 23 (tS o n (flS (((pik (I 22) n 2 s).2)) ((pik (I 22) n 2 s).2.1 - 1))), J, O) H locs := by (rw [show sr I 23 (tS o n (flS (((pik (I 22) n 2 s).2)) ((pik (I 22) n 2 s).2.1 - 1))) = sr (sr I 23 (tS o n ((pik (I 22) n 2 s).2))) 23 (tS o n (flS (((pik (I 22) n 2 s).2)) ((pik (I 22) n 2 s).2.1 - 1))) from by funext a; simp +decide only [sr]; (repeat' split) <;> first | rfl | (exfalso; omega) | (subst_vars; rfl)]; exact hB)
            refine lv_iload_n hx hb dX6_pickHard_95 rfl (lv_at hl 1 rfl) ?_
            exact j_iret hC hB dX6_pickHard_96 (⟨by rw [ph, eph, if_pos (Or.inr (by omega))], by rw [ph, eph, if_pos (Or.inr (by omega))]⟩)
      · have htx := (txO_nat (i := 2) (by decide) (Int32.not_lt.mp c_46)).2
        refine lv_iload_n hx hb dX6_pickHard_49 rfl (lv_at hl 1 rfl) ?_
        refine lv_bipush (v := nI 10) hx hb dX6_pickHard_50 (by decide) ?_
        refine jn_imul hx hb dX6_pickHard_52 ?_
        refine j_tldc 2 (by decide) rfl rfl hC hB dX6_pickHard_53 ?_
        refine lv_aload_n hx hb dX6_pickHard_55 rfl (lv_at hl 2 rfl) ?_
        refine j_get (9, 0, 0) 0 (v := .ref (G.2.2.1 (10, 0, 0))) hC hB in_X6 lk_9 dX6_pickHard_56 jk9 rfl rfl (by decide) rfl ?_
        refine lv_aload_n hx hb dX6_pickHard_59 rfl (lv_at hl 2 rfl) ?_
        refine j_get (9, 0, 0) 2 (v := .int ((sr I 23 (tS o n ((pik (I 22) n 2 s).2))) 23 1)) hC hB in_X6 lk_19 dX6_pickHard_60 jk9 rfl rfl (by decide) rfl ?_
        refine j_eqi (x := (sr I 23 (tS o n ((pik (I 22) n 2 s).2))) 23 1) (y := nI (((pik (I 22) n 2 s).2).1)) (sr_sj.trans (tS_1)) ?_
        refine j_cld (((pik (I 22) n 2 s).2).1) hC hB dX6_pickHard_63 rfl (by omega) ?_
        refine j_eqi (x := (sr I 23 (tS o n ((pik (I 22) n 2 s).2))) 22 (((pik (I 22) n 2 s).2).1)) (y := (I 22) (((pik (I 22) n 2 s).2).1)) ((sr_nj (show (22 : Nat) ≠ 23 by omega))) ?_
        refine j_tcvi 2 [.int ((I 22) (((pik (I 22) n 2 s).2).1))] (by omega) hC hB hl.1 (c_J0_indexOf_0f7a4 l_ G (sr I 23 (tS o n ((pik (I 22) n 2 s).2))) J O 2 ((I 22) (((pik (I 22) n 2 s).2).1)) (by omega)) (cwV 1 hts gX6_pickHard_J0_indexOf_0f7a4 rfl rfl rfl (by decide +kernel) ⟨by decide, by decide⟩) dX6_pickHard_64 rfl rfl (Nat.le_of_ble_eq_true rfl) (fun r_64 u_64 H locs hp_64 hB => ?_)
        obtain ⟨rfl, rfl⟩ := hp_64
        refine j_eqi (y := txO 2 ((I 22) (((pik (I 22) n 2 s).2).1))) (rfl) ?_
        refine lv_iadd hx hb dX6_pickHard_67 ?_
        refine j_eqi (y := nI ((pik (I 22) n 2 s).1 * 10 + tN (txO 2 (I 22 (pik (I 22) n 2 s).2.1)))) (by rw [(txO_nat (i := 2) (by decide) (Int32.not_lt.mp c_46)).1, nI_add, ← (txO_nat (i := 2) (by decide) (Int32.not_lt.mp c_46)).1]) ?_
        refine lv_istore_n (lv' := [(1, .int (nI ((pik (I 22) n 2 s).1 * 10 + tN (txO 2 (I 22 (pik (I 22) n 2 s).2.1))))), (2, .int ((nI (((pik (I 22) n 2 s).2).1)) - (nI 1))), (0, .ref (G.2.2.1 (9, 0, 0)))]) hx hb dX6_pickHard_68 rfl hl (by decide) rfl (fun ls hl => ?_)
        refine lv_aload_n hx hb dX6_pickHard_69 rfl (lv_at hl 2 rfl) ?_
        refine lv_dup hx hb dX6_pickHard_70 rfl ?_
        refine j_get (9, 0, 0) 2 (v := .int ((sr I 23 (tS o n ((pik (I 22) n 2 s).2))) 23 1)) hC hB in_X6 lk_19 dX6_pickHard_71 jk9 rfl rfl (by decide) rfl ?_
        refine j_eqi (x := (sr I 23 (tS o n ((pik (I 22) n 2 s).2))) 23 1) (y := nI (((pik (I 22) n 2 s).2).1)) (sr_sj.trans (tS_1)) ?_
        refine lv_iconst (v := nI 1) hx hb dX6_pickHard_74 (by decide) ?_
        refine jn_iadd hx hb dX6_pickHard_75 ?_
        refine j_put (9, 0, 0) 2 (u2 (sr I 23 (tS o n ((pik (I 22) n 2 s).2))) 23 1 (nI (((pik (I 22) n 2 s).2).1 + 1)), J, O) (ty := .int) hC hB in_X6 tyX6_ok nmX6 lk_19 dX6_pickHard_76 jk9 rfl rfl (by decide) rfl (by decide +kernel) rfl rfl (Nat.le_of_ble_eq_true rfl) (fun z hz hne => jw_fr z hz hne) (rfl) (fun H locs hB => ?_)
        have hB : jB G A s_.heap (sr I 23 (upd (tS o n ((pik (I 22) n 2 s).2)) 1 (nI (((pik (I 22) n 2 s).2).1 + 1))), J, O) H locs := by rw [show sr I 23 (upd (tS o n ((pik (I 22) n 2 s).2)) 1 (nI (((pik (I 22) n 2 s).2).1 + 1))) = u2 (sr I 23 (tS o n ((pik (I 22) n 2 s).2))) 23 1 (nI (((pik (I 22) n 2 s).2).1 + 1)) from (u2_sr _ _ _ _ _).symm]; exact hB
        have hB : jB G A s_.heap (sr I 23 (tS o n ((pik (I 22) n 2 s).2.1 + 1, (pik (I 22) n 2 s).2.2)), J, O) H locs := by rw [← show upd (tS o n ((pik (I 22) n 2 s).2)) 1 (nI (((pik (I 22) n 2 s).2).1 + 1)) = tS o n ((pik (I 22) n 2 s).2.1 + 1, (pik (I 22) n 2 s).2.2) from tS_p]; exact hB
        have eph : ph1 (I 22) n (pik (I 22) n 2 s) = ((pik (I 22) n 2 s).1 * 10 + tN (txO 2 (I 22 (pik (I 22) n 2 s).2.1)), ((pik (I 22) n 2 s).2.1 + 1, (pik (I 22) n 2 s).2.2)) := by rw [ph1, if_pos ⟨c_18, c_29, Int32.not_lt.mp c_46⟩]
        refine lv_iload_n hx hb dX6_pickHard_79 rfl (lv_at hl 0 rfl) ?_
        refine lv_iconst (v := nI 1) hx hb dX6_pickHard_80 (by decide) ?_
        refine jn_icmp_lt (tgt := 90) hx hb dX6_pickHard_81 (by decide) (by omega) (by omega) (fun c_81 => ?_) (fun c_81 => ?_)
        · refine lv_aload_n hx hb dX6_pickHard_90 rfl (lv_at hl 2 rfl) ?_
          refine lv_iload_n hx hb dX6_pickHard_91 rfl (lv_at hl 1 rfl) ?_
          refine j_cvv (9, 0, 0) [.int ((nI (((pik (I 22) n 2 s).2).1)) - (nI 1))] hC hB hl.1 (c_X6_failAt l_ G (sr I 23 (tS o n ((pik (I 22) n 2 s).2.1 + 1, (pik (I 22) n 2 s).2.2))) J O ((nI (((pik (I 22) n 2 s).2).1)) - (nI 1)) (((pik (I 22) n 2 s).2.1 - 1)) (fun _ => pk_sub (pik_1 c_18)) (hn) (by omega) (sr_self)) (cwV 1 hts gX6_pickHard_X6_failAt rfl rfl rfl (by decide +kernel) ⟨by decide, by decide⟩) dX6_pickHard_92 jk9 rfl rfl rfl rfl (Nat.le_of_ble_eq_true rfl) (fun u_92 H locs hp_92 hB => ?_)
          obtain rfl := hp_92
          have hl_92 : (flS (((pik (I 22) n 2 s).2.1 + 1, (pik (I 22) n 2 s).2.2)) ((pik (I 22) n 2 s).2.1 - 1)).1 ≤ n := flS_le (by omega) (by omega)
          have hB : jB G A s_.heap (sr I 23 (tS o n (flS (((pik (I 22) n 2 s).2.1 + 1, (pik (I 22) n 2 s).2.2)) ((pik (I 22) n 2 s).2.1 - 1))), J, O) H locs := by (rw [show sr I 23 (tS o n (flS (((pik (I 22) n 2 s).2.1 + 1, (pik (I 22) n 2 s).2.2)) ((pik (I 22) n 2 s).2.1 - 1))) = sr (sr I 23 (tS o n ((pik (I 22) n 2 s).2.1 + 1, (pik (I 22) n 2 s).2.2))) 23 (tS o n (flS (((pik (I 22) n 2 s).2.1 + 1, (pik (I 22) n 2 s).2.2)) ((pik (I 22) n 2 s).2.1 - 1))) from by funext a; simp +decide only [sr]; (repeat' split) <;> first | rfl | (exfalso; omega) | (subst_vars; rfl)]; exact hB)
          refine lv_iload_n hx hb dX6_pickHard_95 rfl (lv_at hl 0 rfl) ?_
          exact j_iret hC hB dX6_pickHard_96 (⟨by rw [ph, eph, if_pos (Or.inl (by omega))], by rw [ph, eph, if_pos (Or.inl (by omega))]⟩)
        · refine lv_iload_n hx hb dX6_pickHard_84 rfl (lv_at hl 0 rfl) ?_
          refine lv_bipush (v := nI 19) hx hb dX6_pickHard_85 (by decide) ?_
          refine jn_icmp_le (tgt := 95) hx hb dX6_pickHard_87 (by decide) (by omega) (by omega) (fun c_87 => ?_) (fun c_87 => ?_)
          · refine lv_iload_n hx hb dX6_pickHard_95 rfl (lv_at hl 0 rfl) ?_
            exact j_iret hC hB dX6_pickHard_96 (⟨by rw [ph, eph, if_neg (by omega)], by rw [ph, eph, if_neg (by omega)]⟩)
          · refine lv_aload_n hx hb dX6_pickHard_90 rfl (lv_at hl 2 rfl) ?_
            refine lv_iload_n hx hb dX6_pickHard_91 rfl (lv_at hl 1 rfl) ?_
            refine j_cvv (9, 0, 0) [.int ((nI (((pik (I 22) n 2 s).2).1)) - (nI 1))] hC hB hl.1 (c_X6_failAt l_ G (sr I 23 (tS o n ((pik (I 22) n 2 s).2.1 + 1, (pik (I 22) n 2 s).2.2))) J O ((nI (((pik (I 22) n 2 s).2).1)) - (nI 1)) (((pik (I 22) n 2 s).2.1 - 1)) (fun _ => pk_sub (pik_1 c_18)) (hn) (by omega) (sr_self)) (cwV 1 hts gX6_pickHard_X6_failAt rfl rfl rfl (by decide +kernel) ⟨by decide, by decide⟩) dX6_pickHard_92 jk9 rfl rfl rfl rfl (Nat.le_of_ble_eq_true rfl) (fun u_92 H locs hp_92 hB => ?_)
            obtain rfl := hp_92
            have hl_92 : (flS (((pik (I 22) n 2 s).2.1 + 1, (pik (I 22) n 2 s).2.2)) ((pik (I 22) n 2 s).2.1 - 1)).1 ≤ n := flS_le (by omega) (by omega)
            have hB : jB G A s_.heap (sr I 23 (tS o n (flS (((pik (I 22) n 2 s).2.1 + 1, (pik (I 22) n 2 s).2.2)) ((pik (I 22) n 2 s).2.1 - 1))), J, O) H locs := by (rw [show sr I 23 (tS o n (flS (((pik (I 22) n 2 s).2.1 + 1, (pik (I 22) n 2 s).2.2)) ((pik (I 22) n 2 s).2.1 - 1))) = sr (sr I 23 (tS o n ((pik (I 22) n 2 s).2.1 + 1, (pik (I 22) n 2 s).2.2))) 23 (tS o n (flS (((pik (I 22) n 2 s).2.1 + 1, (pik (I 22) n 2 s).2.2)) ((pik (I 22) n 2 s).2.1 - 1))) from by funext a; simp +decide only [sr]; (repeat' split) <;> first | rfl | (exfalso; omega) | (subst_vars; rfl)]; exact hB)
            refine lv_iload_n hx hb dX6_pickHard_95 rfl (lv_at hl 0 rfl) ?_
            exact j_iret hC hB dX6_pickHard_96 (⟨by rw [ph, eph, if_pos (Or.inr (by omega))], by rw [ph, eph, if_pos (Or.inr (by omega))]⟩)

set_option maxHeartbeats 4000000 in
set_option maxRecDepth 100000 in
theorem c_X6_parseDoor (l_ : Launch) (G : jG) (I : Nat → Nat → Int32) (J : Nat → Nat → Int64) (O : Nat → Nat → Nat) {nd : Nat} (hnd : nd < 10) (hD : I 2 0 = nI nd) {o : Nat → Int32} {n : Nat} {s : Nat × Bool} (hn : n ≤ 90) (hs : s.1 ≤ n) (hT : I 23 = tS o n s) : jMv l_ G yX6_parseDoor wsX6_parseDoor ({ frames := 6, cells := 0, slots := 0, locals := 140 }) [.ref (G.2.2.1 (9, 0, 0)), .ref (G.2.2.1 (1, 2, 0))] (I, J, O) (fun u => u = (sr (sr I 23 (tS o n (pdS (I 22) n s))) 2 (pdR (I 22) n s (I 2)), J, O)) := by
  refine jMv_of (cc := cX6_parseDoor) (maxL := 6) (ret := none) (lv0 := [(0, .ref (G.2.2.1 (9, 0, 0))), (1, .ref (G.2.2.1 (1, 2, 0)))]) (by decide) rfl (Nat.le_of_ble_eq_true rfl) rfl ?_
  intro pg_ ev_ s_ mi_ below meth cd_ A ls hC hB hl
  obtain ⟨hx, hb, hr, hml, hown, hts, hlocks, hK, hA⟩ := id hC
  have lk_19 := hts (.fieldLink RX6 19 "RiddlePrison$Tape" "place" "I") (by decide +kernel)
  have in_X6 := (fun w h => List.mem_cons_of_mem _ (List.mem_append_left _ (List.mem_append_left _ (List.mem_append_right _ h))) : ∀ w ∈ wsX60, w ∈ wsX6_parseDoor)
  have hT0 : I 23 0 = nI n := by rw [hT]; exact tS_0
  have hT1 : I 23 1 = nI s.1 := by rw [hT]; exact tS_1
  have hT2 : I 23 2 = b2 s.2 := by rw [hT]; exact tS_2
  refine lv_aload_n hx hb dX6_parseDoor_0 rfl (lv_at hl 0 rfl) ?_
  refine j_tldc 0 (by decide) rfl rfl hC hB dX6_parseDoor_1 ?_
  refine j_cvi (9, 0, 0) [.ref (G.2.2.1 (30, 0, 0))] hC hB hl.1 (c_X6_pick l_ G I J O 0 (by omega) (hn) (hs) (hT)) (cwV 1 hts gX6_parseDoor_X6_pick rfl rfl rfl (by decide +kernel) ⟨by decide, by decide⟩) dX6_parseDoor_3 jk9 rfl rfl rfl rfl (Nat.le_of_ble_eq_true rfl) (fun r_3 u_3 H locs hp_3 hB => ?_)
  obtain ⟨rfl, rfl⟩ := hp_3
  have hv_3 := pik_lt (t := I 22) (n := n) (s := s) (i := 0) (by decide)
  have hl_3 : ((pik (I 22) n 0 s).2).1 ≤ n := pik_le (hs)
  have hB : jB G A s_.heap (sr I 23 (tS o n ((pik (I 22) n 0 s).2)), J, O) H locs := hB
  refine j_eqi (y := nI ((pik (I 22) n 0 s).1)) (rfl) ?_
  refine lv_istore_n (lv' := [(2, .int (nI ((pik (I 22) n 0 s).1))), (0, .ref (G.2.2.1 (9, 0, 0))), (1, .ref (G.2.2.1 (1, 2, 0)))]) hx hb dX6_parseDoor_6 rfl hl (by decide) rfl (fun ls hl => ?_)
  refine lv_aload_n hx hb dX6_parseDoor_7 rfl (lv_at hl 1 rfl) ?_
  refine j_tldc 0 (by decide) rfl rfl hC hB dX6_parseDoor_8 ?_
  refine j_cvi (9, 0, 0) [.ref (G.2.2.1 (30, 0, 0))] hC hB hl.1 (c_X6_pick l_ G (sr I 23 (tS o n ((pik (I 22) n 0 s).2))) J O 0 (by omega) (hn) (pik_le (hs)) (sr_self)) (cwV 1 hts gX6_parseDoor_X6_pick rfl rfl rfl (by decide +kernel) ⟨by decide, by decide⟩) dX6_parseDoor_10 jk9 rfl rfl rfl rfl (Nat.le_of_ble_eq_true rfl) (fun r_10 u_10 H locs hp_10 hB => ?_)
  obtain ⟨rfl, rfl⟩ := hp_10
  have hv_10 := pik_lt (t := I 22) (n := n) (s := ((pik (I 22) n 0 s).2)) (i := 0) (by decide)
  have hl_10 : ((pik (I 22) n 0 (((pik (I 22) n 0 s).2))).2).1 ≤ n := pik_le (pik_le (hs))
  have hB : jB G A s_.heap (sr I 23 (tS o n ((pik (I 22) n 0 (((pik (I 22) n 0 s).2))).2)), J, O) H locs := by (rw [show sr I 23 (tS o n ((pik (I 22) n 0 (((pik (I 22) n 0 s).2))).2)) = sr (sr I 23 (tS o n ((pik (I 22) n 0 s).2))) 23 (tS o n ((pik (I 22) n 0 (((pik (I 22) n 0 s).2))).2)) from by funext a; simp +decide only [sr]; (repeat' split) <;> first | rfl | (exfalso; omega) | (subst_vars; rfl)]; exact hB)
  refine j_eqi (y := nI ((pik (I 22) n 0 (((pik (I 22) n 0 s).2))).1)) (rfl) ?_
  refine lv_istore_n (lv' := [(3, .int (nI ((pik (I 22) n 0 (((pik (I 22) n 0 s).2))).1))), (2, .int (nI ((pik (I 22) n 0 s).1))), (0, .ref (G.2.2.1 (9, 0, 0))), (1, .ref (G.2.2.1 (1, 2, 0)))]) hx hb dX6_parseDoor_13 rfl hl (by decide) rfl (fun ls hl => ?_)
  refine lv_iload_n hx hb dX6_parseDoor_14 rfl (lv_at hl 0 rfl) ?_
  refine lv_iload_n hx hb dX6_parseDoor_15 rfl (lv_at hl 1 rfl) ?_
  refine jn_icmp_ne (tgt := 29) hx hb dX6_parseDoor_16 (by decide) (by omega) (by omega) (fun c_16 => ?_) (fun c_16 => ?_)
  · have hB : jB G A s_.heap (sr I 23 (tS o n (pd2 (I 22) n s)), J, O) H locs := by rw [← show tS o n ((pik (I 22) n 0 (((pik (I 22) n 0 s).2))).2) = tS o n (pd2 (I 22) n s) from by rw [pd2, if_neg c_16]]; exact hB
    refine lv_aload_n hx hb dX6_parseDoor_29 rfl (lv_at hl 2 rfl) ?_
    refine j_tldc 1 (by decide) rfl rfl hC hB dX6_parseDoor_30 ?_
    refine j_cvi (9, 0, 0) [.ref (G.2.2.1 (30, 1, 0))] hC hB hl.1 (c_X6_pick l_ G (sr I 23 (tS o n (pd2 (I 22) n s))) J O 1 (by omega) (hn) (pd2_le hs) (sr_self)) (cwV 1 hts gX6_parseDoor_X6_pick rfl rfl rfl (by decide +kernel) ⟨by decide, by decide⟩) dX6_parseDoor_32 jk9 rfl rfl rfl rfl (Nat.le_of_ble_eq_true rfl) (fun r_32 u_32 H locs hp_32 hB => ?_)
    obtain ⟨rfl, rfl⟩ := hp_32
    have hv_32 := pik_lt (t := I 22) (n := n) (s := (pd2 (I 22) n s)) (i := 1) (by decide)
    have hl_32 : ((pik (I 22) n 1 ((pd2 (I 22) n s))).2).1 ≤ n := pik_le (pd2_le hs)
    have hB : jB G A s_.heap (sr I 23 (tS o n ((pik (I 22) n 1 ((pd2 (I 22) n s))).2)), J, O) H locs := by (rw [show sr I 23 (tS o n ((pik (I 22) n 1 ((pd2 (I 22) n s))).2)) = sr (sr I 23 (tS o n (pd2 (I 22) n s))) 23 (tS o n ((pik (I 22) n 1 ((pd2 (I 22) n s))).2)) from by funext a; simp +decide only [sr]; (repeat' split) <;> first | rfl | (exfalso; omega) | (subst_vars; rfl)]; exact hB)
    refine j_eqi (y := nI ((pik (I 22) n 1 ((pd2 (I 22) n s))).1)) (rfl) ?_
    refine lv_istore (lv' := [(4, .int (nI ((pik (I 22) n 1 ((pd2 (I 22) n s))).1))), (3, .int (nI ((pik (I 22) n 0 (((pik (I 22) n 0 s).2))).1))), (2, .int (nI ((pik (I 22) n 0 s).1))), (0, .ref (G.2.2.1 (9, 0, 0))), (1, .ref (G.2.2.1 (1, 2, 0)))]) hx hb dX6_parseDoor_35 hl (by decide) rfl (fun ls hl => ?_)
    refine lv_aload_n hx hb dX6_parseDoor_37 rfl (lv_at hl 3 rfl) ?_
    refine j_cvi (9, 0, 0) [] hC hB hl.1 (c_X6_pickHard l_ G (sr I 23 (tS o n ((pik (I 22) n 1 ((pd2 (I 22) n s))).2))) J O  (hn) (pik_le (pd2_le hs)) (sr_self)) (cwV 0 hts gX6_parseDoor_X6_pickHard rfl rfl rfl (by decide +kernel) ⟨by decide, by decide⟩) dX6_parseDoor_38 jk9 rfl rfl rfl rfl (Nat.le_of_ble_eq_true rfl) (fun r_38 u_38 H locs hp_38 hB => ?_)
    obtain ⟨rfl, rfl⟩ := hp_38
    have hv_38 := (ph_le (t := I 22) (s := ((pik (I 22) n 1 ((pd2 (I 22) n s))).2)) (pik_le (pd2_le hs))).2
    have hl_38 : ((ph (I 22) n (((pik (I 22) n 1 ((pd2 (I 22) n s))).2))).2).1 ≤ n := (ph_le (pik_le (pd2_le hs))).1
    have hB : jB G A s_.heap (sr I 23 (tS o n ((ph (I 22) n (((pik (I 22) n 1 ((pd2 (I 22) n s))).2))).2)), J, O) H locs := by (rw [show sr I 23 (tS o n ((ph (I 22) n (((pik (I 22) n 1 ((pd2 (I 22) n s))).2))).2)) = sr (sr I 23 (tS o n ((pik (I 22) n 1 ((pd2 (I 22) n s))).2))) 23 (tS o n ((ph (I 22) n (((pik (I 22) n 1 ((pd2 (I 22) n s))).2))).2)) from by funext a; simp +decide only [sr]; (repeat' split) <;> first | rfl | (exfalso; omega) | (subst_vars; rfl)]; exact hB)
    refine j_eqi (y := nI ((ph (I 22) n (((pik (I 22) n 1 ((pd2 (I 22) n s))).2))).1)) (rfl) ?_
    refine lv_istore (lv' := [(5, .int (nI ((ph (I 22) n (((pik (I 22) n 1 ((pd2 (I 22) n s))).2))).1))), (4, .int (nI ((pik (I 22) n 1 ((pd2 (I 22) n s))).1))), (3, .int (nI ((pik (I 22) n 0 (((pik (I 22) n 0 s).2))).1))), (2, .int (nI ((pik (I 22) n 0 s).1))), (0, .ref (G.2.2.1 (9, 0, 0))), (1, .ref (G.2.2.1 (1, 2, 0)))]) hx hb dX6_parseDoor_41 hl (by decide) rfl (fun ls hl => ?_)
    refine lv_aload_n hx hb dX6_parseDoor_43 rfl (lv_at hl 5 rfl) ?_
    refine lv_iload_n hx hb dX6_parseDoor_44 rfl (lv_at hl 3 rfl) ?_
    refine lv_iload_n hx hb dX6_parseDoor_45 rfl (lv_at hl 2 rfl) ?_
    refine lv_iload hx hb dX6_parseDoor_46 (lv_at hl 1 rfl) ?_
    refine lv_iload hx hb dX6_parseDoor_48 (lv_at hl 0 rfl) ?_
    refine j_cvi (1, 2, 0) [.int (nI ((pik (I 22) n 0 s).1)), .int (nI ((pik (I 22) n 0 (((pik (I 22) n 0 s).2))).1)), .int (nI ((pik (I 22) n 1 ((pd2 (I 22) n s))).1)), .int (nI ((ph (I 22) n (((pik (I 22) n 1 ((pd2 (I 22) n s))).2))).1))] hC hB hl.1 (c_X4_addDoor l_ G (sr I 23 (tS o n ((ph (I 22) n (((pik (I 22) n 1 ((pd2 (I 22) n s))).2))).2))) J O 2 (nI ((pik (I 22) n 0 s).1)) (nI ((pik (I 22) n 0 (((pik (I 22) n 0 s).2))).1)) (nI ((pik (I 22) n 1 ((pd2 (I 22) n s))).1)) (nI ((ph (I 22) n (((pik (I 22) n 1 ((pd2 (I 22) n s))).2))).1)) (by omega) (by omega) ((sr_nj (show (2 : Nat) ≠ 23 by omega)).trans (hD))) (cwV 4 hts gX6_parseDoor_X4_addDoor rfl rfl rfl (by decide +kernel) ⟨by decide, by decide⟩) dX6_parseDoor_50 (jk1 (by omega)) rfl rfl rfl rfl (Nat.le_of_ble_eq_true rfl) (fun r_50 u_50 H locs hp_50 hB => ?_)
    obtain ⟨rfl, rfl⟩ := hp_50
    have hB : jB G A s_.heap (sr (sr I 23 (tS o n ((ph (I 22) n (((pik (I 22) n 1 ((pd2 (I 22) n s))).2))).2))) 2 (adR (I 2) (nI ((pik (I 22) n 0 s).1)) (nI ((pik (I 22) n 0 (((pik (I 22) n 0 s).2))).1)) (nI ((pik (I 22) n 1 ((pd2 (I 22) n s))).1)) (nI ((ph (I 22) n (((pik (I 22) n 1 ((pd2 (I 22) n s))).2))).1))), J, O) H locs := hB
    refine j_eqi (y := nI nd) (rfl) ?_
    refine lv_pop hx hb dX6_parseDoor_53 rfl ?_
    exact j_vret hC hB dX6_parseDoor_54 (rfl)
  · refine lv_aload_n hx hb dX6_parseDoor_19 rfl (lv_at hl 2 rfl) ?_
    refine lv_aload_n hx hb dX6_parseDoor_20 rfl (lv_at hl 2 rfl) ?_
    refine j_get (9, 0, 0) 2 (v := .int ((sr I 23 (tS o n ((pik (I 22) n 0 (((pik (I 22) n 0 s).2))).2))) 23 1)) hC hB in_X6 lk_19 dX6_parseDoor_21 jk9 rfl rfl (by decide) rfl ?_
    refine j_eqi (x := (sr I 23 (tS o n ((pik (I 22) n 0 (((pik (I 22) n 0 s).2))).2))) 23 1) (y := nI (((pik (I 22) n 0 (((pik (I 22) n 0 s).2))).2).1)) (sr_sj.trans (tS_1)) ?_
    refine lv_iconst (v := nI 1) hx hb dX6_parseDoor_24 (by decide) ?_
    refine lv_isub hx hb dX6_parseDoor_25 ?_
    refine j_cvv (9, 0, 0) [.int ((nI (((pik (I 22) n 0 (((pik (I 22) n 0 s).2))).2).1)) - (nI 1))] hC hB hl.1 (c_X6_failAt l_ G (sr I 23 (tS o n ((pik (I 22) n 0 (((pik (I 22) n 0 s).2))).2))) J O ((nI (((pik (I 22) n 0 (((pik (I 22) n 0 s).2))).2).1)) - (nI 1)) ((((pik (I 22) n 0 (((pik (I 22) n 0 s).2))).2).1 - 1)) (fun h => pk_sub (pik_1 h)) (hn) (pik_le (pik_le (hs))) (sr_self)) (cwV 1 hts gX6_parseDoor_X6_failAt rfl rfl rfl (by decide +kernel) ⟨by decide, by decide⟩) dX6_parseDoor_26 jk9 rfl rfl rfl rfl (Nat.le_of_ble_eq_true rfl) (fun u_26 H locs hp_26 hB => ?_)
    obtain rfl := hp_26
    have hl_26 : (flS (((pik (I 22) n 0 (((pik (I 22) n 0 s).2))).2)) (((pik (I 22) n 0 (((pik (I 22) n 0 s).2))).2).1 - 1)).1 ≤ n := flS_le (pik_le (pik_le (hs))) (by omega)
    have hB : jB G A s_.heap (sr I 23 (tS o n (flS (((pik (I 22) n 0 (((pik (I 22) n 0 s).2))).2)) (((pik (I 22) n 0 (((pik (I 22) n 0 s).2))).2).1 - 1))), J, O) H locs := by (rw [show sr I 23 (tS o n (flS (((pik (I 22) n 0 (((pik (I 22) n 0 s).2))).2)) (((pik (I 22) n 0 (((pik (I 22) n 0 s).2))).2).1 - 1))) = sr (sr I 23 (tS o n ((pik (I 22) n 0 (((pik (I 22) n 0 s).2))).2))) 23 (tS o n (flS (((pik (I 22) n 0 (((pik (I 22) n 0 s).2))).2)) (((pik (I 22) n 0 (((pik (I 22) n 0 s).2))).2).1 - 1))) from by funext a; simp +decide only [sr]; (repeat' split) <;> first | rfl | (exfalso; omega) | (subst_vars; rfl)]; exact hB)
    have hB : jB G A s_.heap (sr I 23 (tS o n (pd2 (I 22) n s)), J, O) H locs := by rw [← show tS o n (flS (((pik (I 22) n 0 (((pik (I 22) n 0 s).2))).2)) (((pik (I 22) n 0 (((pik (I 22) n 0 s).2))).2).1 - 1)) = tS o n (pd2 (I 22) n s) from by rw [pd2, if_pos c_16]]; exact hB
    refine lv_aload_n hx hb dX6_parseDoor_29 rfl (lv_at hl 2 rfl) ?_
    refine j_tldc 1 (by decide) rfl rfl hC hB dX6_parseDoor_30 ?_
    refine j_cvi (9, 0, 0) [.ref (G.2.2.1 (30, 1, 0))] hC hB hl.1 (c_X6_pick l_ G (sr I 23 (tS o n (pd2 (I 22) n s))) J O 1 (by omega) (hn) (pd2_le hs) (sr_self)) (cwV 1 hts gX6_parseDoor_X6_pick rfl rfl rfl (by decide +kernel) ⟨by decide, by decide⟩) dX6_parseDoor_32 jk9 rfl rfl rfl rfl (Nat.le_of_ble_eq_true rfl) (fun r_32 u_32 H locs hp_32 hB => ?_)
    obtain ⟨rfl, rfl⟩ := hp_32
    have hv_32 := pik_lt (t := I 22) (n := n) (s := (pd2 (I 22) n s)) (i := 1) (by decide)
    have hl_32 : ((pik (I 22) n 1 ((pd2 (I 22) n s))).2).1 ≤ n := pik_le (pd2_le hs)
    have hB : jB G A s_.heap (sr I 23 (tS o n ((pik (I 22) n 1 ((pd2 (I 22) n s))).2)), J, O) H locs := by (rw [show sr I 23 (tS o n ((pik (I 22) n 1 ((pd2 (I 22) n s))).2)) = sr (sr I 23 (tS o n (pd2 (I 22) n s))) 23 (tS o n ((pik (I 22) n 1 ((pd2 (I 22) n s))).2)) from by funext a; simp +decide only [sr]; (repeat' split) <;> first | rfl | (exfalso; omega) | (subst_vars; rfl)]; exact hB)
    refine j_eqi (y := nI ((pik (I 22) n 1 ((pd2 (I 22) n s))).1)) (rfl) ?_
    refine lv_istore (lv' := [(4, .int (nI ((pik (I 22) n 1 ((pd2 (I 22) n s))).1))), (3, .int (nI ((pik (I 22) n 0 (((pik (I 22) n 0 s).2))).1))), (2, .int (nI ((pik (I 22) n 0 s).1))), (0, .ref (G.2.2.1 (9, 0, 0))), (1, .ref (G.2.2.1 (1, 2, 0)))]) hx hb dX6_parseDoor_35 hl (by decide) rfl (fun ls hl => ?_)
    refine lv_aload_n hx hb dX6_parseDoor_37 rfl (lv_at hl 3 rfl) ?_
    refine j_cvi (9, 0, 0) [] hC hB hl.1 (c_X6_pickHard l_ G (sr I 23 (tS o n ((pik (I 22) n 1 ((pd2 (I 22) n s))).2))) J O  (hn) (pik_le (pd2_le hs)) (sr_self)) (cwV 0 hts gX6_parseDoor_X6_pickHard rfl rfl rfl (by decide +kernel) ⟨by decide, by decide⟩) dX6_parseDoor_38 jk9 rfl rfl rfl rfl (Nat.le_of_ble_eq_true rfl) (fun r_38 u_38 H locs hp_38 hB => ?_)
    obtain ⟨rfl, rfl⟩ := hp_38
    have hv_38 := (ph_le (t := I 22) (s := ((pik (I 22) n 1 ((pd2 (I 22) n s))).2)) (pik_le (pd2_le hs))).2
    have hl_38 : ((ph (I 22) n (((pik (I 22) n 1 ((pd2 (I 22) n s))).2))).2).1 ≤ n := (ph_le (pik_le (pd2_le hs))).1
    have hB : jB G A s_.heap (sr I 23 (tS o n ((ph (I 22) n (((pik (I 22) n 1 ((pd2 (I 22) n s))).2))).2)), J, O) H locs := by (rw [show sr I 23 (tS o n ((ph (I 22) n (((pik (I 22) n 1 ((pd2 (I 22) n s))).2))).2)) = sr (sr I 23 (tS o n ((pik (I 22) n 1 ((pd2 (I 22) n s))).2))) 23 (tS o n ((ph (I 22) n (((pik (I 22) n 1 ((pd2 (I 22) n s))).2))).2)) from by funext a; simp +decide only [sr]; (repeat' split) <;> first | rfl | (exfalso; omega) | (subst_vars; rfl)]; exact hB)
    refine j_eqi (y := nI ((ph (I 22) n (((pik (I 22) n 1 ((pd2 (I 22) n s))).2))).1)) (rfl) ?_
    refine lv_istore (lv' := [(5, .int (nI ((ph (I 22) n (((pik (I 22) n 1 ((pd2 (I 22) n s))).2))).1))), (4, .int (nI ((pik (I 22) n 1 ((pd2 (I 22) n s))).1))), (3, .int (nI ((pik (I 22) n 0 (((pik (I 22) n 0 s).2))).1))), (2, .int (nI ((pik (I 22) n 0 s).1))), (0, .ref (G.2.2.1 (9, 0, 0))), (1, .ref (G.2.2.1 (1, 2, 0)))]) hx hb dX6_parseDoor_41 hl (by decide) rfl (fun ls hl => ?_)
    refine lv_aload_n hx hb dX6_parseDoor_43 rfl (lv_at hl 5 rfl) ?_
    refine lv_iload_n hx hb dX6_parseDoor_44 rfl (lv_at hl 3 rfl) ?_
    refine lv_iload_n hx hb dX6_parseDoor_45 rfl (lv_at hl 2 rfl) ?_
    refine lv_iload hx hb dX6_parseDoor_46 (lv_at hl 1 rfl) ?_
    refine lv_iload hx hb dX6_parseDoor_48 (lv_at hl 0 rfl) ?_
    refine j_cvi (1, 2, 0) [.int (nI ((pik (I 22) n 0 s).1)), .int (nI ((pik (I 22) n 0 (((pik (I 22) n 0 s).2))).1)), .int (nI ((pik (I 22) n 1 ((pd2 (I 22) n s))).1)), .int (nI ((ph (I 22) n (((pik (I 22) n 1 ((pd2 (I 22) n s))).2))).1))] hC hB hl.1 (c_X4_addDoor l_ G (sr I 23 (tS o n ((ph (I 22) n (((pik (I 22) n 1 ((pd2 (I 22) n s))).2))).2))) J O 2 (nI ((pik (I 22) n 0 s).1)) (nI ((pik (I 22) n 0 (((pik (I 22) n 0 s).2))).1)) (nI ((pik (I 22) n 1 ((pd2 (I 22) n s))).1)) (nI ((ph (I 22) n (((pik (I 22) n 1 ((pd2 (I 22) n s))).2))).1)) (by omega) (by omega) ((sr_nj (show (2 : Nat) ≠ 23 by omega)).trans (hD))) (cwV 4 hts gX6_parseDoor_X4_addDoor rfl rfl rfl (by decide +kernel) ⟨by decide, by decide⟩) dX6_parseDoor_50 (jk1 (by omega)) rfl rfl rfl rfl (Nat.le_of_ble_eq_true rfl) (fun r_50 u_50 H locs hp_50 hB => ?_)
    obtain ⟨rfl, rfl⟩ := hp_50
    have hB : jB G A s_.heap (sr (sr I 23 (tS o n ((ph (I 22) n (((pik (I 22) n 1 ((pd2 (I 22) n s))).2))).2))) 2 (adR (I 2) (nI ((pik (I 22) n 0 s).1)) (nI ((pik (I 22) n 0 (((pik (I 22) n 0 s).2))).1)) (nI ((pik (I 22) n 1 ((pd2 (I 22) n s))).1)) (nI ((ph (I 22) n (((pik (I 22) n 1 ((pd2 (I 22) n s))).2))).1))), J, O) H locs := hB
    refine j_eqi (y := nI nd) (rfl) ?_
    refine lv_pop hx hb dX6_parseDoor_53 rfl ?_
    exact j_vret hC hB dX6_parseDoor_54 (rfl)

set_option maxHeartbeats 4000000 in
set_option maxRecDepth 100000 in
theorem c_X6_parseMan (l_ : Launch) (G : jG) (I : Nat → Nat → Int32) (J : Nat → Nat → Int64) (O : Nat → Nat → Nat) {nm : Nat} (hnm : nm < 4) (hM : I 2 1 = nI nm) {o : Nat → Int32} {n : Nat} {s : Nat × Bool} (hn : n ≤ 90) (hs : s.1 ≤ n) (hT : I 23 = tS o n s) : jMv l_ G yX6_parseMan wsX6_parseMan ({ frames := 5, cells := 0, slots := 0, locals := 118 }) [.ref (G.2.2.1 (9, 0, 0)), .ref (G.2.2.1 (1, 2, 0))] (I, J, O) (fun u => u = (sr (sr I 23 (tS o n (pmS (I 22) n s))) 2 (pmR (I 22) n s (I 2)), J, O)) := by
  refine jMv_of (cc := cX6_parseMan) (maxL := 6) (ret := none) (lv0 := [(0, .ref (G.2.2.1 (9, 0, 0))), (1, .ref (G.2.2.1 (1, 2, 0)))]) (by decide) rfl (Nat.le_of_ble_eq_true rfl) rfl ?_
  intro pg_ ev_ s_ mi_ below meth cd_ A ls hC hB hl
  obtain ⟨hx, hb, hr, hml, hown, hts, hlocks, hK, hA⟩ := id hC
  have hT0 : I 23 0 = nI n := by rw [hT]; exact tS_0
  have hT1 : I 23 1 = nI s.1 := by rw [hT]; exact tS_1
  have hT2 : I 23 2 = b2 s.2 := by rw [hT]; exact tS_2
  refine lv_aload_n hx hb dX6_parseMan_0 rfl (lv_at hl 0 rfl) ?_
  refine j_tldc 3 (by decide) rfl rfl hC hB dX6_parseMan_1 ?_
  refine j_cvi (9, 0, 0) [.ref (G.2.2.1 (30, 3, 0))] hC hB hl.1 (c_X6_pick l_ G I J O 3 (by omega) (hn) (hs) (hT)) (cwV 1 hts gX6_parseMan_X6_pick rfl rfl rfl (by decide +kernel) ⟨by decide, by decide⟩) dX6_parseMan_3 jk9 rfl rfl rfl rfl (Nat.le_of_ble_eq_true rfl) (fun r_3 u_3 H locs hp_3 hB => ?_)
  obtain ⟨rfl, rfl⟩ := hp_3
  have hv_3 := pik_lt (t := I 22) (n := n) (s := s) (i := 3) (by decide)
  have hl_3 : ((pik (I 22) n 3 s).2).1 ≤ n := pik_le (hs)
  have hB : jB G A s_.heap (sr I 23 (tS o n ((pik (I 22) n 3 s).2)), J, O) H locs := hB
  refine j_eqi (y := nI ((pik (I 22) n 3 s).1)) (rfl) ?_
  refine lv_istore_n (lv' := [(2, .int (nI ((pik (I 22) n 3 s).1))), (0, .ref (G.2.2.1 (9, 0, 0))), (1, .ref (G.2.2.1 (1, 2, 0)))]) hx hb dX6_parseMan_6 rfl hl (by decide) rfl (fun ls hl => ?_)
  refine lv_aload_n hx hb dX6_parseMan_7 rfl (lv_at hl 1 rfl) ?_
  refine j_tldc 2 (by decide) rfl rfl hC hB dX6_parseMan_8 ?_
  refine j_cvi (9, 0, 0) [.ref (G.2.2.1 (30, 2, 0))] hC hB hl.1 (c_X6_pick l_ G (sr I 23 (tS o n ((pik (I 22) n 3 s).2))) J O 2 (by omega) (hn) (pik_le (hs)) (sr_self)) (cwV 1 hts gX6_parseMan_X6_pick rfl rfl rfl (by decide +kernel) ⟨by decide, by decide⟩) dX6_parseMan_10 jk9 rfl rfl rfl rfl (Nat.le_of_ble_eq_true rfl) (fun r_10 u_10 H locs hp_10 hB => ?_)
  obtain ⟨rfl, rfl⟩ := hp_10
  have hv_10 := pik_lt (t := I 22) (n := n) (s := ((pik (I 22) n 3 s).2)) (i := 2) (by decide)
  have hl_10 : ((pik (I 22) n 2 (((pik (I 22) n 3 s).2))).2).1 ≤ n := pik_le (pik_le (hs))
  have hB : jB G A s_.heap (sr I 23 (tS o n ((pik (I 22) n 2 (((pik (I 22) n 3 s).2))).2)), J, O) H locs := by (rw [show sr I 23 (tS o n ((pik (I 22) n 2 (((pik (I 22) n 3 s).2))).2)) = sr (sr I 23 (tS o n ((pik (I 22) n 3 s).2))) 23 (tS o n ((pik (I 22) n 2 (((pik (I 22) n 3 s).2))).2)) from by funext a; simp +decide only [sr]; (repeat' split) <;> first | rfl | (exfalso; omega) | (subst_vars; rfl)]; exact hB)
  refine j_eqi (y := nI ((pik (I 22) n 2 (((pik (I 22) n 3 s).2))).1)) (rfl) ?_
  refine lv_istore_n (lv' := [(3, .int (nI ((pik (I 22) n 2 (((pik (I 22) n 3 s).2))).1))), (2, .int (nI ((pik (I 22) n 3 s).1))), (0, .ref (G.2.2.1 (9, 0, 0))), (1, .ref (G.2.2.1 (1, 2, 0)))]) hx hb dX6_parseMan_13 rfl hl (by decide) rfl (fun ls hl => ?_)
  refine lv_aload_n hx hb dX6_parseMan_14 rfl (lv_at hl 2 rfl) ?_
  refine j_tldc 1 (by decide) rfl rfl hC hB dX6_parseMan_15 ?_
  refine j_cvi (9, 0, 0) [.ref (G.2.2.1 (30, 1, 0))] hC hB hl.1 (c_X6_pick l_ G (sr I 23 (tS o n ((pik (I 22) n 2 (((pik (I 22) n 3 s).2))).2))) J O 1 (by omega) (hn) (pik_le (pik_le (hs))) (sr_self)) (cwV 1 hts gX6_parseMan_X6_pick rfl rfl rfl (by decide +kernel) ⟨by decide, by decide⟩) dX6_parseMan_17 jk9 rfl rfl rfl rfl (Nat.le_of_ble_eq_true rfl) (fun r_17 u_17 H locs hp_17 hB => ?_)
  obtain ⟨rfl, rfl⟩ := hp_17
  have hv_17 := pik_lt (t := I 22) (n := n) (s := ((pik (I 22) n 2 (((pik (I 22) n 3 s).2))).2)) (i := 1) (by decide)
  have hl_17 : ((pik (I 22) n 1 (((pik (I 22) n 2 (((pik (I 22) n 3 s).2))).2))).2).1 ≤ n := pik_le (pik_le (pik_le (hs)))
  have hB : jB G A s_.heap (sr I 23 (tS o n ((pik (I 22) n 1 (((pik (I 22) n 2 (((pik (I 22) n 3 s).2))).2))).2)), J, O) H locs := by (rw [show sr I 23 (tS o n ((pik (I 22) n 1 (((pik (I 22) n 2 (((pik (I 22) n 3 s).2))).2))).2)) = sr (sr I 23 (tS o n ((pik (I 22) n 2 (((pik (I 22) n 3 s).2))).2))) 23 (tS o n ((pik (I 22) n 1 (((pik (I 22) n 2 (((pik (I 22) n 3 s).2))).2))).2)) from by funext a; simp +decide only [sr]; (repeat' split) <;> first | rfl | (exfalso; omega) | (subst_vars; rfl)]; exact hB)
  refine j_eqi (y := nI ((pik (I 22) n 1 (((pik (I 22) n 2 (((pik (I 22) n 3 s).2))).2))).1)) (rfl) ?_
  refine lv_istore (lv' := [(4, .int (nI ((pik (I 22) n 1 (((pik (I 22) n 2 (((pik (I 22) n 3 s).2))).2))).1))), (3, .int (nI ((pik (I 22) n 2 (((pik (I 22) n 3 s).2))).1))), (2, .int (nI ((pik (I 22) n 3 s).1))), (0, .ref (G.2.2.1 (9, 0, 0))), (1, .ref (G.2.2.1 (1, 2, 0)))]) hx hb dX6_parseMan_20 hl (by decide) rfl (fun ls hl => ?_)
  refine lv_aload_n hx hb dX6_parseMan_22 rfl (lv_at hl 3 rfl) ?_
  refine lv_bipush (v := nI 64) hx hb dX6_parseMan_23 (by decide) ?_
  refine j_cvi (9, 0, 0) [.int (nI 64)] hC hB hl.1 (c_X6_goesOnWith l_ G (sr I 23 (tS o n ((pik (I 22) n 1 (((pik (I 22) n 2 (((pik (I 22) n 3 s).2))).2))).2))) J O (nI 64) (hn) (pik_le (pik_le (pik_le (hs)))) (sr_self)) (cwV 1 hts gX6_parseMan_X6_goesOnWith rfl rfl rfl (by decide +kernel) ⟨by decide, by decide⟩) dX6_parseMan_25 jk9 rfl rfl rfl rfl (Nat.le_of_ble_eq_true rfl) (fun r_25 u_25 H locs hp_25 hB => ?_)
  obtain ⟨rfl, rfl⟩ := hp_25
  have hl_25 : ((gn (I 22) n (nI 64) (((pik (I 22) n 1 (((pik (I 22) n 2 (((pik (I 22) n 3 s).2))).2))).2))).2).1 ≤ n := gn_le (pik_le (pik_le (pik_le (hs))))
  have hB : jB G A s_.heap (sr I 23 (tS o n ((gn (I 22) n (nI 64) (((pik (I 22) n 1 (((pik (I 22) n 2 (((pik (I 22) n 3 s).2))).2))).2))).2)), J, O) H locs := by (rw [show sr I 23 (tS o n ((gn (I 22) n (nI 64) (((pik (I 22) n 1 (((pik (I 22) n 2 (((pik (I 22) n 3 s).2))).2))).2))).2)) = sr (sr I 23 (tS o n ((pik (I 22) n 1 (((pik (I 22) n 2 (((pik (I 22) n 3 s).2))).2))).2))) 23 (tS o n ((gn (I 22) n (nI 64) (((pik (I 22) n 1 (((pik (I 22) n 2 (((pik (I 22) n 3 s).2))).2))).2))).2)) from by funext a; simp +decide only [sr]; (repeat' split) <;> first | rfl | (exfalso; omega) | (subst_vars; rfl)]; exact hB)
  refine j_eqi (y := b2 ((gn (I 22) n (nI 64) (((pik (I 22) n 1 (((pik (I 22) n 2 (((pik (I 22) n 3 s).2))).2))).2))).1)) (rfl) ?_
  refine jb_if_eq (tgt := 40) hx hb dX6_parseMan_28 (by decide) (fun c_28 => ?_) (fun c_28 => ?_)
  · refine lv_iconst (v := nI 0) hx hb dX6_parseMan_40 (by decide) ?_
    refine j_eqi (y := nI (pm4 (I 22) n s).1) (by unfold pm4 pm3; rw [if_neg (by rw [c_28]; decide)]) ?_
    have hB : jB G A s_.heap (sr I 23 (tS o n (pmS (I 22) n s)), J, O) H locs := by rw [← show tS o n ((gn (I 22) n (nI 64) (((pik (I 22) n 1 (((pik (I 22) n 2 (((pik (I 22) n 3 s).2))).2))).2))).2) = tS o n (pmS (I 22) n s) from by unfold pmS pm4 pm3; rw [if_neg (by rw [c_28]; decide)]]; exact hB
    refine lv_istore (lv' := [(5, .int (nI ((pm4 (I 22) n s).1))), (4, .int (nI ((pik (I 22) n 1 (((pik (I 22) n 2 (((pik (I 22) n 3 s).2))).2))).1))), (3, .int (nI ((pik (I 22) n 2 (((pik (I 22) n 3 s).2))).1))), (2, .int (nI ((pik (I 22) n 3 s).1))), (0, .ref (G.2.2.1 (9, 0, 0))), (1, .ref (G.2.2.1 (1, 2, 0)))]) hx hb dX6_parseMan_41 hl (by decide) rfl (fun ls hl => ?_)
    refine lv_aload_n hx hb dX6_parseMan_43 rfl (lv_at hl 5 rfl) ?_
    refine lv_iload_n hx hb dX6_parseMan_44 rfl (lv_at hl 3 rfl) ?_
    refine lv_iload_n hx hb dX6_parseMan_45 rfl (lv_at hl 2 rfl) ?_
    refine lv_iload hx hb dX6_parseMan_46 (lv_at hl 1 rfl) ?_
    refine lv_iload hx hb dX6_parseMan_48 (lv_at hl 0 rfl) ?_
    refine j_cvi (1, 2, 0) [.int (nI ((pik (I 22) n 3 s).1)), .int (nI ((pik (I 22) n 2 (((pik (I 22) n 3 s).2))).1)), .int (nI ((pik (I 22) n 1 (((pik (I 22) n 2 (((pik (I 22) n 3 s).2))).2))).1)), .int (nI ((pm4 (I 22) n s).1))] hC hB hl.1 (c_X4_addMan l_ G (sr I 23 (tS o n (pmS (I 22) n s))) J O 2 (nI ((pik (I 22) n 3 s).1)) (nI ((pik (I 22) n 2 (((pik (I 22) n 3 s).2))).1)) (nI ((pik (I 22) n 1 (((pik (I 22) n 2 (((pik (I 22) n 3 s).2))).2))).1)) (nI ((pm4 (I 22) n s).1)) (by omega) (by omega) ((sr_nj (show (2 : Nat) ≠ 23 by omega)).trans (hM))) (cwV 4 hts gX6_parseMan_X4_addMan rfl rfl rfl (by decide +kernel) ⟨by decide, by decide⟩) dX6_parseMan_50 (jk1 (by omega)) rfl rfl rfl rfl (Nat.le_of_ble_eq_true rfl) (fun r_50 u_50 H locs hp_50 hB => ?_)
    obtain ⟨rfl, rfl⟩ := hp_50
    have hB : jB G A s_.heap (sr (sr I 23 (tS o n (pmS (I 22) n s))) 2 (amR (I 2) (nI ((pik (I 22) n 3 s).1)) (nI ((pik (I 22) n 2 (((pik (I 22) n 3 s).2))).1)) (nI ((pik (I 22) n 1 (((pik (I 22) n 2 (((pik (I 22) n 3 s).2))).2))).1)) (nI ((pm4 (I 22) n s).1))), J, O) H locs := hB
    refine j_eqi (y := nI nm) (rfl) ?_
    refine lv_pop hx hb dX6_parseMan_53 rfl ?_
    exact j_vret hC hB dX6_parseMan_54 (rfl)
  · refine lv_aload_n hx hb dX6_parseMan_31 rfl (lv_at hl 3 rfl) ?_
    refine j_tldc 0 (by decide) rfl rfl hC hB dX6_parseMan_32 ?_
    refine j_cvi (9, 0, 0) [.ref (G.2.2.1 (30, 0, 0))] hC hB hl.1 (c_X6_pick l_ G (sr I 23 (tS o n ((gn (I 22) n (nI 64) (((pik (I 22) n 1 (((pik (I 22) n 2 (((pik (I 22) n 3 s).2))).2))).2))).2))) J O 0 (by omega) (hn) (gn_le (pik_le (pik_le (pik_le (hs))))) (sr_self)) (cwV 1 hts gX6_parseMan_X6_pick rfl rfl rfl (by decide +kernel) ⟨by decide, by decide⟩) dX6_parseMan_34 jk9 rfl rfl rfl rfl (Nat.le_of_ble_eq_true rfl) (fun r_34 u_34 H locs hp_34 hB => ?_)
    obtain ⟨rfl, rfl⟩ := hp_34
    have hv_34 := pik_lt (t := I 22) (n := n) (s := ((gn (I 22) n (nI 64) (((pik (I 22) n 1 (((pik (I 22) n 2 (((pik (I 22) n 3 s).2))).2))).2))).2)) (i := 0) (by decide)
    have hl_34 : ((pik (I 22) n 0 (((gn (I 22) n (nI 64) (((pik (I 22) n 1 (((pik (I 22) n 2 (((pik (I 22) n 3 s).2))).2))).2))).2))).2).1 ≤ n := pik_le (gn_le (pik_le (pik_le (pik_le (hs)))))
    have hB : jB G A s_.heap (sr I 23 (tS o n ((pik (I 22) n 0 (((gn (I 22) n (nI 64) (((pik (I 22) n 1 (((pik (I 22) n 2 (((pik (I 22) n 3 s).2))).2))).2))).2))).2)), J, O) H locs := by (rw [show sr I 23 (tS o n ((pik (I 22) n 0 (((gn (I 22) n (nI 64) (((pik (I 22) n 1 (((pik (I 22) n 2 (((pik (I 22) n 3 s).2))).2))).2))).2))).2)) = sr (sr I 23 (tS o n ((gn (I 22) n (nI 64) (((pik (I 22) n 1 (((pik (I 22) n 2 (((pik (I 22) n 3 s).2))).2))).2))).2))) 23 (tS o n ((pik (I 22) n 0 (((gn (I 22) n (nI 64) (((pik (I 22) n 1 (((pik (I 22) n 2 (((pik (I 22) n 3 s).2))).2))).2))).2))).2)) from by funext a; simp +decide only [sr]; (repeat' split) <;> first | rfl | (exfalso; omega) | (subst_vars; rfl)]; exact hB)
    refine j_eqi (y := nI ((pik (I 22) n 0 (((gn (I 22) n (nI 64) (((pik (I 22) n 1 (((pik (I 22) n 2 (((pik (I 22) n 3 s).2))).2))).2))).2))).1)) (rfl) ?_
    refine lv_goto (tgt := 41) hx hb dX6_parseMan_37 (by decide) ?_
    refine j_eqi (y := nI (pm4 (I 22) n s).1) (by unfold pm4 pm3; rw [if_pos c_28]) ?_
    have hB : jB G A s_.heap (sr I 23 (tS o n (pmS (I 22) n s)), J, O) H locs := by rw [← show tS o n ((pik (I 22) n 0 (((gn (I 22) n (nI 64) (((pik (I 22) n 1 (((pik (I 22) n 2 (((pik (I 22) n 3 s).2))).2))).2))).2))).2) = tS o n (pmS (I 22) n s) from by unfold pmS pm4 pm3; rw [if_pos c_28]]; exact hB
    refine lv_istore (lv' := [(5, .int (nI ((pm4 (I 22) n s).1))), (4, .int (nI ((pik (I 22) n 1 (((pik (I 22) n 2 (((pik (I 22) n 3 s).2))).2))).1))), (3, .int (nI ((pik (I 22) n 2 (((pik (I 22) n 3 s).2))).1))), (2, .int (nI ((pik (I 22) n 3 s).1))), (0, .ref (G.2.2.1 (9, 0, 0))), (1, .ref (G.2.2.1 (1, 2, 0)))]) hx hb dX6_parseMan_41 hl (by decide) rfl (fun ls hl => ?_)
    refine lv_aload_n hx hb dX6_parseMan_43 rfl (lv_at hl 5 rfl) ?_
    refine lv_iload_n hx hb dX6_parseMan_44 rfl (lv_at hl 3 rfl) ?_
    refine lv_iload_n hx hb dX6_parseMan_45 rfl (lv_at hl 2 rfl) ?_
    refine lv_iload hx hb dX6_parseMan_46 (lv_at hl 1 rfl) ?_
    refine lv_iload hx hb dX6_parseMan_48 (lv_at hl 0 rfl) ?_
    refine j_cvi (1, 2, 0) [.int (nI ((pik (I 22) n 3 s).1)), .int (nI ((pik (I 22) n 2 (((pik (I 22) n 3 s).2))).1)), .int (nI ((pik (I 22) n 1 (((pik (I 22) n 2 (((pik (I 22) n 3 s).2))).2))).1)), .int (nI ((pm4 (I 22) n s).1))] hC hB hl.1 (c_X4_addMan l_ G (sr I 23 (tS o n (pmS (I 22) n s))) J O 2 (nI ((pik (I 22) n 3 s).1)) (nI ((pik (I 22) n 2 (((pik (I 22) n 3 s).2))).1)) (nI ((pik (I 22) n 1 (((pik (I 22) n 2 (((pik (I 22) n 3 s).2))).2))).1)) (nI ((pm4 (I 22) n s).1)) (by omega) (by omega) ((sr_nj (show (2 : Nat) ≠ 23 by omega)).trans (hM))) (cwV 4 hts gX6_parseMan_X4_addMan rfl rfl rfl (by decide +kernel) ⟨by decide, by decide⟩) dX6_parseMan_50 (jk1 (by omega)) rfl rfl rfl rfl (Nat.le_of_ble_eq_true rfl) (fun r_50 u_50 H locs hp_50 hB => ?_)
    obtain ⟨rfl, rfl⟩ := hp_50
    have hB : jB G A s_.heap (sr (sr I 23 (tS o n (pmS (I 22) n s))) 2 (amR (I 2) (nI ((pik (I 22) n 3 s).1)) (nI ((pik (I 22) n 2 (((pik (I 22) n 3 s).2))).1)) (nI ((pik (I 22) n 1 (((pik (I 22) n 2 (((pik (I 22) n 3 s).2))).2))).1)) (nI ((pm4 (I 22) n s).1))), J, O) H locs := hB
    refine j_eqi (y := nI nm) (rfl) ?_
    refine lv_pop hx hb dX6_parseMan_53 rfl ?_
    exact j_vret hC hB dX6_parseMan_54 (rfl)

set_option maxHeartbeats 4000000 in
set_option maxRecDepth 100000 in
theorem c_X6_parseDoors (l_ : Launch) (G : jG) (I : Nat → Nat → Int32) (J : Nat → Nat → Int64) (O : Nat → Nat → Nat) (hc0 : I 2 0 = nI 0) {o : Nat → Int32} {n : Nat} {s : Nat × Bool} (hn : n ≤ 90) (hs : s.1 ≤ n) (hT : I 23 = tS o n s) : jMv l_ G yX6_parseDoors wsX6_parseDoors ({ frames := 7, cells := 0, slots := 0, locals := 165 }) [.ref (G.2.2.1 (9, 0, 0)), .ref (G.2.2.1 (1, 2, 0))] (I, J, O) (fun u => u = (sr (sr I 23 (tS o n ((pds (I 22) n s (I 2)).2.1))) 2 ((pds (I 22) n s (I 2)).1), J, O)) := by
  refine jMv_of (cc := cX6_parseDoors) (maxL := 4) (ret := none) (lv0 := [(0, .ref (G.2.2.1 (9, 0, 0))), (1, .ref (G.2.2.1 (1, 2, 0)))]) (by decide) rfl (Nat.le_of_ble_eq_true rfl) rfl ?_
  intro pg_ ev_ s_ mi_ below meth cd_ A ls hC hB hl
  obtain ⟨hx, hb, hr, hml, hown, hts, hlocks, hK, hA⟩ := id hC
  have hT0 : I 23 0 = nI n := by rw [hT]; exact tS_0
  have hT1 : I 23 1 = nI s.1 := by rw [hT]; exact tS_1
  have hT2 : I 23 2 = b2 s.2 := by rw [hT]; exact tS_2
  refine lv_iconst (v := nI 1) hx hb dX6_parseDoors_0 (by decide) ?_
  refine lv_istore_n (lv' := [(2, .int (nI 1)), (0, .ref (G.2.2.1 (9, 0, 0))), (1, .ref (G.2.2.1 (1, 2, 0)))]) hx hb dX6_parseDoors_1 rfl hl (by decide) rfl (fun ls hl => ?_)
  refine lv_iconst (v := nI 1) hx hb dX6_parseDoors_2 (by decide) ?_
  refine lv_istore_n (lv' := [(3, .int (nI 1)), (2, .int (nI 1)), (0, .ref (G.2.2.1 (9, 0, 0))), (1, .ref (G.2.2.1 (1, 2, 0)))]) hx hb dX6_parseDoors_3 rfl hl (by decide) rfl (fun ls hl => ?_)
  have lp_4 : ∀ (fu : Nat) (r : Nat → Int32) (d : Nat → Int32) (q : Nat) (fb : Bool) (more : Bool) (k : Nat), 12 - k < fu → (1 ≤ k) → (k ≤ 11) → (r = tS o n (q, fb)) → (q ≤ n) → (d 0 = nI (k - 1)) → (d 1 = I 2 1) → ((d, (q, fb), more) = it (pdsS (I 22) n) (k - 1) (I 2, s, true)) → ∀ H locs ls, jB G A s_.heap (sr (sr I 23 (r)) 2 (d), J, O) H locs → lv_has ls 4 [(3, .int (nI k)), (2, .int (b2 more)), (0, .ref (G.2.2.1 (9, 0, 0))), (1, .ref (G.2.2.1 (1, 2, 0)))] → W pg_ l_ ev_ ({ frames := 7, cells := 0, slots := 0, locals := 165 }) s_ mi_ ([.ref (G.2.2.1 (9, 0, 0)), .ref (G.2.2.1 (1, 2, 0))]).toArray below meth cd_ H locs 0 0 (jQv G A below [.ref (G.2.2.1 (9, 0, 0)), .ref (G.2.2.1 (1, 2, 0))] s_ (fun u => u = (sr (sr I 23 (tS o n ((pds (I 22) n s (I 2)).2.1))) 2 ((pds (I 22) n s (I 2)).1), J, O))) (F0 mi_ 4 ls []) := by
    intro fu
    induction fu with
    | zero => intro r d q fb more k hf; exact absurd hf (Nat.not_lt_zero _)
    | succ fu ih_4 =>
      intro r d q fb more k hf_4 hk1 hk hr hq hdc hdo hit H locs ls hB hl
      refine lv_iload_n hx hb dX6_parseDoors_4 rfl (lv_at hl 0 rfl) ?_
      refine lv_bipush (v := nI 10) hx hb dX6_parseDoors_5 (by decide) ?_
      refine jn_icmp_gt (tgt := 46) hx hb dX6_parseDoors_7 (by decide) (by omega) (by omega) (fun c_7 => ?_) (fun c_7 => ?_)
      · exact j_vret hC hB dX6_parseDoors_46 (by rw [show pds (I 22) n s (I 2) = (d, (q, fb), more) from by unfold pds; rw [← show k - 1 = 10 by omega, ← hit], hr])
      · refine lv_iload_n hx hb dX6_parseDoors_10 rfl (lv_at hl 1 rfl) ?_
        refine jb_if_eq (tgt := 46) hx hb dX6_parseDoors_11 (by decide) (fun c_11 => ?_) (fun c_11 => ?_)
        · exact j_vret hC hB dX6_parseDoors_46 (by rw [show pds (I 22) n s (I 2) = (d, (q, fb), more) from by unfold pds; rw [pds_stop (k := k - 1) (by rw [← hit]; exact c_11) (by omega), ← hit], hr])
        · refine lv_aload_n hx hb dX6_parseDoors_14 rfl (lv_at hl 2 rfl) ?_
          refine lv_aload_n hx hb dX6_parseDoors_15 rfl (lv_at hl 3 rfl) ?_
          refine j_cvv (9, 0, 0) [.ref (G.2.2.1 (1, 2, 0))] hC hB hl.1 (c_X6_parseDoor l_ G (sr (sr I 23 (r)) 2 (d)) J O  (by omega) (sr_sj.trans (hdc)) (hn) (hq) ((sr_ne (show (23 : Nat) ≠ 2 by decide)).trans (sr_self.trans (hr)))) (cwV 1 hts gX6_parseDoors_X6_parseDoor rfl rfl rfl (by decide +kernel) ⟨by decide, by decide⟩) dX6_parseDoors_16 jk9 rfl rfl rfl rfl (Nat.le_of_ble_eq_true rfl) (fun u_16 H locs hp_16 hB => ?_)
          obtain rfl := hp_16
          have hl_16 : (pdS (I 22) n ((q, fb))).1 ≤ n := pdS_le (hq)
          have hB : jB G A s_.heap (sr (sr I 23 (tS o n (pdS (I 22) n ((q, fb))))) 2 (pdR (I 22) n ((q, fb)) (d)), J, O) H locs := by (rw [show sr (sr I 23 (tS o n (pdS (I 22) n ((q, fb))))) 2 (pdR (I 22) n ((q, fb)) (d)) = sr (sr (sr (sr I 23 (r)) 2 (d)) 23 (tS o n (pdS (I 22) n ((q, fb))))) 2 (pdR (I 22) n ((q, fb)) (d)) from by funext a; simp +decide only [sr]; (repeat' split) <;> first | rfl | (exfalso; omega) | (subst_vars; rfl)]; exact hB)
          refine lv_iload_n hx hb dX6_parseDoors_19 rfl (lv_at hl 0 rfl) ?_
          refine lv_bipush (v := nI 10) hx hb dX6_parseDoors_20 (by decide) ?_
          refine jn_icmp_ge (tgt := 38) hx hb dX6_parseDoors_22 (by decide) (by omega) (by omega) (fun c_22 => ?_) (fun c_22 => ?_)
          · refine lv_iconst (v := nI 0) hx hb dX6_parseDoors_38 (by decide) ?_
            refine lv_istore_n (lv' := [(2, .int (nI 0)), (3, .int (nI k)), (0, .ref (G.2.2.1 (9, 0, 0))), (1, .ref (G.2.2.1 (1, 2, 0)))]) hx hb dX6_parseDoors_39 rfl hl (by decide) rfl (fun ls hl => ?_)
            refine lv_iinc (v := nI (k + 1)) (lv' := [(3, .int (nI (k + 1))), (2, .int (nI 0)), (0, .ref (G.2.2.1 (9, 0, 0))), (1, .ref (G.2.2.1 (1, 2, 0)))]) hx hb dX6_parseDoors_40 hl (k := 1) rfl (jn_inc _ 1) (by decide) rfl (fun ls hl => ?_)
            refine lv_goto (tgt := 4) hx hb dX6_parseDoors_43 (by decide) ?_
            exact ih_4 (tS o n (pdS (I 22) n ((q, fb)))) (pdR (I 22) n ((q, fb)) (d)) ((pdS (I 22) n ((q, fb))).1) ((pdS (I 22) n ((q, fb))).2) false (k + 1) (by omega) (by omega) (by omega) (rfl) (pdS_le (hq)) (by rw [show k + 1 - 1 = (k - 1) + 1 by omega]; exact (adR_0 (by omega) hdc).1) (((adR_0 (by omega) hdc).2).trans hdo) (by rw [show k + 1 - 1 = (k - 1) + 1 by omega, it_s, ← hit, pdsS, if_pos c_11, if_neg (show ¬ k - 1 < 9 by omega)]) _ _ _ hB (lv_sub hl [0, 1, 2, 3] rfl)
          · refine lv_aload_n hx hb dX6_parseDoors_25 rfl (lv_at hl 2 rfl) ?_
            refine lv_bipush (v := nI 44) hx hb dX6_parseDoors_26 (by decide) ?_
            refine j_cvi (9, 0, 0) [.int (nI 44)] hC hB hl.1 (c_X6_goesOnWith l_ G (sr (sr I 23 (tS o n (pdS (I 22) n ((q, fb))))) 2 (pdR (I 22) n ((q, fb)) (d))) J O (nI 44) (hn) (pdS_le (hq)) ((sr_ne (show (23 : Nat) ≠ 2 by decide)).trans (sr_self))) (cwV 1 hts gX6_parseDoors_X6_goesOnWith rfl rfl rfl (by decide +kernel) ⟨by decide, by decide⟩) dX6_parseDoors_28 jk9 rfl rfl rfl rfl (Nat.le_of_ble_eq_true rfl) (fun r_28 u_28 H locs hp_28 hB => ?_)
            obtain ⟨rfl, rfl⟩ := hp_28
            have hl_28 : ((gn (I 22) n (nI 44) ((pdS (I 22) n ((q, fb))))).2).1 ≤ n := gn_le (pdS_le (hq))
            have hB : jB G A s_.heap (sr (sr I 2 (pdR (I 22) n ((q, fb)) (d))) 23 (tS o n ((gn (I 22) n (nI 44) ((pdS (I 22) n ((q, fb))))).2)), J, O) H locs := by (rw [show sr (sr I 2 (pdR (I 22) n ((q, fb)) (d))) 23 (tS o n ((gn (I 22) n (nI 44) ((pdS (I 22) n ((q, fb))))).2)) = sr (sr (sr I 23 (tS o n (pdS (I 22) n ((q, fb))))) 2 (pdR (I 22) n ((q, fb)) (d))) 23 (tS o n ((gn (I 22) n (nI 44) ((pdS (I 22) n ((q, fb))))).2)) from by funext a; simp +decide only [sr]; (repeat' split) <;> first | rfl | (exfalso; omega) | (subst_vars; rfl)]; exact hB)
            refine j_eqi (y := b2 ((gn (I 22) n (nI 44) ((pdS (I 22) n ((q, fb))))).1)) (rfl) ?_
            refine jb_if_eq (tgt := 38) hx hb dX6_parseDoors_31 (by decide) (fun c_31 => ?_) (fun c_31 => ?_)
            · refine lv_iconst (v := nI 0) hx hb dX6_parseDoors_38 (by decide) ?_
              refine lv_istore_n (lv' := [(2, .int (nI 0)), (3, .int (nI k)), (0, .ref (G.2.2.1 (9, 0, 0))), (1, .ref (G.2.2.1 (1, 2, 0)))]) hx hb dX6_parseDoors_39 rfl hl (by decide) rfl (fun ls hl => ?_)
              refine lv_iinc (v := nI (k + 1)) (lv' := [(3, .int (nI (k + 1))), (2, .int (nI 0)), (0, .ref (G.2.2.1 (9, 0, 0))), (1, .ref (G.2.2.1 (1, 2, 0)))]) hx hb dX6_parseDoors_40 hl (k := 1) rfl (jn_inc _ 1) (by decide) rfl (fun ls hl => ?_)
              refine lv_goto (tgt := 4) hx hb dX6_parseDoors_43 (by decide) ?_
              exact ih_4 (tS o n ((gn (I 22) n (nI 44) ((pdS (I 22) n ((q, fb))))).2)) (pdR (I 22) n ((q, fb)) (d)) (((gn (I 22) n (nI 44) ((pdS (I 22) n ((q, fb))))).2).1) (((gn (I 22) n (nI 44) ((pdS (I 22) n ((q, fb))))).2).2) false (k + 1) (by omega) (by omega) (by omega) (rfl) (gn_le (pdS_le (hq))) (by rw [show k + 1 - 1 = (k - 1) + 1 by omega]; exact (adR_0 (by omega) hdc).1) (((adR_0 (by omega) hdc).2).trans hdo) (by rw [show k + 1 - 1 = (k - 1) + 1 by omega, it_s, ← hit, pdsS, if_pos c_11, if_pos (show k - 1 < 9 by omega)]; simp only [c_31]) _ _ _ (jB_cast2 hB (by first | exact (sr_id _ _).symm | (funext a_; simp +decide only [sr]; (repeat' split) <;> first | rfl | (exfalso; omega) | (subst_vars; rfl))) rfl) (lv_sub hl [0, 1, 2, 3] rfl)
            · refine lv_iconst (v := nI 1) hx hb dX6_parseDoors_34 (by decide) ?_
              refine lv_goto (tgt := 39) hx hb dX6_parseDoors_35 (by decide) ?_
              refine lv_istore_n (lv' := [(2, .int (nI 1)), (3, .int (nI k)), (0, .ref (G.2.2.1 (9, 0, 0))), (1, .ref (G.2.2.1 (1, 2, 0)))]) hx hb dX6_parseDoors_39 rfl hl (by decide) rfl (fun ls hl => ?_)
              refine lv_iinc (v := nI (k + 1)) (lv' := [(3, .int (nI (k + 1))), (2, .int (nI 1)), (0, .ref (G.2.2.1 (9, 0, 0))), (1, .ref (G.2.2.1 (1, 2, 0)))]) hx hb dX6_parseDoors_40 hl (k := 1) rfl (jn_inc _ 1) (by decide) rfl (fun ls hl => ?_)
              refine lv_goto (tgt := 4) hx hb dX6_parseDoors_43 (by decide) ?_
              exact ih_4 (tS o n ((gn (I 22) n (nI 44) ((pdS (I 22) n ((q, fb))))).2)) (pdR (I 22) n ((q, fb)) (d)) (((gn (I 22) n (nI 44) ((pdS (I 22) n ((q, fb))))).2).1) (((gn (I 22) n (nI 44) ((pdS (I 22) n ((q, fb))))).2).2) true (k + 1) (by omega) (by omega) (by omega) (rfl) (gn_le (pdS_le (hq))) (by rw [show k + 1 - 1 = (k - 1) + 1 by omega]; exact (adR_0 (by omega) hdc).1) (((adR_0 (by omega) hdc).2).trans hdo) (by rw [show k + 1 - 1 = (k - 1) + 1 by omega, it_s, ← hit, pdsS, if_pos c_11, if_pos (show k - 1 < 9 by omega)]; simp only [c_31]) _ _ _ (jB_cast2 hB (by first | exact (sr_id _ _).symm | (funext a_; simp +decide only [sr]; (repeat' split) <;> first | rfl | (exfalso; omega) | (subst_vars; rfl))) rfl) (lv_sub hl [0, 1, 2, 3] rfl)
  exact lp_4 _ (I 23) (I 2) s.1 s.2 true 1 (Nat.lt_succ_self _) (by omega) (by omega) (hT) (hs) (hc0) (rfl) (rfl) _ _ _ (jB_cast2 hB (by first | exact (sr_id _ _).symm | (funext a_; simp +decide only [sr]; (repeat' split) <;> first | rfl | (exfalso; omega) | (subst_vars; rfl))) rfl) (lv_sub hl [0, 1, 2, 3] rfl)

set_option maxHeartbeats 4000000 in
set_option maxRecDepth 100000 in
theorem c_X6_parseMen (l_ : Launch) (G : jG) (I : Nat → Nat → Int32) (J : Nat → Nat → Int64) (O : Nat → Nat → Nat) (hc0 : I 2 1 = nI 0) {o : Nat → Int32} {n : Nat} {s : Nat × Bool} (hn : n ≤ 90) (hs : s.1 ≤ n) (hT : I 23 = tS o n s) : jMv l_ G yX6_parseMen wsX6_parseMen ({ frames := 6, cells := 0, slots := 0, locals := 143 }) [.ref (G.2.2.1 (9, 0, 0)), .ref (G.2.2.1 (1, 2, 0))] (I, J, O) (fun u => u = (sr (sr I 23 (tS o n ((pms (I 22) n s (I 2)).2.1))) 2 ((pms (I 22) n s (I 2)).1), J, O)) := by
  refine jMv_of (cc := cX6_parseMen) (maxL := 4) (ret := none) (lv0 := [(0, .ref (G.2.2.1 (9, 0, 0))), (1, .ref (G.2.2.1 (1, 2, 0)))]) (by decide) rfl (Nat.le_of_ble_eq_true rfl) rfl ?_
  intro pg_ ev_ s_ mi_ below meth cd_ A ls hC hB hl
  obtain ⟨hx, hb, hr, hml, hown, hts, hlocks, hK, hA⟩ := id hC
  have hT0 : I 23 0 = nI n := by rw [hT]; exact tS_0
  have hT1 : I 23 1 = nI s.1 := by rw [hT]; exact tS_1
  have hT2 : I 23 2 = b2 s.2 := by rw [hT]; exact tS_2
  refine lv_iconst (v := nI 1) hx hb dX6_parseMen_0 (by decide) ?_
  refine lv_istore_n (lv' := [(2, .int (nI 1)), (0, .ref (G.2.2.1 (9, 0, 0))), (1, .ref (G.2.2.1 (1, 2, 0)))]) hx hb dX6_parseMen_1 rfl hl (by decide) rfl (fun ls hl => ?_)
  refine lv_iconst (v := nI 1) hx hb dX6_parseMen_2 (by decide) ?_
  refine lv_istore_n (lv' := [(3, .int (nI 1)), (2, .int (nI 1)), (0, .ref (G.2.2.1 (9, 0, 0))), (1, .ref (G.2.2.1 (1, 2, 0)))]) hx hb dX6_parseMen_3 rfl hl (by decide) rfl (fun ls hl => ?_)
  have lp_4 : ∀ (fu : Nat) (r : Nat → Int32) (d : Nat → Int32) (q : Nat) (fb : Bool) (more : Bool) (k : Nat), 6 - k < fu → (1 ≤ k) → (k ≤ 5) → (r = tS o n (q, fb)) → (q ≤ n) → (d 1 = nI (k - 1)) → (d 0 = I 2 0) → ((d, (q, fb), more) = it (pmsS (I 22) n) (k - 1) (I 2, s, true)) → ∀ H locs ls, jB G A s_.heap (sr (sr I 23 (r)) 2 (d), J, O) H locs → lv_has ls 4 [(3, .int (nI k)), (2, .int (b2 more)), (0, .ref (G.2.2.1 (9, 0, 0))), (1, .ref (G.2.2.1 (1, 2, 0)))] → W pg_ l_ ev_ ({ frames := 6, cells := 0, slots := 0, locals := 143 }) s_ mi_ ([.ref (G.2.2.1 (9, 0, 0)), .ref (G.2.2.1 (1, 2, 0))]).toArray below meth cd_ H locs 0 0 (jQv G A below [.ref (G.2.2.1 (9, 0, 0)), .ref (G.2.2.1 (1, 2, 0))] s_ (fun u => u = (sr (sr I 23 (tS o n ((pms (I 22) n s (I 2)).2.1))) 2 ((pms (I 22) n s (I 2)).1), J, O))) (F0 mi_ 4 ls []) := by
    intro fu
    induction fu with
    | zero => intro r d q fb more k hf; exact absurd hf (Nat.not_lt_zero _)
    | succ fu ih_4 =>
      intro r d q fb more k hf_4 hk1 hk hr hq hdc hdo hit H locs ls hB hl
      refine lv_iload_n hx hb dX6_parseMen_4 rfl (lv_at hl 0 rfl) ?_
      refine lv_iconst (v := nI 4) hx hb dX6_parseMen_5 (by decide) ?_
      refine jn_icmp_gt (tgt := 44) hx hb dX6_parseMen_6 (by decide) (by omega) (by omega) (fun c_6 => ?_) (fun c_6 => ?_)
      · exact j_vret hC hB dX6_parseMen_44 (by rw [show pms (I 22) n s (I 2) = (d, (q, fb), more) from by unfold pms; rw [← show k - 1 = 4 by omega, ← hit], hr])
      · refine lv_iload_n hx hb dX6_parseMen_9 rfl (lv_at hl 1 rfl) ?_
        refine jb_if_eq (tgt := 44) hx hb dX6_parseMen_10 (by decide) (fun c_10 => ?_) (fun c_10 => ?_)
        · exact j_vret hC hB dX6_parseMen_44 (by rw [show pms (I 22) n s (I 2) = (d, (q, fb), more) from by unfold pms; rw [pms_stop (k := k - 1) (by rw [← hit]; exact c_10) (by omega), ← hit], hr])
        · refine lv_aload_n hx hb dX6_parseMen_13 rfl (lv_at hl 2 rfl) ?_
          refine lv_aload_n hx hb dX6_parseMen_14 rfl (lv_at hl 3 rfl) ?_
          refine j_cvv (9, 0, 0) [.ref (G.2.2.1 (1, 2, 0))] hC hB hl.1 (c_X6_parseMan l_ G (sr (sr I 23 (r)) 2 (d)) J O  (by omega) (sr_sj.trans (hdc)) (hn) (hq) ((sr_ne (show (23 : Nat) ≠ 2 by decide)).trans (sr_self.trans (hr)))) (cwV 1 hts gX6_parseMen_X6_parseMan rfl rfl rfl (by decide +kernel) ⟨by decide, by decide⟩) dX6_parseMen_15 jk9 rfl rfl rfl rfl (Nat.le_of_ble_eq_true rfl) (fun u_15 H locs hp_15 hB => ?_)
          obtain rfl := hp_15
          have hl_15 : (pmS (I 22) n ((q, fb))).1 ≤ n := pmS_le (hq)
          have hB : jB G A s_.heap (sr (sr I 23 (tS o n (pmS (I 22) n ((q, fb))))) 2 (pmR (I 22) n ((q, fb)) (d)), J, O) H locs := by (rw [show sr (sr I 23 (tS o n (pmS (I 22) n ((q, fb))))) 2 (pmR (I 22) n ((q, fb)) (d)) = sr (sr (sr (sr I 23 (r)) 2 (d)) 23 (tS o n (pmS (I 22) n ((q, fb))))) 2 (pmR (I 22) n ((q, fb)) (d)) from by funext a; simp +decide only [sr]; (repeat' split) <;> first | rfl | (exfalso; omega) | (subst_vars; rfl)]; exact hB)
          refine lv_iload_n hx hb dX6_parseMen_18 rfl (lv_at hl 0 rfl) ?_
          refine lv_iconst (v := nI 4) hx hb dX6_parseMen_19 (by decide) ?_
          refine jn_icmp_ge (tgt := 36) hx hb dX6_parseMen_20 (by decide) (by omega) (by omega) (fun c_20 => ?_) (fun c_20 => ?_)
          · refine lv_iconst (v := nI 0) hx hb dX6_parseMen_36 (by decide) ?_
            refine lv_istore_n (lv' := [(2, .int (nI 0)), (3, .int (nI k)), (0, .ref (G.2.2.1 (9, 0, 0))), (1, .ref (G.2.2.1 (1, 2, 0)))]) hx hb dX6_parseMen_37 rfl hl (by decide) rfl (fun ls hl => ?_)
            refine lv_iinc (v := nI (k + 1)) (lv' := [(3, .int (nI (k + 1))), (2, .int (nI 0)), (0, .ref (G.2.2.1 (9, 0, 0))), (1, .ref (G.2.2.1 (1, 2, 0)))]) hx hb dX6_parseMen_38 hl (k := 1) rfl (jn_inc _ 1) (by decide) rfl (fun ls hl => ?_)
            refine lv_goto (tgt := 4) hx hb dX6_parseMen_41 (by decide) ?_
            exact ih_4 (tS o n (pmS (I 22) n ((q, fb)))) (pmR (I 22) n ((q, fb)) (d)) ((pmS (I 22) n ((q, fb))).1) ((pmS (I 22) n ((q, fb))).2) false (k + 1) (by omega) (by omega) (by omega) (rfl) (pmS_le (hq)) (by rw [show k + 1 - 1 = (k - 1) + 1 by omega]; exact (amR_1 (by omega) hdc).1) (((amR_1 (by omega) hdc).2).trans hdo) (by rw [show k + 1 - 1 = (k - 1) + 1 by omega, it_s, ← hit, pmsS, if_pos c_10, if_neg (show ¬ k - 1 < 3 by omega)]) _ _ _ hB (lv_sub hl [0, 1, 2, 3] rfl)
          · refine lv_aload_n hx hb dX6_parseMen_23 rfl (lv_at hl 2 rfl) ?_
            refine lv_bipush (v := nI 44) hx hb dX6_parseMen_24 (by decide) ?_
            refine j_cvi (9, 0, 0) [.int (nI 44)] hC hB hl.1 (c_X6_goesOnWith l_ G (sr (sr I 23 (tS o n (pmS (I 22) n ((q, fb))))) 2 (pmR (I 22) n ((q, fb)) (d))) J O (nI 44) (hn) (pmS_le (hq)) ((sr_ne (show (23 : Nat) ≠ 2 by decide)).trans (sr_self))) (cwV 1 hts gX6_parseMen_X6_goesOnWith rfl rfl rfl (by decide +kernel) ⟨by decide, by decide⟩) dX6_parseMen_26 jk9 rfl rfl rfl rfl (Nat.le_of_ble_eq_true rfl) (fun r_26 u_26 H locs hp_26 hB => ?_)
            obtain ⟨rfl, rfl⟩ := hp_26
            have hl_26 : ((gn (I 22) n (nI 44) ((pmS (I 22) n ((q, fb))))).2).1 ≤ n := gn_le (pmS_le (hq))
            have hB : jB G A s_.heap (sr (sr I 2 (pmR (I 22) n ((q, fb)) (d))) 23 (tS o n ((gn (I 22) n (nI 44) ((pmS (I 22) n ((q, fb))))).2)), J, O) H locs := by (rw [show sr (sr I 2 (pmR (I 22) n ((q, fb)) (d))) 23 (tS o n ((gn (I 22) n (nI 44) ((pmS (I 22) n ((q, fb))))).2)) = sr (sr (sr I 23 (tS o n (pmS (I 22) n ((q, fb))))) 2 (pmR (I 22) n ((q, fb)) (d))) 23 (tS o n ((gn (I 22) n (nI 44) ((pmS (I 22) n ((q, fb))))).2)) from by funext a; simp +decide only [sr]; (repeat' split) <;> first | rfl | (exfalso; omega) | (subst_vars; rfl)]; exact hB)
            refine j_eqi (y := b2 ((gn (I 22) n (nI 44) ((pmS (I 22) n ((q, fb))))).1)) (rfl) ?_
            refine jb_if_eq (tgt := 36) hx hb dX6_parseMen_29 (by decide) (fun c_29 => ?_) (fun c_29 => ?_)
            · refine lv_iconst (v := nI 0) hx hb dX6_parseMen_36 (by decide) ?_
              refine lv_istore_n (lv' := [(2, .int (nI 0)), (3, .int (nI k)), (0, .ref (G.2.2.1 (9, 0, 0))), (1, .ref (G.2.2.1 (1, 2, 0)))]) hx hb dX6_parseMen_37 rfl hl (by decide) rfl (fun ls hl => ?_)
              refine lv_iinc (v := nI (k + 1)) (lv' := [(3, .int (nI (k + 1))), (2, .int (nI 0)), (0, .ref (G.2.2.1 (9, 0, 0))), (1, .ref (G.2.2.1 (1, 2, 0)))]) hx hb dX6_parseMen_38 hl (k := 1) rfl (jn_inc _ 1) (by decide) rfl (fun ls hl => ?_)
              refine lv_goto (tgt := 4) hx hb dX6_parseMen_41 (by decide) ?_
              exact ih_4 (tS o n ((gn (I 22) n (nI 44) ((pmS (I 22) n ((q, fb))))).2)) (pmR (I 22) n ((q, fb)) (d)) (((gn (I 22) n (nI 44) ((pmS (I 22) n ((q, fb))))).2).1) (((gn (I 22) n (nI 44) ((pmS (I 22) n ((q, fb))))).2).2) false (k + 1) (by omega) (by omega) (by omega) (rfl) (gn_le (pmS_le (hq))) (by rw [show k + 1 - 1 = (k - 1) + 1 by omega]; exact (amR_1 (by omega) hdc).1) (((amR_1 (by omega) hdc).2).trans hdo) (by rw [show k + 1 - 1 = (k - 1) + 1 by omega, it_s, ← hit, pmsS, if_pos c_10, if_pos (show k - 1 < 3 by omega)]; simp only [c_29]) _ _ _ (jB_cast2 hB (by first | exact (sr_id _ _).symm | (funext a_; simp +decide only [sr]; (repeat' split) <;> first | rfl | (exfalso; omega) | (subst_vars; rfl))) rfl) (lv_sub hl [0, 1, 2, 3] rfl)
            · refine lv_iconst (v := nI 1) hx hb dX6_parseMen_32 (by decide) ?_
              refine lv_goto (tgt := 37) hx hb dX6_parseMen_33 (by decide) ?_
              refine lv_istore_n (lv' := [(2, .int (nI 1)), (3, .int (nI k)), (0, .ref (G.2.2.1 (9, 0, 0))), (1, .ref (G.2.2.1 (1, 2, 0)))]) hx hb dX6_parseMen_37 rfl hl (by decide) rfl (fun ls hl => ?_)
              refine lv_iinc (v := nI (k + 1)) (lv' := [(3, .int (nI (k + 1))), (2, .int (nI 1)), (0, .ref (G.2.2.1 (9, 0, 0))), (1, .ref (G.2.2.1 (1, 2, 0)))]) hx hb dX6_parseMen_38 hl (k := 1) rfl (jn_inc _ 1) (by decide) rfl (fun ls hl => ?_)
              refine lv_goto (tgt := 4) hx hb dX6_parseMen_41 (by decide) ?_
              exact ih_4 (tS o n ((gn (I 22) n (nI 44) ((pmS (I 22) n ((q, fb))))).2)) (pmR (I 22) n ((q, fb)) (d)) (((gn (I 22) n (nI 44) ((pmS (I 22) n ((q, fb))))).2).1) (((gn (I 22) n (nI 44) ((pmS (I 22) n ((q, fb))))).2).2) true (k + 1) (by omega) (by omega) (by omega) (rfl) (gn_le (pmS_le (hq))) (by rw [show k + 1 - 1 = (k - 1) + 1 by omega]; exact (amR_1 (by omega) hdc).1) (((amR_1 (by omega) hdc).2).trans hdo) (by rw [show k + 1 - 1 = (k - 1) + 1 by omega, it_s, ← hit, pmsS, if_pos c_10, if_pos (show k - 1 < 3 by omega)]; simp only [c_29]) _ _ _ (jB_cast2 hB (by first | exact (sr_id _ _).symm | (funext a_; simp +decide only [sr]; (repeat' split) <;> first | rfl | (exfalso; omega) | (subst_vars; rfl))) rfl) (lv_sub hl [0, 1, 2, 3] rfl)
  exact lp_4 _ (I 23) (I 2) s.1 s.2 true 1 (Nat.lt_succ_self _) (by omega) (by omega) (hT) (hs) (hc0) (rfl) (rfl) _ _ _ (jB_cast2 hB (by first | exact (sr_id _ _).symm | (funext a_; simp +decide only [sr]; (repeat' split) <;> first | rfl | (exfalso; omega) | (subst_vars; rfl))) rfl) (lv_sub hl [0, 1, 2, 3] rfl)

set_option maxHeartbeats 4000000 in
set_option maxRecDepth 100000 in
theorem c_X6_parse (l_ : Launch) (G : jG) (I : Nat → Nat → Int32) (J : Nat → Nat → Int64) (O : Nat → Nat → Nat)  {o : Nat → Int32} {n : Nat} {s : Nat × Bool} (hn : n ≤ 90) (hT : I 23 = tS o n s) : jMi l_ G yX6_parse wsX6_parse ({ frames := 8, cells := 0, slots := 0, locals := 188 }) [.ref (G.2.2.1 (9, 0, 0)), .ref (G.2.2.1 (1, 2, 0))] (I, J, O) (fun r u => r = prA (I 22) n (a00 (I 2)) ∧ u = (sr (sr I 23 (tS o n (prS (I 22) n (a00 (I 2))))) 2 ((prM (I 22) n (a00 (I 2))).1), J, O)) := by
  refine jMi_of (cc := cX6_parse) (maxL := 2) (ret := (some .int)) (lv0 := [(0, .ref (G.2.2.1 (9, 0, 0))), (1, .ref (G.2.2.1 (1, 2, 0)))]) (by decide) rfl (Nat.le_of_ble_eq_true rfl) rfl ?_
  intro pg_ ev_ s_ mi_ below meth cd_ A ls hC hB hl
  obtain ⟨hx, hb, hr, hml, hown, hts, hlocks, hK, hA⟩ := id hC
  have lk_19 := hts (.fieldLink RX6 19 "RiddlePrison$Tape" "place" "I") (by decide +kernel)
  have lk_22 := hts (.fieldLink RX6 22 "RiddlePrison$Tape" "faulty" "Z") (by decide +kernel)
  have ln_26 := (by decide +kernel : Cond.fieldLinkNest RX6 26 "RiddlePrison$Prison" "doorCount" "I" "RiddlePrison" ∈ nsW)
  have ln_31 := (by decide +kernel : Cond.fieldLinkNest RX6 31 "RiddlePrison$Prison" "manCount" "I" "RiddlePrison" ∈ nsW)
  have lk_15 := hts (.fieldLink RX6 15 "RiddlePrison$Tape" "size" "I") (by decide +kernel)
  have in_X6 := (fun w h => List.mem_cons_of_mem _ (List.mem_append_left _ (List.mem_append_left _ (List.mem_append_left _ (List.mem_append_right _ h)))) : ∀ w ∈ wsX60, w ∈ wsX6_parse)
  have in_X4 := (fun w h => List.mem_cons_of_mem _ (List.mem_append_left _ (List.mem_append_left _ (List.mem_append_right _ h))) : ∀ w ∈ wsX40, w ∈ wsX6_parse)
  have hT0 : I 23 0 = nI n := by rw [hT]; exact tS_0
  have hT1 : I 23 1 = nI s.1 := by rw [hT]; exact tS_1
  have hT2 : I 23 2 = b2 s.2 := by rw [hT]; exact tS_2
  refine lv_aload_n hx hb dX6_parse_0 rfl (lv_at hl 0 rfl) ?_
  refine lv_iconst (v := nI 0) hx hb dX6_parse_1 (by decide) ?_
  refine j_put (9, 0, 0) 2 (u2 I 23 1 (nI 0), J, O) (ty := .int) hC hB in_X6 tyX6_ok nmX6 lk_19 dX6_parse_2 jk9 rfl rfl (by decide) rfl (by decide +kernel) rfl rfl (Nat.le_of_ble_eq_true rfl) (fun z hz hne => jw_fr z hz hne) (rfl) (fun H locs hB => ?_)
  have hB : jB G A s_.heap (sr I 23 (upd (I 23) 1 (nI 0)), J, O) H locs := by rw [show sr I 23 (upd (I 23) 1 (nI 0)) = u2 I 23 1 (nI 0) from (u2_eq _ _ _ _).symm]; exact hB
  have hB : jB G A s_.heap (sr I 23 (tS o n (0, s.2)), J, O) H locs := by rw [← show upd (I 23) 1 (nI 0) = tS o n (0, s.2) from by rw [hT]; exact tS_p]; exact hB
  refine lv_aload_n hx hb dX6_parse_5 rfl (lv_at hl 0 rfl) ?_
  refine lv_iconst (v := nI 0) hx hb dX6_parse_6 (by decide) ?_
  refine j_put (9, 0, 0) 3 (u2 (sr I 23 (tS o n (0, s.2))) 23 2 (nI 0), J, O) (ty := .boolean) hC hB in_X6 tyX6_ok nmX6 lk_22 dX6_parse_7 jk9 rfl rfl (by decide) rfl (by decide +kernel) rfl rfl (Nat.le_of_ble_eq_true rfl) (fun z hz hne => jw_fr z hz hne) (rfl) (fun H locs hB => ?_)
  have hB : jB G A s_.heap (sr I 23 (upd (tS o n (0, s.2)) 2 (nI 0)), J, O) H locs := by rw [show sr I 23 (upd (tS o n (0, s.2)) 2 (nI 0)) = u2 (sr I 23 (tS o n (0, s.2))) 23 2 (nI 0) from (u2_sr _ _ _ _ _).symm]; exact hB
  have hB : jB G A s_.heap (sr I 23 (tS o n (0, false)), J, O) H locs := by rw [← show upd (tS o n (0, s.2)) 2 (nI 0) = tS o n (0, false) from tS_f (b := false)]; exact hB
  refine lv_aload_n hx hb dX6_parse_10 rfl (lv_at hl 1 rfl) ?_
  refine lv_iconst (v := nI 0) hx hb dX6_parse_11 (by decide) ?_
  refine j_putN (1, 2, 0) 2 (u2 (sr I 23 (tS o n (0, false))) 2 0 (nI 0), J, O) (ty := .int) hC hB in_X4 tyX4_ok nmX4 ln_26 dX6_parse_12 (jk1 (by omega)) rfl rfl (by decide) rfl (by decide +kernel) rfl rfl (Nat.le_of_ble_eq_true rfl) (fun z hz hne => jw_fr z hz (by rw [jof_p0 (by omega)]; exact hne)) (by simp [jw, u2]) (fun H locs hB => ?_)
  have hB : jB G A s_.heap (sr (sr I 23 (tS o n (0, false))) 2 (upd (I 2) 0 (nI 0)), J, O) H locs := by rw [show sr (sr I 23 (tS o n (0, false))) 2 (upd (I 2) 0 (nI 0)) = u2 (sr I 23 (tS o n (0, false))) 2 0 (nI 0) from (u2_sr1 (show (2 : Nat) ≠ 23 by omega)).symm]; exact hB
  refine lv_aload_n hx hb dX6_parse_15 rfl (lv_at hl 1 rfl) ?_
  refine lv_iconst (v := nI 0) hx hb dX6_parse_16 (by decide) ?_
  refine j_putN (1, 2, 0) 3 (u2 (sr (sr I 23 (tS o n (0, false))) 2 (upd (I 2) 0 (nI 0))) 2 1 (nI 0), J, O) (ty := .int) hC hB in_X4 tyX4_ok nmX4 ln_31 dX6_parse_17 (jk1 (by omega)) rfl rfl (by decide) rfl (by decide +kernel) rfl rfl (Nat.le_of_ble_eq_true rfl) (fun z hz hne => jw_fr z hz (by rw [jof_p1 (by omega)]; exact hne)) (by simp [jw, u2]) (fun H locs hB => ?_)
  have hB : jB G A s_.heap (sr (sr I 23 (tS o n (0, false))) 2 (upd (upd (I 2) 0 (nI 0)) 1 (nI 0)), J, O) H locs := by rw [show sr (sr I 23 (tS o n (0, false))) 2 (upd (upd (I 2) 0 (nI 0)) 1 (nI 0)) = u2 (sr (sr I 23 (tS o n (0, false))) 2 (upd (I 2) 0 (nI 0))) 2 1 (nI 0) from (u2_sr _ _ _ _ _).symm]; exact hB
  have hB : jB G A s_.heap (sr (sr I 23 (tS o n (0, false))) 2 (a00 (I 2)), J, O) H locs := by rw [← show upd (upd (I 2) 0 (nI 0)) 1 (nI 0) = a00 (I 2) from rfl]; exact hB
  refine lv_aload_n hx hb dX6_parse_20 rfl (lv_at hl 0 rfl) ?_
  refine lv_aload_n hx hb dX6_parse_21 rfl (lv_at hl 1 rfl) ?_
  refine j_cvv (9, 0, 0) [.ref (G.2.2.1 (1, 2, 0))] hC hB hl.1 (c_X6_parseDoors l_ G (sr (sr I 23 (tS o n (0, false))) 2 (a00 (I 2))) J O  (sr_sj.trans (a00_0)) (hn) (Nat.zero_le _) ((sr_ne (show (23 : Nat) ≠ 2 by decide)).trans (sr_self))) (cwV 1 hts gX6_parse_X6_parseDoors rfl rfl rfl (by decide +kernel) ⟨by decide, by decide⟩) dX6_parse_22 jk9 rfl rfl rfl rfl (Nat.le_of_ble_eq_true rfl) (fun u_22 H locs hp_22 hB => ?_)
  obtain rfl := hp_22
  have hl_22 : ((pds (I 22) n ((0, false)) (a00 (I 2))).2.1).1 ≤ n := pds_le (Nat.zero_le _)
  have hB : jB G A s_.heap (sr (sr I 23 (tS o n ((pds (I 22) n ((0, false)) (a00 (I 2))).2.1))) 2 ((pds (I 22) n ((0, false)) (a00 (I 2))).1), J, O) H locs := by (rw [show sr (sr I 23 (tS o n ((pds (I 22) n ((0, false)) (a00 (I 2))).2.1))) 2 ((pds (I 22) n ((0, false)) (a00 (I 2))).1) = sr (sr (sr (sr I 23 (tS o n (0, false))) 2 (a00 (I 2))) 23 (tS o n ((pds (I 22) n ((0, false)) (a00 (I 2))).2.1))) 2 ((pds (I 22) n ((0, false)) (a00 (I 2))).1) from by funext a; simp +decide only [sr]; (repeat' split) <;> first | rfl | (exfalso; omega) | (subst_vars; rfl)]; exact hB)
  refine lv_aload_n hx hb dX6_parse_25 rfl (lv_at hl 0 rfl) ?_
  refine lv_bipush (v := nI 59) hx hb dX6_parse_26 (by decide) ?_
  refine j_cvi (9, 0, 0) [.int (nI 59)] hC hB hl.1 (c_X6_goesOnWith l_ G (sr (sr I 23 (tS o n ((pds (I 22) n ((0, false)) (a00 (I 2))).2.1))) 2 ((pds (I 22) n ((0, false)) (a00 (I 2))).1)) J O (nI 59) (hn) (pds_le (Nat.zero_le _)) ((sr_ne (show (23 : Nat) ≠ 2 by decide)).trans (sr_self))) (cwV 1 hts gX6_parse_X6_goesOnWith rfl rfl rfl (by decide +kernel) ⟨by decide, by decide⟩) dX6_parse_28 jk9 rfl rfl rfl rfl (Nat.le_of_ble_eq_true rfl) (fun r_28 u_28 H locs hp_28 hB => ?_)
  obtain ⟨rfl, rfl⟩ := hp_28
  have hl_28 : ((gn (I 22) n (nI 59) (((pds (I 22) n ((0, false)) (a00 (I 2))).2.1))).2).1 ≤ n := gn_le (pds_le (Nat.zero_le _))
  have hB : jB G A s_.heap (sr (sr I 2 ((pds (I 22) n ((0, false)) (a00 (I 2))).1)) 23 (tS o n ((gn (I 22) n (nI 59) (((pds (I 22) n ((0, false)) (a00 (I 2))).2.1))).2)), J, O) H locs := by (rw [show sr (sr I 2 ((pds (I 22) n ((0, false)) (a00 (I 2))).1)) 23 (tS o n ((gn (I 22) n (nI 59) (((pds (I 22) n ((0, false)) (a00 (I 2))).2.1))).2)) = sr (sr (sr I 23 (tS o n ((pds (I 22) n ((0, false)) (a00 (I 2))).2.1))) 2 ((pds (I 22) n ((0, false)) (a00 (I 2))).1)) 23 (tS o n ((gn (I 22) n (nI 59) (((pds (I 22) n ((0, false)) (a00 (I 2))).2.1))).2)) from by funext a; simp +decide only [sr]; (repeat' split) <;> first | rfl | (exfalso; omega) | (subst_vars; rfl)]; exact hB)
  refine j_eqi (y := b2 ((gn (I 22) n (nI 59) (((pds (I 22) n ((0, false)) (a00 (I 2))).2.1))).1)) (rfl) ?_
  refine jb_if_eq (tgt := 39) hx hb dX6_parse_31 (by decide) (fun c_31 => ?_) (fun c_31 => ?_)
  · have hB : jB G A s_.heap (sr (sr I 2 ((prM (I 22) n (a00 (I 2))).1)) 23 (tS o n ((gn (I 22) n (nI 59) (((pds (I 22) n ((0, false)) (a00 (I 2))).2.1))).2)), J, O) H locs := by rw [← show (pds (I 22) n ((0, false)) (a00 (I 2))).1 = (prM (I 22) n (a00 (I 2))).1 from by rw [prM, if_neg (by rw [c_31]; decide)]]; exact hB
    have hB : jB G A s_.heap (sr (sr I 2 ((prM (I 22) n (a00 (I 2))).1)) 23 (tS o n (prM (I 22) n (a00 (I 2))).2), J, O) H locs := by rw [← show tS o n ((gn (I 22) n (nI 59) (((pds (I 22) n ((0, false)) (a00 (I 2))).2.1))).2) = tS o n (prM (I 22) n (a00 (I 2))).2 from by rw [prM, if_neg (by rw [c_31]; decide)]]; exact hB
    refine lv_aload_n hx hb dX6_parse_39 rfl (lv_at hl 0 rfl) ?_
    refine j_cvv (9, 0, 0) [] hC hB hl.1 (c_X6_skipBlanks l_ G (sr (sr I 2 ((prM (I 22) n (a00 (I 2))).1)) 23 (tS o n (prM (I 22) n (a00 (I 2))).2)) J O  (hn) (prM_le) (sr_self)) (cwV 0 hts gX6_parse_X6_skipBlanks rfl rfl rfl (by decide +kernel) ⟨by decide, by decide⟩) dX6_parse_40 jk9 rfl rfl rfl rfl (Nat.le_of_ble_eq_true rfl) (fun u_40 H locs hp_40 hB => ?_)
    obtain rfl := hp_40
    have hl_40 : (skS (I 22) n (((prM (I 22) n (a00 (I 2))).2))).1 ≤ n := skS_le (prM_le)
    have hB : jB G A s_.heap (sr (sr I 2 ((prM (I 22) n (a00 (I 2))).1)) 23 (tS o n (skS (I 22) n (((prM (I 22) n (a00 (I 2))).2)))), J, O) H locs := by (rw [show sr (sr I 2 ((prM (I 22) n (a00 (I 2))).1)) 23 (tS o n (skS (I 22) n (((prM (I 22) n (a00 (I 2))).2)))) = sr (sr (sr I 2 ((prM (I 22) n (a00 (I 2))).1)) 23 (tS o n (prM (I 22) n (a00 (I 2))).2)) 23 (tS o n (skS (I 22) n (((prM (I 22) n (a00 (I 2))).2)))) from by funext a; simp +decide only [sr]; (repeat' split) <;> first | rfl | (exfalso; omega) | (subst_vars; rfl)]; exact hB)
    refine lv_aload_n hx hb dX6_parse_43 rfl (lv_at hl 0 rfl) ?_
    refine j_get (9, 0, 0) 2 (v := .int ((sr (sr I 2 ((prM (I 22) n (a00 (I 2))).1)) 23 (tS o n (skS (I 22) n (((prM (I 22) n (a00 (I 2))).2))))) 23 1)) hC hB in_X6 lk_19 dX6_parse_44 jk9 rfl rfl (by decide) rfl ?_
    refine j_eqi (x := (sr (sr I 2 ((prM (I 22) n (a00 (I 2))).1)) 23 (tS o n (skS (I 22) n (((prM (I 22) n (a00 (I 2))).2))))) 23 1) (y := nI ((skS (I 22) n (((prM (I 22) n (a00 (I 2))).2))).1)) (sr_sj.trans (tS_1)) ?_
    refine lv_aload_n hx hb dX6_parse_47 rfl (lv_at hl 0 rfl) ?_
    refine j_get (9, 0, 0) 1 (v := .int ((sr (sr I 2 ((prM (I 22) n (a00 (I 2))).1)) 23 (tS o n (skS (I 22) n (((prM (I 22) n (a00 (I 2))).2))))) 23 0)) hC hB in_X6 lk_15 dX6_parse_48 jk9 rfl rfl (by decide) rfl ?_
    refine j_eqi (x := (sr (sr I 2 ((prM (I 22) n (a00 (I 2))).1)) 23 (tS o n (skS (I 22) n (((prM (I 22) n (a00 (I 2))).2))))) 23 0) (y := nI n) (sr_sj.trans (tS_0)) ?_
    refine jn_icmp_ge (tgt := 62) hx hb dX6_parse_51 (by decide) (by omega) (by omega) (fun c_51 => ?_) (fun c_51 => ?_)
    · have hB : jB G A s_.heap (sr (sr I 2 ((prM (I 22) n (a00 (I 2))).1)) 23 (tS o n (prS (I 22) n (a00 (I 2)))), J, O) H locs := by rw [← show tS o n (skS (I 22) n (((prM (I 22) n (a00 (I 2))).2))) = tS o n (prS (I 22) n (a00 (I 2))) from by rw [prS, if_neg (by omega)]]; exact hB
      refine lv_aload_n hx hb dX6_parse_62 rfl (lv_at hl 0 rfl) ?_
      refine j_get (9, 0, 0) 3 (v := .int ((sr (sr I 2 ((prM (I 22) n (a00 (I 2))).1)) 23 (tS o n (prS (I 22) n (a00 (I 2))))) 23 2)) hC hB in_X6 lk_22 dX6_parse_63 jk9 rfl rfl (by decide) rfl ?_
      refine j_eqi (x := (sr (sr I 2 ((prM (I 22) n (a00 (I 2))).1)) 23 (tS o n (prS (I 22) n (a00 (I 2))))) 23 2) (y := b2 ((prS (I 22) n (a00 (I 2))).2)) (sr_sj.trans (tS_2)) ?_
      refine jb_if_eq (tgt := 79) hx hb dX6_parse_66 (by decide) (fun c_66 => ?_) (fun c_66 => ?_)
      · refine lv_aload_n hx hb dX6_parse_79 rfl (lv_at hl 1 rfl) ?_
        refine j_getN (1, 2, 0) 2 (v := .int ((sr (sr I 2 ((prM (I 22) n (a00 (I 2))).1)) 23 (tS o n (prS (I 22) n (a00 (I 2))))) 2 0)) hC hB in_X4 ln_26 dX6_parse_80 (jk1 (by omega)) rfl rfl (by decide) rfl ?_
        refine j_eqi (x := (sr (sr I 2 ((prM (I 22) n (a00 (I 2))).1)) 23 (tS o n (prS (I 22) n (a00 (I 2))))) 2 0) (y := ((prM (I 22) n (a00 (I 2))).1) 0) ((sr_nj (show (2 : Nat) ≠ 23 by omega)).trans (sr_sj)) ?_
        exact j_iret hC hB dX6_parse_83 (⟨by rw [prA, if_neg (by rw [c_66]; decide)], by rw [sr_sw (show (2 : Nat) ≠ 23 by decide)]⟩)
      · refine lv_bipush (v := (-20 : Int32)) hx hb dX6_parse_69 (by decide) ?_
        refine lv_aload_n hx hb dX6_parse_71 rfl (lv_at hl 0 rfl) ?_
        refine j_get (9, 0, 0) 2 (v := .int ((sr (sr I 2 ((prM (I 22) n (a00 (I 2))).1)) 23 (tS o n (prS (I 22) n (a00 (I 2))))) 23 1)) hC hB in_X6 lk_19 dX6_parse_72 jk9 rfl rfl (by decide) rfl ?_
        refine j_eqi (x := (sr (sr I 2 ((prM (I 22) n (a00 (I 2))).1)) 23 (tS o n (prS (I 22) n (a00 (I 2))))) 23 1) (y := nI ((prS (I 22) n (a00 (I 2))).1)) (sr_sj.trans (tS_1)) ?_
        refine lv_isub hx hb dX6_parse_75 ?_
        refine lv_goto (tgt := 83) hx hb dX6_parse_76 (by decide) ?_
        exact j_iret hC hB dX6_parse_83 (⟨by rw [prA, if_pos c_66], by rw [sr_sw (show (2 : Nat) ≠ 23 by decide)]⟩)
    · refine lv_aload_n hx hb dX6_parse_54 rfl (lv_at hl 0 rfl) ?_
      refine lv_aload_n hx hb dX6_parse_55 rfl (lv_at hl 0 rfl) ?_
      refine j_get (9, 0, 0) 2 (v := .int ((sr (sr I 2 ((prM (I 22) n (a00 (I 2))).1)) 23 (tS o n (skS (I 22) n (((prM (I 22) n (a00 (I 2))).2))))) 23 1)) hC hB in_X6 lk_19 dX6_parse_56 jk9 rfl rfl (by decide) rfl ?_
      refine j_eqi (x := (sr (sr I 2 ((prM (I 22) n (a00 (I 2))).1)) 23 (tS o n (skS (I 22) n (((prM (I 22) n (a00 (I 2))).2))))) 23 1) (y := nI ((skS (I 22) n (((prM (I 22) n (a00 (I 2))).2))).1)) (sr_sj.trans (tS_1)) ?_
      refine j_cvv (9, 0, 0) [.int (nI ((skS (I 22) n (((prM (I 22) n (a00 (I 2))).2))).1))] hC hB hl.1 (c_X6_failAt l_ G (sr (sr I 2 ((prM (I 22) n (a00 (I 2))).1)) 23 (tS o n (skS (I 22) n (((prM (I 22) n (a00 (I 2))).2))))) J O (nI ((skS (I 22) n (((prM (I 22) n (a00 (I 2))).2))).1)) (((skS (I 22) n (((prM (I 22) n (a00 (I 2))).2))).1)) (fun _ => rfl) (hn) (skS_le (prM_le)) (sr_self)) (cwV 1 hts gX6_parse_X6_failAt rfl rfl rfl (by decide +kernel) ⟨by decide, by decide⟩) dX6_parse_59 jk9 rfl rfl rfl rfl (Nat.le_of_ble_eq_true rfl) (fun u_59 H locs hp_59 hB => ?_)
      obtain rfl := hp_59
      have hl_59 : (flS ((skS (I 22) n (((prM (I 22) n (a00 (I 2))).2)))) ((skS (I 22) n (((prM (I 22) n (a00 (I 2))).2))).1)).1 ≤ n := flS_le (skS_le (prM_le)) (by omega)
      have hB : jB G A s_.heap (sr (sr I 2 ((prM (I 22) n (a00 (I 2))).1)) 23 (tS o n (flS ((skS (I 22) n (((prM (I 22) n (a00 (I 2))).2)))) ((skS (I 22) n (((prM (I 22) n (a00 (I 2))).2))).1))), J, O) H locs := by (rw [show sr (sr I 2 ((prM (I 22) n (a00 (I 2))).1)) 23 (tS o n (flS ((skS (I 22) n (((prM (I 22) n (a00 (I 2))).2)))) ((skS (I 22) n (((prM (I 22) n (a00 (I 2))).2))).1))) = sr (sr (sr I 2 ((prM (I 22) n (a00 (I 2))).1)) 23 (tS o n (skS (I 22) n (((prM (I 22) n (a00 (I 2))).2))))) 23 (tS o n (flS ((skS (I 22) n (((prM (I 22) n (a00 (I 2))).2)))) ((skS (I 22) n (((prM (I 22) n (a00 (I 2))).2))).1))) from by funext a; simp +decide only [sr]; (repeat' split) <;> first | rfl | (exfalso; omega) | (subst_vars; rfl)]; exact hB)
      have hB : jB G A s_.heap (sr (sr I 2 ((prM (I 22) n (a00 (I 2))).1)) 23 (tS o n (prS (I 22) n (a00 (I 2)))), J, O) H locs := by rw [← show tS o n (flS ((skS (I 22) n (((prM (I 22) n (a00 (I 2))).2)))) ((skS (I 22) n (((prM (I 22) n (a00 (I 2))).2))).1)) = tS o n (prS (I 22) n (a00 (I 2))) from by rw [prS, if_pos c_51]]; exact hB
      refine lv_aload_n hx hb dX6_parse_62 rfl (lv_at hl 0 rfl) ?_
      refine j_get (9, 0, 0) 3 (v := .int ((sr (sr I 2 ((prM (I 22) n (a00 (I 2))).1)) 23 (tS o n (prS (I 22) n (a00 (I 2))))) 23 2)) hC hB in_X6 lk_22 dX6_parse_63 jk9 rfl rfl (by decide) rfl ?_
      refine j_eqi (x := (sr (sr I 2 ((prM (I 22) n (a00 (I 2))).1)) 23 (tS o n (prS (I 22) n (a00 (I 2))))) 23 2) (y := b2 ((prS (I 22) n (a00 (I 2))).2)) (sr_sj.trans (tS_2)) ?_
      refine jb_if_eq (tgt := 79) hx hb dX6_parse_66 (by decide) (fun c_66 => ?_) (fun c_66 => ?_)
      · refine lv_aload_n hx hb dX6_parse_79 rfl (lv_at hl 1 rfl) ?_
        refine j_getN (1, 2, 0) 2 (v := .int ((sr (sr I 2 ((prM (I 22) n (a00 (I 2))).1)) 23 (tS o n (prS (I 22) n (a00 (I 2))))) 2 0)) hC hB in_X4 ln_26 dX6_parse_80 (jk1 (by omega)) rfl rfl (by decide) rfl ?_
        refine j_eqi (x := (sr (sr I 2 ((prM (I 22) n (a00 (I 2))).1)) 23 (tS o n (prS (I 22) n (a00 (I 2))))) 2 0) (y := ((prM (I 22) n (a00 (I 2))).1) 0) ((sr_nj (show (2 : Nat) ≠ 23 by omega)).trans (sr_sj)) ?_
        exact j_iret hC hB dX6_parse_83 (⟨by rw [prA, if_neg (by rw [c_66]; decide)], by rw [sr_sw (show (2 : Nat) ≠ 23 by decide)]⟩)
      · refine lv_bipush (v := (-20 : Int32)) hx hb dX6_parse_69 (by decide) ?_
        refine lv_aload_n hx hb dX6_parse_71 rfl (lv_at hl 0 rfl) ?_
        refine j_get (9, 0, 0) 2 (v := .int ((sr (sr I 2 ((prM (I 22) n (a00 (I 2))).1)) 23 (tS o n (prS (I 22) n (a00 (I 2))))) 23 1)) hC hB in_X6 lk_19 dX6_parse_72 jk9 rfl rfl (by decide) rfl ?_
        refine j_eqi (x := (sr (sr I 2 ((prM (I 22) n (a00 (I 2))).1)) 23 (tS o n (prS (I 22) n (a00 (I 2))))) 23 1) (y := nI ((prS (I 22) n (a00 (I 2))).1)) (sr_sj.trans (tS_1)) ?_
        refine lv_isub hx hb dX6_parse_75 ?_
        refine lv_goto (tgt := 83) hx hb dX6_parse_76 (by decide) ?_
        exact j_iret hC hB dX6_parse_83 (⟨by rw [prA, if_pos c_66], by rw [sr_sw (show (2 : Nat) ≠ 23 by decide)]⟩)
  · refine lv_aload_n hx hb dX6_parse_34 rfl (lv_at hl 0 rfl) ?_
    refine lv_aload_n hx hb dX6_parse_35 rfl (lv_at hl 1 rfl) ?_
    refine j_cvv (9, 0, 0) [.ref (G.2.2.1 (1, 2, 0))] hC hB hl.1 (c_X6_parseMen l_ G (sr (sr I 2 ((pds (I 22) n ((0, false)) (a00 (I 2))).1)) 23 (tS o n ((gn (I 22) n (nI 59) (((pds (I 22) n ((0, false)) (a00 (I 2))).2.1))).2))) J O  ((sr_nj (show (2 : Nat) ≠ 23 by omega)).trans (sr_sj.trans (((pds_cnt a00_0).2).trans a00_1))) (hn) (gn_le (pds_le (Nat.zero_le _))) (sr_self)) (cwV 1 hts gX6_parse_X6_parseMen rfl rfl rfl (by decide +kernel) ⟨by decide, by decide⟩) dX6_parse_36 jk9 rfl rfl rfl rfl (Nat.le_of_ble_eq_true rfl) (fun u_36 H locs hp_36 hB => ?_)
    obtain rfl := hp_36
    have hl_36 : ((pms (I 22) n (((gn (I 22) n (nI 59) (((pds (I 22) n ((0, false)) (a00 (I 2))).2.1))).2)) ((pds (I 22) n ((0, false)) (a00 (I 2))).1)).2.1).1 ≤ n := pms_le (gn_le (pds_le (Nat.zero_le _)))
    have hB : jB G A s_.heap (sr (sr I 23 (tS o n ((pms (I 22) n (((gn (I 22) n (nI 59) (((pds (I 22) n ((0, false)) (a00 (I 2))).2.1))).2)) ((pds (I 22) n ((0, false)) (a00 (I 2))).1)).2.1))) 2 ((pms (I 22) n (((gn (I 22) n (nI 59) (((pds (I 22) n ((0, false)) (a00 (I 2))).2.1))).2)) ((pds (I 22) n ((0, false)) (a00 (I 2))).1)).1), J, O) H locs := by (rw [show sr (sr I 23 (tS o n ((pms (I 22) n (((gn (I 22) n (nI 59) (((pds (I 22) n ((0, false)) (a00 (I 2))).2.1))).2)) ((pds (I 22) n ((0, false)) (a00 (I 2))).1)).2.1))) 2 ((pms (I 22) n (((gn (I 22) n (nI 59) (((pds (I 22) n ((0, false)) (a00 (I 2))).2.1))).2)) ((pds (I 22) n ((0, false)) (a00 (I 2))).1)).1) = sr (sr (sr (sr I 2 ((pds (I 22) n ((0, false)) (a00 (I 2))).1)) 23 (tS o n ((gn (I 22) n (nI 59) (((pds (I 22) n ((0, false)) (a00 (I 2))).2.1))).2))) 23 (tS o n ((pms (I 22) n (((gn (I 22) n (nI 59) (((pds (I 22) n ((0, false)) (a00 (I 2))).2.1))).2)) ((pds (I 22) n ((0, false)) (a00 (I 2))).1)).2.1))) 2 ((pms (I 22) n (((gn (I 22) n (nI 59) (((pds (I 22) n ((0, false)) (a00 (I 2))).2.1))).2)) ((pds (I 22) n ((0, false)) (a00 (I 2))).1)).1) from by funext a; simp +decide only [sr]; (repeat' split) <;> first | rfl | (exfalso; omega) | (subst_vars; rfl)]; exact hB)
    have hB : jB G A s_.heap (sr (sr I 23 (tS o n ((pms (I 22) n (((gn (I 22) n (nI 59) (((pds (I 22) n ((0, false)) (a00 (I 2))).2.1))).2)) ((pds (I 22) n ((0, false)) (a00 (I 2))).1)).2.1))) 2 ((prM (I 22) n (a00 (I 2))).1), J, O) H locs := by rw [← show (pms (I 22) n (((gn (I 22) n (nI 59) (((pds (I 22) n ((0, false)) (a00 (I 2))).2.1))).2)) ((pds (I 22) n ((0, false)) (a00 (I 2))).1)).1 = (prM (I 22) n (a00 (I 2))).1 from by rw [prM, if_pos c_31]]; exact hB
    have hB : jB G A s_.heap (sr (sr I 23 (tS o n (prM (I 22) n (a00 (I 2))).2)) 2 ((prM (I 22) n (a00 (I 2))).1), J, O) H locs := by rw [← show tS o n ((pms (I 22) n (((gn (I 22) n (nI 59) (((pds (I 22) n ((0, false)) (a00 (I 2))).2.1))).2)) ((pds (I 22) n ((0, false)) (a00 (I 2))).1)).2.1) = tS o n (prM (I 22) n (a00 (I 2))).2 from by rw [prM, if_pos c_31]]; exact hB
    refine lv_aload_n hx hb dX6_parse_39 rfl (lv_at hl 0 rfl) ?_
    refine j_cvv (9, 0, 0) [] hC hB hl.1 (c_X6_skipBlanks l_ G (sr (sr I 23 (tS o n (prM (I 22) n (a00 (I 2))).2)) 2 ((prM (I 22) n (a00 (I 2))).1)) J O  (hn) (prM_le) ((sr_ne (show (23 : Nat) ≠ 2 by decide)).trans (sr_self))) (cwV 0 hts gX6_parse_X6_skipBlanks rfl rfl rfl (by decide +kernel) ⟨by decide, by decide⟩) dX6_parse_40 jk9 rfl rfl rfl rfl (Nat.le_of_ble_eq_true rfl) (fun u_40 H locs hp_40 hB => ?_)
    obtain rfl := hp_40
    have hl_40 : (skS (I 22) n (((prM (I 22) n (a00 (I 2))).2))).1 ≤ n := skS_le (prM_le)
    have hB : jB G A s_.heap (sr (sr I 2 ((prM (I 22) n (a00 (I 2))).1)) 23 (tS o n (skS (I 22) n (((prM (I 22) n (a00 (I 2))).2)))), J, O) H locs := by (rw [show sr (sr I 2 ((prM (I 22) n (a00 (I 2))).1)) 23 (tS o n (skS (I 22) n (((prM (I 22) n (a00 (I 2))).2)))) = sr (sr (sr I 23 (tS o n (prM (I 22) n (a00 (I 2))).2)) 2 ((prM (I 22) n (a00 (I 2))).1)) 23 (tS o n (skS (I 22) n (((prM (I 22) n (a00 (I 2))).2)))) from by funext a; simp +decide only [sr]; (repeat' split) <;> first | rfl | (exfalso; omega) | (subst_vars; rfl)]; exact hB)
    refine lv_aload_n hx hb dX6_parse_43 rfl (lv_at hl 0 rfl) ?_
    refine j_get (9, 0, 0) 2 (v := .int ((sr (sr I 2 ((prM (I 22) n (a00 (I 2))).1)) 23 (tS o n (skS (I 22) n (((prM (I 22) n (a00 (I 2))).2))))) 23 1)) hC hB in_X6 lk_19 dX6_parse_44 jk9 rfl rfl (by decide) rfl ?_
    refine j_eqi (x := (sr (sr I 2 ((prM (I 22) n (a00 (I 2))).1)) 23 (tS o n (skS (I 22) n (((prM (I 22) n (a00 (I 2))).2))))) 23 1) (y := nI ((skS (I 22) n (((prM (I 22) n (a00 (I 2))).2))).1)) (sr_sj.trans (tS_1)) ?_
    refine lv_aload_n hx hb dX6_parse_47 rfl (lv_at hl 0 rfl) ?_
    refine j_get (9, 0, 0) 1 (v := .int ((sr (sr I 2 ((prM (I 22) n (a00 (I 2))).1)) 23 (tS o n (skS (I 22) n (((prM (I 22) n (a00 (I 2))).2))))) 23 0)) hC hB in_X6 lk_15 dX6_parse_48 jk9 rfl rfl (by decide) rfl ?_
    refine j_eqi (x := (sr (sr I 2 ((prM (I 22) n (a00 (I 2))).1)) 23 (tS o n (skS (I 22) n (((prM (I 22) n (a00 (I 2))).2))))) 23 0) (y := nI n) (sr_sj.trans (tS_0)) ?_
    refine jn_icmp_ge (tgt := 62) hx hb dX6_parse_51 (by decide) (by omega) (by omega) (fun c_51 => ?_) (fun c_51 => ?_)
    · have hB : jB G A s_.heap (sr (sr I 2 ((prM (I 22) n (a00 (I 2))).1)) 23 (tS o n (prS (I 22) n (a00 (I 2)))), J, O) H locs := by rw [← show tS o n (skS (I 22) n (((prM (I 22) n (a00 (I 2))).2))) = tS o n (prS (I 22) n (a00 (I 2))) from by rw [prS, if_neg (by omega)]]; exact hB
      refine lv_aload_n hx hb dX6_parse_62 rfl (lv_at hl 0 rfl) ?_
      refine j_get (9, 0, 0) 3 (v := .int ((sr (sr I 2 ((prM (I 22) n (a00 (I 2))).1)) 23 (tS o n (prS (I 22) n (a00 (I 2))))) 23 2)) hC hB in_X6 lk_22 dX6_parse_63 jk9 rfl rfl (by decide) rfl ?_
      refine j_eqi (x := (sr (sr I 2 ((prM (I 22) n (a00 (I 2))).1)) 23 (tS o n (prS (I 22) n (a00 (I 2))))) 23 2) (y := b2 ((prS (I 22) n (a00 (I 2))).2)) (sr_sj.trans (tS_2)) ?_
      refine jb_if_eq (tgt := 79) hx hb dX6_parse_66 (by decide) (fun c_66 => ?_) (fun c_66 => ?_)
      · refine lv_aload_n hx hb dX6_parse_79 rfl (lv_at hl 1 rfl) ?_
        refine j_getN (1, 2, 0) 2 (v := .int ((sr (sr I 2 ((prM (I 22) n (a00 (I 2))).1)) 23 (tS o n (prS (I 22) n (a00 (I 2))))) 2 0)) hC hB in_X4 ln_26 dX6_parse_80 (jk1 (by omega)) rfl rfl (by decide) rfl ?_
        refine j_eqi (x := (sr (sr I 2 ((prM (I 22) n (a00 (I 2))).1)) 23 (tS o n (prS (I 22) n (a00 (I 2))))) 2 0) (y := ((prM (I 22) n (a00 (I 2))).1) 0) ((sr_nj (show (2 : Nat) ≠ 23 by omega)).trans (sr_sj)) ?_
        exact j_iret hC hB dX6_parse_83 (⟨by rw [prA, if_neg (by rw [c_66]; decide)], by rw [sr_sw (show (2 : Nat) ≠ 23 by decide)]⟩)
      · refine lv_bipush (v := (-20 : Int32)) hx hb dX6_parse_69 (by decide) ?_
        refine lv_aload_n hx hb dX6_parse_71 rfl (lv_at hl 0 rfl) ?_
        refine j_get (9, 0, 0) 2 (v := .int ((sr (sr I 2 ((prM (I 22) n (a00 (I 2))).1)) 23 (tS o n (prS (I 22) n (a00 (I 2))))) 23 1)) hC hB in_X6 lk_19 dX6_parse_72 jk9 rfl rfl (by decide) rfl ?_
        refine j_eqi (x := (sr (sr I 2 ((prM (I 22) n (a00 (I 2))).1)) 23 (tS o n (prS (I 22) n (a00 (I 2))))) 23 1) (y := nI ((prS (I 22) n (a00 (I 2))).1)) (sr_sj.trans (tS_1)) ?_
        refine lv_isub hx hb dX6_parse_75 ?_
        refine lv_goto (tgt := 83) hx hb dX6_parse_76 (by decide) ?_
        exact j_iret hC hB dX6_parse_83 (⟨by rw [prA, if_pos c_66], by rw [sr_sw (show (2 : Nat) ≠ 23 by decide)]⟩)
    · refine lv_aload_n hx hb dX6_parse_54 rfl (lv_at hl 0 rfl) ?_
      refine lv_aload_n hx hb dX6_parse_55 rfl (lv_at hl 0 rfl) ?_
      refine j_get (9, 0, 0) 2 (v := .int ((sr (sr I 2 ((prM (I 22) n (a00 (I 2))).1)) 23 (tS o n (skS (I 22) n (((prM (I 22) n (a00 (I 2))).2))))) 23 1)) hC hB in_X6 lk_19 dX6_parse_56 jk9 rfl rfl (by decide) rfl ?_
      refine j_eqi (x := (sr (sr I 2 ((prM (I 22) n (a00 (I 2))).1)) 23 (tS o n (skS (I 22) n (((prM (I 22) n (a00 (I 2))).2))))) 23 1) (y := nI ((skS (I 22) n (((prM (I 22) n (a00 (I 2))).2))).1)) (sr_sj.trans (tS_1)) ?_
      refine j_cvv (9, 0, 0) [.int (nI ((skS (I 22) n (((prM (I 22) n (a00 (I 2))).2))).1))] hC hB hl.1 (c_X6_failAt l_ G (sr (sr I 2 ((prM (I 22) n (a00 (I 2))).1)) 23 (tS o n (skS (I 22) n (((prM (I 22) n (a00 (I 2))).2))))) J O (nI ((skS (I 22) n (((prM (I 22) n (a00 (I 2))).2))).1)) (((skS (I 22) n (((prM (I 22) n (a00 (I 2))).2))).1)) (fun _ => rfl) (hn) (skS_le (prM_le)) (sr_self)) (cwV 1 hts gX6_parse_X6_failAt rfl rfl rfl (by decide +kernel) ⟨by decide, by decide⟩) dX6_parse_59 jk9 rfl rfl rfl rfl (Nat.le_of_ble_eq_true rfl) (fun u_59 H locs hp_59 hB => ?_)
      obtain rfl := hp_59
      have hl_59 : (flS ((skS (I 22) n (((prM (I 22) n (a00 (I 2))).2)))) ((skS (I 22) n (((prM (I 22) n (a00 (I 2))).2))).1)).1 ≤ n := flS_le (skS_le (prM_le)) (by omega)
      have hB : jB G A s_.heap (sr (sr I 2 ((prM (I 22) n (a00 (I 2))).1)) 23 (tS o n (flS ((skS (I 22) n (((prM (I 22) n (a00 (I 2))).2)))) ((skS (I 22) n (((prM (I 22) n (a00 (I 2))).2))).1))), J, O) H locs := by (rw [show sr (sr I 2 ((prM (I 22) n (a00 (I 2))).1)) 23 (tS o n (flS ((skS (I 22) n (((prM (I 22) n (a00 (I 2))).2)))) ((skS (I 22) n (((prM (I 22) n (a00 (I 2))).2))).1))) = sr (sr (sr I 2 ((prM (I 22) n (a00 (I 2))).1)) 23 (tS o n (skS (I 22) n (((prM (I 22) n (a00 (I 2))).2))))) 23 (tS o n (flS ((skS (I 22) n (((prM (I 22) n (a00 (I 2))).2)))) ((skS (I 22) n (((prM (I 22) n (a00 (I 2))).2))).1))) from by funext a; simp +decide only [sr]; (repeat' split) <;> first | rfl | (exfalso; omega) | (subst_vars; rfl)]; exact hB)
      have hB : jB G A s_.heap (sr (sr I 2 ((prM (I 22) n (a00 (I 2))).1)) 23 (tS o n (prS (I 22) n (a00 (I 2)))), J, O) H locs := by rw [← show tS o n (flS ((skS (I 22) n (((prM (I 22) n (a00 (I 2))).2)))) ((skS (I 22) n (((prM (I 22) n (a00 (I 2))).2))).1)) = tS o n (prS (I 22) n (a00 (I 2))) from by rw [prS, if_pos c_51]]; exact hB
      refine lv_aload_n hx hb dX6_parse_62 rfl (lv_at hl 0 rfl) ?_
      refine j_get (9, 0, 0) 3 (v := .int ((sr (sr I 2 ((prM (I 22) n (a00 (I 2))).1)) 23 (tS o n (prS (I 22) n (a00 (I 2))))) 23 2)) hC hB in_X6 lk_22 dX6_parse_63 jk9 rfl rfl (by decide) rfl ?_
      refine j_eqi (x := (sr (sr I 2 ((prM (I 22) n (a00 (I 2))).1)) 23 (tS o n (prS (I 22) n (a00 (I 2))))) 23 2) (y := b2 ((prS (I 22) n (a00 (I 2))).2)) (sr_sj.trans (tS_2)) ?_
      refine jb_if_eq (tgt := 79) hx hb dX6_parse_66 (by decide) (fun c_66 => ?_) (fun c_66 => ?_)
      · refine lv_aload_n hx hb dX6_parse_79 rfl (lv_at hl 1 rfl) ?_
        refine j_getN (1, 2, 0) 2 (v := .int ((sr (sr I 2 ((prM (I 22) n (a00 (I 2))).1)) 23 (tS o n (prS (I 22) n (a00 (I 2))))) 2 0)) hC hB in_X4 ln_26 dX6_parse_80 (jk1 (by omega)) rfl rfl (by decide) rfl ?_
        refine j_eqi (x := (sr (sr I 2 ((prM (I 22) n (a00 (I 2))).1)) 23 (tS o n (prS (I 22) n (a00 (I 2))))) 2 0) (y := ((prM (I 22) n (a00 (I 2))).1) 0) ((sr_nj (show (2 : Nat) ≠ 23 by omega)).trans (sr_sj)) ?_
        exact j_iret hC hB dX6_parse_83 (⟨by rw [prA, if_neg (by rw [c_66]; decide)], by rw [sr_sw (show (2 : Nat) ≠ 23 by decide)]⟩)
      · refine lv_bipush (v := (-20 : Int32)) hx hb dX6_parse_69 (by decide) ?_
        refine lv_aload_n hx hb dX6_parse_71 rfl (lv_at hl 0 rfl) ?_
        refine j_get (9, 0, 0) 2 (v := .int ((sr (sr I 2 ((prM (I 22) n (a00 (I 2))).1)) 23 (tS o n (prS (I 22) n (a00 (I 2))))) 23 1)) hC hB in_X6 lk_19 dX6_parse_72 jk9 rfl rfl (by decide) rfl ?_
        refine j_eqi (x := (sr (sr I 2 ((prM (I 22) n (a00 (I 2))).1)) 23 (tS o n (prS (I 22) n (a00 (I 2))))) 23 1) (y := nI ((prS (I 22) n (a00 (I 2))).1)) (sr_sj.trans (tS_1)) ?_
        refine lv_isub hx hb dX6_parse_75 ?_
        refine lv_goto (tgt := 83) hx hb dX6_parse_76 (by decide) ?_
        exact j_iret hC hB dX6_parse_83 (⟨by rw [prA, if_pos c_66], by rw [sr_sw (show (2 : Nat) ≠ 23 by decide)]⟩)

set_option maxHeartbeats 4000000 in
set_option maxRecDepth 100000 in
theorem c_X6_add_a (l_ : Launch) (G : jG) (I : Nat → Nat → Int32) (J : Nat → Nat → Int64) (O : Nat → Nat → Nat) (c : Int32) {o : Nat → Int32} {n : Nat} {s : Nat × Bool} (hc : vp_nar .char c = c) (hn9 : n < 90) (hn : n ≤ 90) (hT : I 23 = tS o n s) : jMi l_ G yX6_add wsX6_add ({ frames := 0, cells := 0, slots := 0, locals := 0 }) [.ref (G.2.2.1 (9, 0, 0)), .int c] (I, J, O) (fun r u => r = b2 true ∧ u = (sr (sr I 22 (upd (I 22) n c)) 23 (tS o (n + 1) s), J, O)) := by
  refine jMi_of (cc := cX6_add) (maxL := 2) (ret := (some .boolean)) (lv0 := [(0, .ref (G.2.2.1 (9, 0, 0))), (1, .int c)]) (by decide) rfl (Nat.le_of_ble_eq_true rfl) rfl ?_
  intro pg_ ev_ s_ mi_ below meth cd_ A ls hC hB hl
  obtain ⟨hx, hb, hr, hml, hown, hts, hlocks, hK, hA⟩ := id hC
  have lk_15 := hts (.fieldLink RX6 15 "RiddlePrison$Tape" "size" "I") (by decide +kernel)
  have lk_9 := hts (.fieldLink RX6 9 "RiddlePrison$Tape" "letters" "[C") (by decide +kernel)
  have in_X6 := (fun w h => List.mem_cons_of_mem _ (List.mem_append_right _ h) : ∀ w ∈ wsX60, w ∈ wsX6_add)
  have hT0 : I 23 0 = nI n := by rw [hT]; exact tS_0
  have hT1 : I 23 1 = nI s.1 := by rw [hT]; exact tS_1
  have hT2 : I 23 2 = b2 s.2 := by rw [hT]; exact tS_2
  refine lv_aload_n hx hb dX6_add_0 rfl (lv_at hl 0 rfl) ?_
  refine j_get (9, 0, 0) 1 (v := .int (I 23 0)) hC hB in_X6 lk_15 dX6_add_1 jk9 rfl rfl (by decide) rfl ?_
  refine j_eqi (x := I 23 0) (y := nI n) (hT0) ?_
  refine lv_bipush (v := nI 90) hx hb dX6_add_4 (by decide) ?_
  refine jn_icmp_lt (tgt := 11) hx hb dX6_add_6 (by decide) (by omega) (by omega) (fun c_6 => ?_) (fun c_6 => ?_)
  · refine lv_aload_n hx hb dX6_add_11 rfl (lv_at hl 0 rfl) ?_
    refine j_get (9, 0, 0) 0 (v := .ref (G.2.2.1 (10, 0, 0))) hC hB in_X6 lk_9 dX6_add_12 jk9 rfl rfl (by decide) rfl ?_
    refine lv_aload_n hx hb dX6_add_15 rfl (lv_at hl 0 rfl) ?_
    refine j_get (9, 0, 0) 1 (v := .int (I 23 0)) hC hB in_X6 lk_15 dX6_add_16 jk9 rfl rfl (by decide) rfl ?_
    refine j_eqi (x := I 23 0) (y := nI n) (hT0) ?_
    refine lv_iload_n hx hb dX6_add_19 rfl (lv_at hl 1 rfl) ?_
    refine j_cst n hC hB dX6_add_20 rfl (by omega) hc (fun H locs hB => ?_)
    have hB : jB G A s_.heap (sr I 22 (upd (I 22) n c), J, O) H locs := by rw [show sr I 22 (upd (I 22) n c) = u2 I 22 n c from (u2_eq _ _ _ _).symm]; exact hB
    refine lv_aload_n hx hb dX6_add_21 rfl (lv_at hl 0 rfl) ?_
    refine lv_dup hx hb dX6_add_22 rfl ?_
    refine j_get (9, 0, 0) 1 (v := .int ((sr I 22 (upd (I 22) n c)) 23 0)) hC hB in_X6 lk_15 dX6_add_23 jk9 rfl rfl (by decide) rfl ?_
    refine j_eqi (x := (sr I 22 (upd (I 22) n c)) 23 0) (y := nI n) ((sr_nj (show (23 : Nat) ≠ 22 by omega)).trans (hT0)) ?_
    refine lv_iconst (v := nI 1) hx hb dX6_add_26 (by decide) ?_
    refine jn_iadd hx hb dX6_add_27 ?_
    refine j_put (9, 0, 0) 1 (u2 (sr I 22 (upd (I 22) n c)) 23 0 (nI (n + 1)), J, O) (ty := .int) hC hB in_X6 tyX6_ok nmX6 lk_15 dX6_add_28 jk9 rfl rfl (by decide) rfl (by decide +kernel) rfl rfl (Nat.le_of_ble_eq_true rfl) (fun z hz hne => jw_fr z hz hne) (rfl) (fun H locs hB => ?_)
    have hB : jB G A s_.heap (sr (sr I 22 (upd (I 22) n c)) 23 (upd (I 23) 0 (nI (n + 1))), J, O) H locs := by rw [show sr (sr I 22 (upd (I 22) n c)) 23 (upd (I 23) 0 (nI (n + 1))) = u2 (sr I 22 (upd (I 22) n c)) 23 0 (nI (n + 1)) from (u2_sr1 (show (23 : Nat) ≠ 22 by omega)).symm]; exact hB
    refine lv_iconst (v := nI 1) hx hb dX6_add_31 (by decide) ?_
    exact j_zret hC hB dX6_add_32 (by decide) (⟨rfl, by rw [hT, tS_n]⟩)
  · exfalso; omega

set_option maxHeartbeats 4000000 in
set_option maxRecDepth 100000 in
theorem c_X6_add_b (l_ : Launch) (G : jG) (I : Nat → Nat → Int32) (J : Nat → Nat → Int64) (O : Nat → Nat → Nat) (c : Int32) {o : Nat → Int32} {n : Nat} {s : Nat × Bool} (hn9 : ¬ n < 90) (hn : n ≤ 90) (hT : I 23 = tS o n s) : jMi l_ G yX6_add wsX6_add ({ frames := 0, cells := 0, slots := 0, locals := 0 }) [.ref (G.2.2.1 (9, 0, 0)), .int c] (I, J, O) (fun r u => r = b2 false ∧ u = (I, J, O)) := by
  refine jMi_of (cc := cX6_add) (maxL := 2) (ret := (some .boolean)) (lv0 := [(0, .ref (G.2.2.1 (9, 0, 0))), (1, .int c)]) (by decide) rfl (Nat.le_of_ble_eq_true rfl) rfl ?_
  intro pg_ ev_ s_ mi_ below meth cd_ A ls hC hB hl
  obtain ⟨hx, hb, hr, hml, hown, hts, hlocks, hK, hA⟩ := id hC
  have lk_15 := hts (.fieldLink RX6 15 "RiddlePrison$Tape" "size" "I") (by decide +kernel)
  have in_X6 := (fun w h => List.mem_cons_of_mem _ (List.mem_append_right _ h) : ∀ w ∈ wsX60, w ∈ wsX6_add)
  have hT0 : I 23 0 = nI n := by rw [hT]; exact tS_0
  have hT1 : I 23 1 = nI s.1 := by rw [hT]; exact tS_1
  have hT2 : I 23 2 = b2 s.2 := by rw [hT]; exact tS_2
  refine lv_aload_n hx hb dX6_add_0 rfl (lv_at hl 0 rfl) ?_
  refine j_get (9, 0, 0) 1 (v := .int (I 23 0)) hC hB in_X6 lk_15 dX6_add_1 jk9 rfl rfl (by decide) rfl ?_
  refine j_eqi (x := I 23 0) (y := nI n) (hT0) ?_
  refine lv_bipush (v := nI 90) hx hb dX6_add_4 (by decide) ?_
  refine jn_icmp_lt (tgt := 11) hx hb dX6_add_6 (by decide) (by omega) (by omega) (fun c_6 => ?_) (fun c_6 => ?_)
  · exact absurd c_6 hn9
  · refine lv_iconst (v := nI 0) hx hb dX6_add_9 (by decide) ?_
    exact j_zret hC hB dX6_add_10 (by decide) (⟨rfl, rfl⟩)

set_option maxHeartbeats 4000000 in
set_option maxRecDepth 100000 in
theorem c_X7_type_a (l_ : Launch) (G : jG) (I : Nat → Nat → Int32) (J : Nat → Nat → Int64) (O : Nat → Nat → Nat) (letter : Int32) {o : Nat → Int32} {n : Nat} {s : Nat × Bool} (hn9 : n < 90) (hn : n ≤ 90) (hT : I 23 = tS o n s) : jMi l_ G yX7_type wsX7_type ({ frames := 1, cells := 0, slots := 0, locals := 21 }) [.ref (G.2.2.1 (0, 0, 0)), .int letter] (I, J, O) (fun r u => r = tyCA n letter ∧ u = (tyCI I o n s letter, J, O)) := by
  refine jMi_of (cc := cX7_type) (maxL := 2) (ret := (some .int)) (lv0 := [(0, .ref (G.2.2.1 (0, 0, 0))), (1, .int letter)]) (by decide) rfl (Nat.le_of_ble_eq_true rfl) rfl ?_
  intro pg_ ev_ s_ mi_ below meth cd_ A ls hC hB hl
  obtain ⟨hx, hb, hr, hml, hown, hts, hlocks, hK, hA⟩ := id hC
  have lk_35 := hts (.fieldLink RX7 35 "RiddlePrison" "tape" "LRiddlePrison$Tape;") (by decide +kernel)
  have ln_158 := (by decide +kernel : Cond.fieldLinkNest RX7 158 "RiddlePrison$Tape" "size" "I" "RiddlePrison" ∈ nsW)
  have in_X7 := (fun w h => List.mem_cons_of_mem _ (List.mem_append_left _ (List.mem_append_right _ h)) : ∀ w ∈ wsX70, w ∈ wsX7_type)
  have in_X6 := (fun w h => List.mem_cons_of_mem _ (List.mem_append_right _ h) : ∀ w ∈ wsX60, w ∈ wsX7_type)
  have hT0 : I 23 0 = nI n := by rw [hT]; exact tS_0
  have hT1 : I 23 1 = nI s.1 := by rw [hT]; exact tS_1
  have hT2 : I 23 2 = b2 s.2 := by rw [hT]; exact tS_2
  refine lv_iload_n hx hb dX7_type_0 rfl (lv_at hl 1 rfl) ?_
  refine lv_bipush (v := nI 32) hx hb dX7_type_1 (by decide) ?_
  refine lv_icmp_lt (tgt := 12) hx hb dX7_type_3 (by decide) (fun c_3 => ?_) (fun c_3 => ?_)
  · refine lv_iconst (v := (-1 : Int32)) hx hb dX7_type_12 (by decide) ?_
    exact j_iret hC hB dX7_type_13 (⟨by rw [tyCA, if_neg (by simp [lt126, c_3])], by rw [tyCI, if_neg (fun z => absurd z.1 (by simp [lt126, c_3]))]⟩)
  · refine lv_iload_n hx hb dX7_type_6 rfl (lv_at hl 1 rfl) ?_
    refine lv_bipush (v := nI 126) hx hb dX7_type_7 (by decide) ?_
    refine lv_icmp_le (tgt := 14) hx hb dX7_type_9 (by decide) (fun c_9 => ?_) (fun c_9 => ?_)
    · obtain ⟨kl, hk1, hk2, rfl⟩ := rng_chr c_3 c_9
      refine lv_aload_n hx hb dX7_type_14 rfl (lv_at hl 0 rfl) ?_
      refine j_get (0, 0, 0) 6 (v := .ref (G.2.2.1 (9, 0, 0))) hC hB in_X7 lk_35 dX7_type_15 jk0 rfl rfl (by decide) rfl ?_
      refine lv_iload_n hx hb dX7_type_18 rfl (lv_at hl 1 rfl) ?_
      refine lv_i2c (v := ((nI kl).toUInt32 % 65536).toInt32) hx hb dX7_type_19 rfl ?_
      refine j_eqi (y := nI kl) (chr_nat kl (by omega)) ?_
      refine j_cvi (9, 0, 0) [.int (nI kl)] hC hB hl.1 (c_X6_add_a l_ G I J O (nI kl) (chr_nar kl (by omega)) (hn9) (hn) (hT)) (cwV 1 hts gX7_type_X6_add rfl rfl rfl (by decide +kernel) ⟨by decide, by decide⟩) dX7_type_20 jk9 rfl rfl rfl rfl (Nat.le_of_ble_eq_true rfl) (fun r_20 u_20 H locs hp_20 hB => ?_)
      obtain ⟨rfl, rfl⟩ := hp_20
      have hB : jB G A s_.heap (sr (sr I 22 (upd (I 22) n (nI kl))) 23 (tS o (n + 1) s), J, O) H locs := hB
      refine j_eqi (y := b2 true) (rfl) ?_
      refine jb_if_eq (tgt := 36) hx hb dX7_type_23 (by decide) (fun c_23 => ?_) (fun c_23 => ?_)
      · exact absurd c_23 (by decide)
      · refine lv_aload_n hx hb dX7_type_26 rfl (lv_at hl 0 rfl) ?_
        refine j_get (0, 0, 0) 6 (v := .ref (G.2.2.1 (9, 0, 0))) hC hB in_X7 lk_35 dX7_type_27 jk0 rfl rfl (by decide) rfl ?_
        refine j_getN (9, 0, 0) 1 (v := .int ((sr (sr I 22 (upd (I 22) n (nI kl))) 23 (tS o (n + 1) s)) 23 0)) hC hB in_X6 ln_158 dX7_type_30 jk9 rfl rfl (by decide) rfl ?_
        refine j_eqi (x := (sr (sr I 22 (upd (I 22) n (nI kl))) 23 (tS o (n + 1) s)) 23 0) (y := nI (n + 1)) (sr_sj.trans (tS_0)) ?_
        refine lv_goto (tgt := 38) hx hb dX7_type_33 (by decide) ?_
        exact j_iret hC hB dX7_type_38 (⟨by rw [tyCA, if_pos (by simp [lt126, Int32.not_lt.mp c_3, c_9]), if_pos hn9], by rw [tyCI, if_pos ⟨by simp [lt126, Int32.not_lt.mp c_3, c_9], hn9⟩]⟩)
    · refine lv_iconst (v := (-1 : Int32)) hx hb dX7_type_12 (by decide) ?_
      exact j_iret hC hB dX7_type_13 (⟨by rw [tyCA, if_neg (by simp [lt126, Int32.not_le.mp c_9])], by rw [tyCI, if_neg (fun z => absurd z.1 (by simp [lt126, Int32.not_le.mp c_9]))]⟩)

set_option maxHeartbeats 4000000 in
set_option maxRecDepth 100000 in
theorem c_X7_type_b (l_ : Launch) (G : jG) (I : Nat → Nat → Int32) (J : Nat → Nat → Int64) (O : Nat → Nat → Nat) (letter : Int32) {o : Nat → Int32} {n : Nat} {s : Nat × Bool} (hn9 : ¬ n < 90) (hn : n ≤ 90) (hT : I 23 = tS o n s) : jMi l_ G yX7_type wsX7_type ({ frames := 1, cells := 0, slots := 0, locals := 21 }) [.ref (G.2.2.1 (0, 0, 0)), .int letter] (I, J, O) (fun r u => r = tyCA n letter ∧ u = (tyCI I o n s letter, J, O)) := by
  refine jMi_of (cc := cX7_type) (maxL := 2) (ret := (some .int)) (lv0 := [(0, .ref (G.2.2.1 (0, 0, 0))), (1, .int letter)]) (by decide) rfl (Nat.le_of_ble_eq_true rfl) rfl ?_
  intro pg_ ev_ s_ mi_ below meth cd_ A ls hC hB hl
  obtain ⟨hx, hb, hr, hml, hown, hts, hlocks, hK, hA⟩ := id hC
  have lk_35 := hts (.fieldLink RX7 35 "RiddlePrison" "tape" "LRiddlePrison$Tape;") (by decide +kernel)
  have in_X7 := (fun w h => List.mem_cons_of_mem _ (List.mem_append_left _ (List.mem_append_right _ h)) : ∀ w ∈ wsX70, w ∈ wsX7_type)
  have hT0 : I 23 0 = nI n := by rw [hT]; exact tS_0
  have hT1 : I 23 1 = nI s.1 := by rw [hT]; exact tS_1
  have hT2 : I 23 2 = b2 s.2 := by rw [hT]; exact tS_2
  refine lv_iload_n hx hb dX7_type_0 rfl (lv_at hl 1 rfl) ?_
  refine lv_bipush (v := nI 32) hx hb dX7_type_1 (by decide) ?_
  refine lv_icmp_lt (tgt := 12) hx hb dX7_type_3 (by decide) (fun c_3 => ?_) (fun c_3 => ?_)
  · refine lv_iconst (v := (-1 : Int32)) hx hb dX7_type_12 (by decide) ?_
    exact j_iret hC hB dX7_type_13 (⟨by rw [tyCA, if_neg (by simp [lt126, c_3])], by rw [tyCI, if_neg (fun z => absurd z.1 (by simp [lt126, c_3]))]⟩)
  · refine lv_iload_n hx hb dX7_type_6 rfl (lv_at hl 1 rfl) ?_
    refine lv_bipush (v := nI 126) hx hb dX7_type_7 (by decide) ?_
    refine lv_icmp_le (tgt := 14) hx hb dX7_type_9 (by decide) (fun c_9 => ?_) (fun c_9 => ?_)
    · obtain ⟨kl, hk1, hk2, rfl⟩ := rng_chr c_3 c_9
      refine lv_aload_n hx hb dX7_type_14 rfl (lv_at hl 0 rfl) ?_
      refine j_get (0, 0, 0) 6 (v := .ref (G.2.2.1 (9, 0, 0))) hC hB in_X7 lk_35 dX7_type_15 jk0 rfl rfl (by decide) rfl ?_
      refine lv_iload_n hx hb dX7_type_18 rfl (lv_at hl 1 rfl) ?_
      refine lv_i2c (v := ((nI kl).toUInt32 % 65536).toInt32) hx hb dX7_type_19 rfl ?_
      refine j_eqi (y := nI kl) (chr_nat kl (by omega)) ?_
      refine j_cvi (9, 0, 0) [.int (nI kl)] hC hB hl.1 (c_X6_add_b l_ G I J O (nI kl) (hn9) (hn) (hT)) (cwV 1 hts gX7_type_X6_add rfl rfl rfl (by decide +kernel) ⟨by decide, by decide⟩) dX7_type_20 jk9 rfl rfl rfl rfl (Nat.le_of_ble_eq_true rfl) (fun r_20 u_20 H locs hp_20 hB => ?_)
      obtain ⟨rfl, rfl⟩ := hp_20
      refine jb_if_eq (tgt := 36) hx hb dX7_type_23 (by decide) (fun c_23 => ?_) (fun c_23 => ?_)
      · refine lv_bipush (v := (-3 : Int32)) hx hb dX7_type_36 (by decide) ?_
        exact j_iret hC hB dX7_type_38 (⟨by rw [tyCA, if_pos (by simp [lt126, Int32.not_lt.mp c_3, c_9]), if_neg hn9], by rw [tyCI, if_neg (fun z => hn9 z.2)]⟩)
      · exact absurd c_23 (by decide)
    · refine lv_iconst (v := (-1 : Int32)) hx hb dX7_type_12 (by decide) ?_
      exact j_iret hC hB dX7_type_13 (⟨by rw [tyCA, if_neg (by simp [lt126, Int32.not_le.mp c_9])], by rw [tyCI, if_neg (fun z => absurd z.1 (by simp [lt126, Int32.not_le.mp c_9]))]⟩)

theorem c_X7_type (l_ : Launch) (G : jG) (I : Nat → Nat → Int32) (J : Nat → Nat → Int64) (O : Nat → Nat → Nat) (letter : Int32) {o : Nat → Int32} {n : Nat} {s : Nat × Bool} (hn : n ≤ 90) (hT : I 23 = tS o n s) : jMi l_ G yX7_type wsX7_type ({ frames := 1, cells := 0, slots := 0, locals := 21 }) [.ref (G.2.2.1 (0, 0, 0)), .int letter] (I, J, O) (fun r u => r = tyCA n letter ∧ u = (tyCI I o n s letter, J, O)) := by
  by_cases hn9 : n < 90
  · exact c_X7_type_a l_ G I J O letter hn9 hn hT
  · exact c_X7_type_b l_ G I J O letter hn9 hn hT

set_option maxHeartbeats 4000000 in
set_option maxRecDepth 100000 in
theorem c_X7_read (l_ : Launch) (G : jG) (I : Nat → Nat → Int32) (J : Nat → Nat → Int64) (O : Nat → Nat → Nat) {o : Nat → Int32} {n : Nat} {s : Nat × Bool} (hn : n ≤ 90) (hT : I 23 = tS o n s) : jMi l_ G yX7_read wsX7_read ({ frames := 9, cells := 0, slots := 0, locals := 209 }) [.ref (G.2.2.1 (0, 0, 0))] (I, J, O) (fun r u => r = prA (I 22) n (a00 (I 2)) ∧ ∃ x2, u = (if prA (I 22) n (a00 (I 2)) < 0 then sr (sr I 23 (tS o 0 (prS (I 22) n (a00 (I 2))))) 2 x2 else sr (sr (sr (sr I 23 (tS o 0 (prS (I 22) n (a00 (I 2))))) 2 x2) 0 (rdC0 (I 0) (I 22) (I 2) n)) 21 (upd (I 21) 0 (nI 0)), J, O)) := by
  refine jMi_of (cc := cX7_read) (maxL := 2) (ret := (some .int)) (lv0 := [(0, .ref (G.2.2.1 (0, 0, 0)))]) (by decide) rfl (Nat.le_of_ble_eq_true rfl) rfl ?_
  intro pg_ ev_ s_ mi_ below meth cd_ A ls hC hB hl
  obtain ⟨hx, hb, hr, hml, hown, hts, hlocks, hK, hA⟩ := id hC
  have lk_35 := hts (.fieldLink RX7 35 "RiddlePrison" "tape" "LRiddlePrison$Tape;") (by decide +kernel)
  have lk_29 := hts (.fieldLink RX7 29 "RiddlePrison" "draft" "LRiddlePrison$Prison;") (by decide +kernel)
  have ln_158 := (by decide +kernel : Cond.fieldLinkNest RX7 158 "RiddlePrison$Tape" "size" "I" "RiddlePrison" ∈ nsW)
  have lk_10 := hts (.fieldLink RX7 10 "RiddlePrison" "now" "LRiddlePrison$Prison;") (by decide +kernel)
  have ln_165 := (by decide +kernel : Cond.fieldLinkNest RX7 165 "RiddlePrison$Prison" "draw" "I" "RiddlePrison" ∈ nsW)
  have lk_19 := hts (.fieldLink RX7 19 "RiddlePrison" "history" "LRiddlePrison$History;") (by decide +kernel)
  have in_X7 := (fun w h => List.mem_cons_of_mem _ (List.mem_append_left _ (List.mem_append_left _ (List.mem_append_left _ (List.mem_append_left _ (List.mem_append_left _ (List.mem_append_right _ h)))))) : ∀ w ∈ wsX70, w ∈ wsX7_read)
  have in_X6 := (fun w h => List.mem_cons_of_mem _ (List.mem_append_left _ (List.mem_append_left _ (List.mem_append_left _ (List.mem_append_left _ (List.mem_append_right _ h))))) : ∀ w ∈ wsX60, w ∈ wsX7_read)
  have in_X4 := (fun w h => List.mem_cons_of_mem _ (List.mem_append_left _ (List.mem_append_left _ (List.mem_append_left _ (List.mem_append_right _ h)))) : ∀ w ∈ wsX40, w ∈ wsX7_read)
  have hT0 : I 23 0 = nI n := by rw [hT]; exact tS_0
  have hT1 : I 23 1 = nI s.1 := by rw [hT]; exact tS_1
  have hT2 : I 23 2 = b2 s.2 := by rw [hT]; exact tS_2
  refine lv_aload_n hx hb dX7_read_0 rfl (lv_at hl 0 rfl) ?_
  refine j_get (0, 0, 0) 6 (v := .ref (G.2.2.1 (9, 0, 0))) hC hB in_X7 lk_35 dX7_read_1 jk0 rfl rfl (by decide) rfl ?_
  refine lv_aload_n hx hb dX7_read_4 rfl (lv_at hl 0 rfl) ?_
  refine j_get (0, 0, 0) 5 (v := .ref (G.2.2.1 (1, 2, 0))) hC hB in_X7 lk_29 dX7_read_5 jk0 rfl rfl (by decide) rfl ?_
  refine j_cvi (9, 0, 0) [.ref (G.2.2.1 (1, 2, 0))] hC hB hl.1 (c_X6_parse l_ G I J O  (hn) (hT)) (cwV 1 hts gX7_read_X6_parse rfl rfl rfl (by decide +kernel) ⟨by decide, by decide⟩) dX7_read_8 jk9 rfl rfl rfl rfl (Nat.le_of_ble_eq_true rfl) (fun r_8 u_8 H locs hp_8 hB => ?_)
  obtain ⟨rfl, rfl⟩ := hp_8
  have hl_8 : (prS (I 22) n (a00 (I 2))).1 ≤ n := prS_le
  have hB : jB G A s_.heap (sr (sr I 23 (tS o n (prS (I 22) n (a00 (I 2))))) 2 ((prM (I 22) n (a00 (I 2))).1), J, O) H locs := hB
  refine j_eqi (y := prA (I 22) n (a00 (I 2))) (rfl) ?_
  refine lv_istore_n (lv' := [(1, .int (prA (I 22) n (a00 (I 2)))), (0, .ref (G.2.2.1 (0, 0, 0)))]) hx hb dX7_read_11 rfl hl (by decide) rfl (fun ls hl => ?_)
  refine lv_aload_n hx hb dX7_read_12 rfl (lv_at hl 1 rfl) ?_
  refine j_get (0, 0, 0) 6 (v := .ref (G.2.2.1 (9, 0, 0))) hC hB in_X7 lk_35 dX7_read_13 jk0 rfl rfl (by decide) rfl ?_
  refine lv_iconst (v := nI 0) hx hb dX7_read_16 (by decide) ?_
  refine j_putN (9, 0, 0) 1 (u2 (sr (sr I 23 (tS o n (prS (I 22) n (a00 (I 2))))) 2 ((prM (I 22) n (a00 (I 2))).1)) 23 0 (nI 0), J, O) (ty := .int) hC hB in_X6 tyX6_ok nmX6 ln_158 dX7_read_17 jk9 rfl rfl (by decide) rfl (by decide +kernel) rfl rfl (Nat.le_of_ble_eq_true rfl) (fun z hz hne => jw_fr z hz hne) (rfl) (fun H locs hB => ?_)
  have hB : jB G A s_.heap (sr (sr I 2 ((prM (I 22) n (a00 (I 2))).1)) 23 (upd (tS o n (prS (I 22) n (a00 (I 2)))) 0 (nI 0)), J, O) H locs := by rw [show sr (sr I 2 ((prM (I 22) n (a00 (I 2))).1)) 23 (upd (tS o n (prS (I 22) n (a00 (I 2)))) 0 (nI 0)) = u2 (sr (sr I 23 (tS o n (prS (I 22) n (a00 (I 2))))) 2 ((prM (I 22) n (a00 (I 2))).1)) 23 0 (nI 0) from (u2_sr2 (show (23 : Nat) ≠ 2 by omega)).symm]; exact hB
  have hB : jB G A s_.heap (sr (sr I 2 ((prM (I 22) n (a00 (I 2))).1)) 23 (tS o 0 (prS (I 22) n (a00 (I 2)))), J, O) H locs := by rw [← show upd (tS o n (prS (I 22) n (a00 (I 2)))) 0 (nI 0) = tS o 0 (prS (I 22) n (a00 (I 2))) from tS_n]; exact hB
  refine lv_iload_n hx hb dX7_read_20 rfl (lv_at hl 0 rfl) ?_
  refine lv_if_ge (tgt := 26) hx hb dX7_read_21 (by decide) (fun c_21 => ?_) (fun c_21 => ?_)
  · obtain ⟨⟨nd, hnd, hD⟩, nm, hnm, hM⟩ := prM_cnt (t := I 22) (n := n) (a00_0 (a := I 2)) (a00_1 (a := I 2))
    refine lv_aload_n hx hb dX7_read_26 rfl (lv_at hl 1 rfl) ?_
    refine j_get (0, 0, 0) 5 (v := .ref (G.2.2.1 (1, 2, 0))) hC hB in_X7 lk_29 dX7_read_27 jk0 rfl rfl (by decide) rfl ?_
    refine lv_aload_n hx hb dX7_read_30 rfl (lv_at hl 1 rfl) ?_
    refine j_get (0, 0, 0) 0 (v := .ref (G.2.2.1 (1, 0, 0))) hC hB in_X7 lk_10 dX7_read_31 jk0 rfl rfl (by decide) rfl ?_
    refine j_getN (1, 0, 0) 4 (v := .int ((sr (sr I 2 ((prM (I 22) n (a00 (I 2))).1)) 23 (tS o 0 (prS (I 22) n (a00 (I 2))))) 0 67)) hC hB in_X4 ln_165 dX7_read_34 (jk1 (by omega)) rfl rfl (by decide) rfl ?_
    refine j_eqi (x := (sr (sr I 2 ((prM (I 22) n (a00 (I 2))).1)) 23 (tS o 0 (prS (I 22) n (a00 (I 2))))) 0 67) (y := (I 0) 67) ((sr_nj (show (0 : Nat) ≠ 23 by omega)).trans ((sr_nj (show (0 : Nat) ≠ 2 by omega)))) ?_
    refine j_putN (1, 2, 0) 4 (u2 (sr (sr I 2 ((prM (I 22) n (a00 (I 2))).1)) 23 (tS o 0 (prS (I 22) n (a00 (I 2))))) 2 67 ((I 0) 67), J, O) (ty := .int) hC hB in_X4 tyX4_ok nmX4 ln_165 dX7_read_37 (jk1 (by omega)) rfl rfl (by decide) rfl (by decide +kernel) rfl rfl (Nat.le_of_ble_eq_true rfl) (fun z hz hne => jw_fr z hz (by rw [jof_p67 (by omega)]; exact hne)) (by simp [jw, u2]) (fun H locs hB => ?_)
    have hB : jB G A s_.heap (sr (sr I 23 (tS o 0 (prS (I 22) n (a00 (I 2))))) 2 (upd ((prM (I 22) n (a00 (I 2))).1) 67 ((I 0) 67)), J, O) H locs := by rw [show sr (sr I 23 (tS o 0 (prS (I 22) n (a00 (I 2))))) 2 (upd ((prM (I 22) n (a00 (I 2))).1) 67 ((I 0) 67)) = u2 (sr (sr I 2 ((prM (I 22) n (a00 (I 2))).1)) 23 (tS o 0 (prS (I 22) n (a00 (I 2))))) 2 67 ((I 0) 67) from (u2_sr2 (show (2 : Nat) ≠ 23 by omega)).symm]; exact hB
    refine lv_aload_n hx hb dX7_read_40 rfl (lv_at hl 1 rfl) ?_
    refine j_get (0, 0, 0) 0 (v := .ref (G.2.2.1 (1, 0, 0))) hC hB in_X7 lk_10 dX7_read_41 jk0 rfl rfl (by decide) rfl ?_
    refine lv_aload_n hx hb dX7_read_44 rfl (lv_at hl 1 rfl) ?_
    refine j_get (0, 0, 0) 5 (v := .ref (G.2.2.1 (1, 2, 0))) hC hB in_X7 lk_29 dX7_read_45 jk0 rfl rfl (by decide) rfl ?_
    refine j_cvv (1, 0, 0) [.ref (G.2.2.1 (1, 2, 0))] hC hB hl.1 (c_X4_become l_ G (sr (sr I 23 (tS o 0 (prS (I 22) n (a00 (I 2))))) 2 (upd ((prM (I 22) n (a00 (I 2))).1) 67 ((I 0) 67))) J O 0 2 (by omega) (by omega) (by omega) (by omega) (sr_sj.trans ((pk_un (show (0 : Nat) ≠ 67 by omega)).trans (hD))) (by omega) (sr_sj.trans ((pk_un (show (1 : Nat) ≠ 67 by omega)).trans (hM)))) (cwV 1 hts gX7_read_X4_become rfl rfl rfl (by decide +kernel) ⟨by decide, by decide⟩) dX7_read_48 (jk1 (by omega)) rfl rfl rfl rfl (Nat.le_of_ble_eq_true rfl) (fun u_48 H locs hp_48 hB => ?_)
    obtain rfl := hp_48
    have hB : jB G A s_.heap (sr (sr (sr I 23 (tS o 0 (prS (I 22) n (a00 (I 2))))) 2 (upd ((prM (I 22) n (a00 (I 2))).1) 67 ((I 0) 67))) 0 (pcR (I 0) (upd ((prM (I 22) n (a00 (I 2))).1) 67 ((I 0) 67)) nd nm), J, O) H locs := hB
    refine lv_aload_n hx hb dX7_read_51 rfl (lv_at hl 1 rfl) ?_
    refine j_get (0, 0, 0) 1 (v := .ref (G.2.2.1 (7, 0, 0))) hC hB in_X7 lk_19 dX7_read_52 jk0 rfl rfl (by decide) rfl ?_
    refine j_cvv (7, 0, 0) [] hC hB hl.1 (c_X2_forget l_ G (sr (sr (sr I 23 (tS o 0 (prS (I 22) n (a00 (I 2))))) 2 (upd ((prM (I 22) n (a00 (I 2))).1) 67 ((I 0) 67))) 0 (pcR (I 0) (upd ((prM (I 22) n (a00 (I 2))).1) 67 ((I 0) 67)) nd nm)) J O 0 (by omega)) (cwV 0 hts gX7_read_X2_forget rfl rfl rfl (by decide +kernel) ⟨by decide, by decide⟩) dX7_read_55 (jk7 (by omega)) rfl rfl rfl rfl (Nat.le_of_ble_eq_true rfl) (fun u_55 H locs hp_55 hB => ?_)
    obtain rfl := hp_55
    have hB : jB G A s_.heap (sr (sr (sr (sr I 23 (tS o 0 (prS (I 22) n (a00 (I 2))))) 2 (upd ((prM (I 22) n (a00 (I 2))).1) 67 ((I 0) 67))) 0 (pcR (I 0) (upd ((prM (I 22) n (a00 (I 2))).1) 67 ((I 0) 67)) nd nm)) 21 (upd (I 21) 0 (nI 0)), J, O) H locs := hB
    refine lv_iload_n hx hb dX7_read_58 rfl (lv_at hl 0 rfl) ?_
    exact j_iret hC hB dX7_read_59 (⟨rfl, upd (prM (I 22) n (a00 (I 2))).1 67 (I 0 67), by rw [if_neg (Int32.not_lt.mpr c_21), rdC0, hD, hM, show tN (nI nd) = nd from nIc (by omega), show tN (nI nm) = nm from nIc (by omega)]⟩)
  · refine lv_iload_n hx hb dX7_read_24 rfl (lv_at hl 0 rfl) ?_
    exact j_iret hC hB dX7_read_25 (⟨rfl, _, by rw [if_pos (Int32.not_le.mp c_21)]; rw [sr_sw (show (2 : Nat) ≠ 23 by decide)]⟩)
