set_option maxHeartbeats 4000000 in
set_option maxRecDepth 100000 in
theorem c_X8_next (l_ : Launch) (G : jG) (I : Nat → Nat → Int32) (J : Nat → Nat → Int64) (O : Nat → Nat → Nat)  {o : Nat → Int32} {n : Nat} {q : Nat × Int32} (hn : n ≤ 90) (hq : q.1 ≤ n) (hU : I 40 = uS o n q) : jMi l_ G yX8_next wsX8_next ({ frames := 0, cells := 0, slots := 0, locals := 0 }) [.ref (G.2.2.1 (20, 0, 0))] (I, J, O) (fun r u => r = nx (I 48) n q.1 ∧ u = (sr I 40 (uS o n ((sk (I 48) n q.1, q.2))), J, O)) := by
  refine jMi_of (cc := cX8_next) (maxL := 1) (ret := (some .int)) (lv0 := [(0, .ref (G.2.2.1 (20, 0, 0)))]) (by decide) rfl (Nat.le_of_ble_eq_true rfl) rfl ?_
  intro pg_ ev_ s_ mi_ below meth cd_ A ls hC hB hl
  obtain ⟨hx, hb, hr, hml, hown, hts, hlocks, hK, hA⟩ := id hC
  have lk_203 := hts (.fieldLink RX8 203 "RiddlePrisonModel" "place" "I") (by decide +kernel)
  have lk_200 := hts (.fieldLink RX8 200 "RiddlePrisonModel" "tapeLong" "I") (by decide +kernel)
  have lk_38 := hts (.fieldLink RX8 38 "RiddlePrisonModel" "tape" "[I") (by decide +kernel)
  have in_X8 := (fun w h => List.mem_cons_of_mem _ (List.mem_append_right _ h) : ∀ w ∈ wsX80, w ∈ wsX8_next)
  have hU2 : I 40 2 = nI n := by rw [hU]; exact uS_2
  have hU3 : I 40 3 = nI q.1 := by rw [hU]; exact uS_3
  have hU4 : I 40 4 = q.2 := by rw [hU]; exact uS_4
  have lp_0 : ∀ (fu : Nat) (r : Nat → Int32) (p : Nat), n - p < fu → (r = uS o n (p, q.2)) → (p ≤ n) → (sk (I 48) n p = sk (I 48) n q.1) → ∀ H locs ls, jB G A s_.heap (sr I 40 (r), J, O) H locs → lv_has ls 1 [(0, .ref (G.2.2.1 (20, 0, 0)))] → W pg_ l_ ev_ ({ frames := 0, cells := 0, slots := 0, locals := 0 }) s_ mi_ ([.ref (G.2.2.1 (20, 0, 0))]).toArray below meth cd_ H locs 0 0 (jQi G A below [.ref (G.2.2.1 (20, 0, 0))] s_ (fun r u => r = nx (I 48) n q.1 ∧ u = (sr I 40 (uS o n ((sk (I 48) n q.1, q.2))), J, O))) (F0 mi_ 0 ls []) := by
    intro fu
    induction fu with
    | zero => intro r p hf; exact absurd hf (Nat.not_lt_zero _)
    | succ fu ih_0 =>
      intro r p hf_0 hr hp hs H locs ls hB hl
      refine lv_aload_n hx hb dX8_next_0 rfl (lv_at hl 0 rfl) ?_
      refine j_get (20, 0, 0) 13 (v := .int ((sr I 40 (r)) 40 3)) hC hB in_X8 lk_203 dX8_next_1 jk20 rfl rfl (by decide) rfl ?_
      refine j_eqi (x := (sr I 40 (r)) 40 3) (y := nI p) (sr_sj.trans (by rw [hr]; exact uS_3)) ?_
      refine lv_aload_n hx hb dX8_next_4 rfl (lv_at hl 0 rfl) ?_
      refine j_get (20, 0, 0) 12 (v := .int ((sr I 40 (r)) 40 2)) hC hB in_X8 lk_200 dX8_next_5 jk20 rfl rfl (by decide) rfl ?_
      refine j_eqi (x := (sr I 40 (r)) 40 2) (y := nI n) (sr_sj.trans (by rw [hr]; exact uS_2)) ?_
      refine jn_icmp_ge (tgt := 38) hx hb dX8_next_8 (by decide) (by omega) (by omega) (fun c_8 => ?_) (fun c_8 => ?_)
      · refine lv_aload_n hx hb dX8_next_38 rfl (lv_at hl 0 rfl) ?_
        refine j_get (20, 0, 0) 13 (v := .int ((sr I 40 (r)) 40 3)) hC hB in_X8 lk_203 dX8_next_39 jk20 rfl rfl (by decide) rfl ?_
        refine j_eqi (x := (sr I 40 (r)) 40 3) (y := nI p) (sr_sj.trans (by rw [hr]; exact uS_3)) ?_
        refine lv_aload_n hx hb dX8_next_42 rfl (lv_at hl 0 rfl) ?_
        refine j_get (20, 0, 0) 12 (v := .int ((sr I 40 (r)) 40 2)) hC hB in_X8 lk_200 dX8_next_43 jk20 rfl rfl (by decide) rfl ?_
        refine j_eqi (x := (sr I 40 (r)) 40 2) (y := nI n) (sr_sj.trans (by rw [hr]; exact uS_2)) ?_
        refine jn_icmp_ge (tgt := 61) hx hb dX8_next_46 (by decide) (by omega) (by omega) (fun c_46 => ?_) (fun c_46 => ?_)
        · refine lv_bipush (v := (-4 : Int32)) hx hb dX8_next_61 (by decide) ?_
          exact j_iret hC hB dX8_next_63 (⟨by have esk : sk (I 48) n q.1 = p := (by rw [← hs, sk_ge c_8]); rw [nx, if_neg (show ¬ sk (I 48) n q.1 < n by omega)], by rw [hr, show sk (I 48) n q.1 = p from by rw [← hs, sk_ge c_8]]⟩)
        · exfalso; omega
      · refine lv_aload_n hx hb dX8_next_11 rfl (lv_at hl 0 rfl) ?_
        refine j_get (20, 0, 0) 11 (v := .ref (G.2.2.1 (21, 48, 0))) hC hB in_X8 lk_38 dX8_next_12 jk20 rfl rfl (by decide) rfl ?_
        refine lv_aload_n hx hb dX8_next_15 rfl (lv_at hl 0 rfl) ?_
        refine j_get (20, 0, 0) 13 (v := .int ((sr I 40 (r)) 40 3)) hC hB in_X8 lk_203 dX8_next_16 jk20 rfl rfl (by decide) rfl ?_
        refine j_eqi (x := (sr I 40 (r)) 40 3) (y := nI p) (sr_sj.trans (by rw [hr]; exact uS_3)) ?_
        refine j_iLd 48 p hC hB dX8_next_19 (by decide) rfl (by simp only [lenI_48]; omega) ?_
        refine j_eqi (x := (sr I 40 (r)) 48 p) (y := (I 48) p) ((sr_nj (show (48 : Nat) ≠ 40 by omega))) ?_
        refine lv_bipush (v := nI 32) hx hb dX8_next_20 (by decide) ?_
        refine lv_icmp_ne (tgt := 38) hx hb dX8_next_22 (by decide) (fun c_22 => ?_) (fun c_22 => ?_)
        · refine lv_aload_n hx hb dX8_next_38 rfl (lv_at hl 0 rfl) ?_
          refine j_get (20, 0, 0) 13 (v := .int ((sr I 40 (r)) 40 3)) hC hB in_X8 lk_203 dX8_next_39 jk20 rfl rfl (by decide) rfl ?_
          refine j_eqi (x := (sr I 40 (r)) 40 3) (y := nI p) (sr_sj.trans (by rw [hr]; exact uS_3)) ?_
          refine lv_aload_n hx hb dX8_next_42 rfl (lv_at hl 0 rfl) ?_
          refine j_get (20, 0, 0) 12 (v := .int ((sr I 40 (r)) 40 2)) hC hB in_X8 lk_200 dX8_next_43 jk20 rfl rfl (by decide) rfl ?_
          refine j_eqi (x := (sr I 40 (r)) 40 2) (y := nI n) (sr_sj.trans (by rw [hr]; exact uS_2)) ?_
          refine jn_icmp_ge (tgt := 61) hx hb dX8_next_46 (by decide) (by omega) (by omega) (fun c_46 => ?_) (fun c_46 => ?_)
          · exfalso; omega
          · refine lv_aload_n hx hb dX8_next_49 rfl (lv_at hl 0 rfl) ?_
            refine j_get (20, 0, 0) 11 (v := .ref (G.2.2.1 (21, 48, 0))) hC hB in_X8 lk_38 dX8_next_50 jk20 rfl rfl (by decide) rfl ?_
            refine lv_aload_n hx hb dX8_next_53 rfl (lv_at hl 0 rfl) ?_
            refine j_get (20, 0, 0) 13 (v := .int ((sr I 40 (r)) 40 3)) hC hB in_X8 lk_203 dX8_next_54 jk20 rfl rfl (by decide) rfl ?_
            refine j_eqi (x := (sr I 40 (r)) 40 3) (y := nI p) (sr_sj.trans (by rw [hr]; exact uS_3)) ?_
            refine j_iLd 48 p hC hB dX8_next_57 (by decide) rfl (by simp only [lenI_48]; omega) ?_
            refine j_eqi (x := (sr I 40 (r)) 48 p) (y := (I 48) p) ((sr_nj (show (48 : Nat) ≠ 40 by omega))) ?_
            refine lv_goto (tgt := 63) hx hb dX8_next_58 (by decide) ?_
            exact j_iret hC hB dX8_next_63 (⟨by have esk : sk (I 48) n q.1 = p := (by rw [← hs, sk_end c_22]); rw [nx, if_pos (show sk (I 48) n q.1 < n by omega), esk], by rw [hr, show sk (I 48) n q.1 = p from by rw [← hs, sk_end c_22]]⟩)
        · refine lv_aload_n hx hb dX8_next_25 rfl (lv_at hl 0 rfl) ?_
          refine lv_dup hx hb dX8_next_26 rfl ?_
          refine j_get (20, 0, 0) 13 (v := .int ((sr I 40 (r)) 40 3)) hC hB in_X8 lk_203 dX8_next_27 jk20 rfl rfl (by decide) rfl ?_
          refine j_eqi (x := (sr I 40 (r)) 40 3) (y := nI p) (sr_sj.trans (by rw [hr]; exact uS_3)) ?_
          refine lv_iconst (v := nI 1) hx hb dX8_next_30 (by decide) ?_
          refine jn_iadd hx hb dX8_next_31 ?_
          refine j_put (20, 0, 0) 13 (u2 (sr I 40 (r)) 40 3 (nI (p + 1)), J, O) (ty := .int) hC hB in_X8 tyX8_ok nmX8 lk_203 dX8_next_32 jk20 rfl rfl (by decide) rfl (by decide +kernel) rfl rfl (Nat.le_of_ble_eq_true rfl) (fun z hz hne => jw_fr z hz hne) (rfl) (fun H locs hB => ?_)
          have hB : jB G A s_.heap (sr I 40 (upd (r) 3 (nI (p + 1))), J, O) H locs := by rw [show sr I 40 (upd (r) 3 (nI (p + 1))) = u2 (sr I 40 (r)) 40 3 (nI (p + 1)) from (u2_sr _ _ _ _ _).symm]; exact hB
          refine lv_goto (tgt := 0) hx hb dX8_next_35 (by decide) ?_
          exact ih_0 (upd (r) 3 (nI (p + 1))) (p + 1) (by omega) (by rw [hr]; exact uS_p) (by omega) (by rw [← hs]; exact (sk_on c_8 c_22).symm) _ _ _ hB (lv_sub hl [0] rfl)
  exact lp_0 _ (I 40) q.1 (Nat.lt_succ_self _) (hU) (hq) (rfl) _ _ _ (jB_cast2 hB (by first | exact (sr_id _ _).symm | (funext a_; simp +decide only [sr]; (repeat' split) <;> first | rfl | (exfalso; omega) | (subst_vars; rfl))) rfl) (lv_sub hl [0] rfl)

set_option maxHeartbeats 4000000 in
set_option maxRecDepth 100000 in
theorem c_X8_isNext (l_ : Launch) (G : jG) (I : Nat → Nat → Int32) (J : Nat → Nat → Int64) (O : Nat → Nat → Nat) (c : Int32) (hc : ¬ c = -4) {o : Nat → Int32} {n : Nat} {q : Nat × Int32} (hn : n ≤ 90) (hq : q.1 ≤ n) (hU : I 40 = uS o n q) : jMi l_ G yX8_isNext wsX8_isNext ({ frames := 1, cells := 0, slots := 0, locals := 20 }) [.ref (G.2.2.1 (20, 0, 0)), .int c] (I, J, O) (fun r u => r = b2 ((rNx (I 48) n c q).1) ∧ u = (sr I 40 (uS o n ((rNx (I 48) n c q).2)), J, O)) := by
  refine jMi_of (cc := cX8_isNext) (maxL := 2) (ret := (some .boolean)) (lv0 := [(0, .ref (G.2.2.1 (20, 0, 0))), (1, .int c)]) (by decide) rfl (Nat.le_of_ble_eq_true rfl) rfl ?_
  intro pg_ ev_ s_ mi_ below meth cd_ A ls hC hB hl
  obtain ⟨hx, hb, hr, hml, hown, hts, hlocks, hK, hA⟩ := id hC
  have lk_203 := hts (.fieldLink RX8 203 "RiddlePrisonModel" "place" "I") (by decide +kernel)
  have in_X8 := (fun w h => List.mem_cons_of_mem _ (List.mem_append_right _ h) : ∀ w ∈ wsX80, w ∈ wsX8_isNext)
  have hU2 : I 40 2 = nI n := by rw [hU]; exact uS_2
  have hU3 : I 40 3 = nI q.1 := by rw [hU]; exact uS_3
  have hU4 : I 40 4 = q.2 := by rw [hU]; exact uS_4
  refine lv_aload_n hx hb dX8_isNext_0 rfl (lv_at hl 0 rfl) ?_
  refine j_cvi (20, 0, 0) [] hC hB hl.1 (c_X8_next l_ G I J O  (hn) (hq) (hU)) (cwV 0 hts gX8_isNext_X8_next rfl rfl rfl (by decide +kernel) ⟨by decide, by decide⟩) dX8_isNext_1 jk20 rfl rfl rfl rfl (Nat.le_of_ble_eq_true rfl) (fun r_1 u_1 H locs hp_1 hB => ?_)
  obtain ⟨rfl, rfl⟩ := hp_1
  have hl_1 : ((sk (I 48) n q.1, q.2)).1 ≤ n := (sk_le (hq)).2
  have hB : jB G A s_.heap (sr I 40 (uS o n ((sk (I 48) n q.1, q.2))), J, O) H locs := hB
  refine j_eqi (y := nx (I 48) n q.1) (rfl) ?_
  refine lv_iload_n hx hb dX8_isNext_4 rfl (lv_at hl 1 rfl) ?_
  refine lv_icmp_eq (tgt := 10) hx hb dX8_isNext_5 (by decide) (fun c_5 => ?_) (fun c_5 => ?_)
  · refine lv_aload_n hx hb dX8_isNext_10 rfl (lv_at hl 0 rfl) ?_
    refine lv_dup hx hb dX8_isNext_11 rfl ?_
    refine j_get (20, 0, 0) 13 (v := .int ((sr I 40 (uS o n ((sk (I 48) n q.1, q.2)))) 40 3)) hC hB in_X8 lk_203 dX8_isNext_12 jk20 rfl rfl (by decide) rfl ?_
    refine j_eqi (x := (sr I 40 (uS o n ((sk (I 48) n q.1, q.2)))) 40 3) (y := nI (((sk (I 48) n q.1, q.2)).1)) (sr_sj.trans (uS_3)) ?_
    refine lv_iconst (v := nI 1) hx hb dX8_isNext_15 (by decide) ?_
    refine jn_iadd hx hb dX8_isNext_16 ?_
    refine j_put (20, 0, 0) 13 (u2 (sr I 40 (uS o n ((sk (I 48) n q.1, q.2)))) 40 3 (nI (((sk (I 48) n q.1, q.2)).1 + 1)), J, O) (ty := .int) hC hB in_X8 tyX8_ok nmX8 lk_203 dX8_isNext_17 jk20 rfl rfl (by decide) rfl (by decide +kernel) rfl rfl (Nat.le_of_ble_eq_true rfl) (fun z hz hne => jw_fr z hz hne) (rfl) (fun H locs hB => ?_)
    have hB : jB G A s_.heap (sr I 40 (upd (uS o n ((sk (I 48) n q.1, q.2))) 3 (nI (((sk (I 48) n q.1, q.2)).1 + 1))), J, O) H locs := by rw [show sr I 40 (upd (uS o n ((sk (I 48) n q.1, q.2))) 3 (nI (((sk (I 48) n q.1, q.2)).1 + 1))) = u2 (sr I 40 (uS o n ((sk (I 48) n q.1, q.2)))) 40 3 (nI (((sk (I 48) n q.1, q.2)).1 + 1)) from (u2_sr _ _ _ _ _).symm]; exact hB
    have hB : jB G A s_.heap (sr I 40 (uS o n (sk (I 48) n q.1 + 1, q.2)), J, O) H locs := by rw [← show upd (uS o n ((sk (I 48) n q.1, q.2))) 3 (nI (((sk (I 48) n q.1, q.2)).1 + 1)) = uS o n (sk (I 48) n q.1 + 1, q.2) from uS_p]; exact hB
    refine lv_iconst (v := nI 1) hx hb dX8_isNext_20 (by decide) ?_
    exact j_zret hC hB dX8_isNext_21 (by decide) (⟨by rw [rNx, if_pos c_5]; rfl, by rw [rNx, if_pos c_5]⟩)
  · refine lv_iconst (v := nI 0) hx hb dX8_isNext_8 (by decide) ?_
    exact j_zret hC hB dX8_isNext_9 (by decide) (⟨by rw [rNx, if_neg c_5]; rfl, by rw [rNx, if_neg c_5]⟩)

set_option maxHeartbeats 4000000 in
set_option maxRecDepth 100000 in
theorem c_X8_takesDigit (l_ : Launch) (G : jG) (I : Nat → Nat → Int32) (J : Nat → Nat → Int64) (O : Nat → Nat → Nat) (h : Nat) (hh : h ≤ 9) {o : Nat → Int32} {n : Nat} {q : Nat × Int32} (hn : n ≤ 90) (hq : q.1 ≤ n) (hU : I 40 = uS o n q) : jMi l_ G yX8_takesDigit wsX8_takesDigit ({ frames := 1, cells := 0, slots := 0, locals := 25 }) [.ref (G.2.2.1 (20, 0, 0)), .int (nI h)] (I, J, O) (fun r u => r = b2 ((rDg (I 48) n h q).1) ∧ u = (sr I 40 (uS o n ((rDg (I 48) n h q).2)), J, O)) := by
  refine jMi_of (cc := cX8_takesDigit) (maxL := 3) (ret := (some .boolean)) (lv0 := [(0, .ref (G.2.2.1 (20, 0, 0))), (1, .int (nI h))]) (by decide) rfl (Nat.le_of_ble_eq_true rfl) rfl ?_
  intro pg_ ev_ s_ mi_ below meth cd_ A ls hC hB hl
  obtain ⟨hx, hb, hr, hml, hown, hts, hlocks, hK, hA⟩ := id hC
  have lk_211 := hts (.fieldLink RX8 211 "RiddlePrisonModel" "value" "I") (by decide +kernel)
  have lk_203 := hts (.fieldLink RX8 203 "RiddlePrisonModel" "place" "I") (by decide +kernel)
  have in_X8 := (fun w h => List.mem_cons_of_mem _ (List.mem_append_right _ h) : ∀ w ∈ wsX80, w ∈ wsX8_takesDigit)
  have hU2 : I 40 2 = nI n := by rw [hU]; exact uS_2
  have hU3 : I 40 3 = nI q.1 := by rw [hU]; exact uS_3
  have hU4 : I 40 4 = q.2 := by rw [hU]; exact uS_4
  refine lv_aload_n hx hb dX8_takesDigit_0 rfl (lv_at hl 0 rfl) ?_
  refine j_cvi (20, 0, 0) [] hC hB hl.1 (c_X8_next l_ G I J O  (hn) (hq) (hU)) (cwV 0 hts gX8_takesDigit_X8_next rfl rfl rfl (by decide +kernel) ⟨by decide, by decide⟩) dX8_takesDigit_1 jk20 rfl rfl rfl rfl (Nat.le_of_ble_eq_true rfl) (fun r_1 u_1 H locs hp_1 hB => ?_)
  obtain ⟨rfl, rfl⟩ := hp_1
  have hl_1 : ((sk (I 48) n q.1, q.2)).1 ≤ n := (sk_le (hq)).2
  have hB : jB G A s_.heap (sr I 40 (uS o n ((sk (I 48) n q.1, q.2))), J, O) H locs := hB
  refine j_eqi (y := nx (I 48) n q.1) (rfl) ?_
  refine lv_istore_n (lv' := [(2, .int (nx (I 48) n q.1)), (0, .ref (G.2.2.1 (20, 0, 0))), (1, .int (nI h))]) hx hb dX8_takesDigit_4 rfl hl (by decide) rfl (fun ls hl => ?_)
  refine lv_iload_n hx hb dX8_takesDigit_5 rfl (lv_at hl 0 rfl) ?_
  refine lv_i2l (v := (nx (I 48) n q.1).toInt64) hx hb dX8_takesDigit_6 rfl ?_
  refine lv_ldc2 (v := 48) hx hb hown (hts (.constantLong RX8 209 (48)) (by decide +kernel)) dX8_takesDigit_7 ?_
  refine lv_bipush (v := nI 48) hx hb dX8_takesDigit_10 (by decide) ?_
  refine lv_iload_n hx hb dX8_takesDigit_12 rfl (lv_at hl 2 rfl) ?_
  refine jn_iadd hx hb dX8_takesDigit_13 ?_
  refine lv_i2l (v := (nI (48 + h)).toInt64) hx hb dX8_takesDigit_14 rfl ?_
  refine j_csi [.long ((nx (I 48) n q.1).toInt64), .long ((48 : Int64)), .long ((nI (48 + h)).toInt64)] hC hB hl.1 (c_X8_in l_ G (sr I 40 (uS o n ((sk (I 48) n q.1, q.2)))) J O ((nx (I 48) n q.1).toInt64) ((48 : Int64)) ((nI (48 + h)).toInt64)) (va_cwS 3 hts gX8_takesDigit_X8_in rfl rfl rfl (by decide +kernel) ⟨by decide, by decide⟩) dX8_takesDigit_15 rfl rfl (Nat.le_of_ble_eq_true rfl) (fun r_15 u_15 H locs hp_15 hB => ?_)
  obtain ⟨rfl, rfl⟩ := hp_15
  refine j_eqi (y := b2 (inR ((nx (I 48) n q.1).toInt64) ((48 : Int64)) ((nI (48 + h)).toInt64))) (rfl) ?_
  refine jb_if_ne (tgt := 23) hx hb dX8_takesDigit_18 (by decide) (fun c_18 => ?_) (fun c_18 => ?_)
  · have hk := nx_lt (inR_n4 c_18)
    refine lv_aload_n hx hb dX8_takesDigit_23 rfl (lv_at hl 1 rfl) ?_
    refine lv_iload_n hx hb dX8_takesDigit_24 rfl (lv_at hl 0 rfl) ?_
    refine lv_bipush (v := nI 48) hx hb dX8_takesDigit_25 (by decide) ?_
    refine lv_isub hx hb dX8_takesDigit_27 ?_
    refine j_put (20, 0, 0) 15 (u2 (sr I 40 (uS o n ((sk (I 48) n q.1, q.2)))) 40 4 ((nx (I 48) n q.1) - (nI 48)), J, O) (ty := .int) hC hB in_X8 tyX8_ok nmX8 lk_211 dX8_takesDigit_28 jk20 rfl rfl (by decide) rfl (by decide +kernel) rfl rfl (Nat.le_of_ble_eq_true rfl) (fun z hz hne => jw_fr z hz hne) (rfl) (fun H locs hB => ?_)
    have hB : jB G A s_.heap (sr I 40 (upd (uS o n ((sk (I 48) n q.1, q.2))) 4 ((nx (I 48) n q.1) - (nI 48))), J, O) H locs := by rw [show sr I 40 (upd (uS o n ((sk (I 48) n q.1, q.2))) 4 ((nx (I 48) n q.1) - (nI 48))) = u2 (sr I 40 (uS o n ((sk (I 48) n q.1, q.2)))) 40 4 ((nx (I 48) n q.1) - (nI 48)) from (u2_sr _ _ _ _ _).symm]; exact hB
    have hB : jB G A s_.heap (sr I 40 (uS o n (sk (I 48) n q.1, nx (I 48) n q.1 - nI 48)), J, O) H locs := by rw [← show upd (uS o n ((sk (I 48) n q.1, q.2))) 4 ((nx (I 48) n q.1) - (nI 48)) = uS o n (sk (I 48) n q.1, nx (I 48) n q.1 - nI 48) from uS_v]; exact hB
    refine lv_aload_n hx hb dX8_takesDigit_31 rfl (lv_at hl 1 rfl) ?_
    refine lv_dup hx hb dX8_takesDigit_32 rfl ?_
    refine j_get (20, 0, 0) 13 (v := .int ((sr I 40 (uS o n (sk (I 48) n q.1, nx (I 48) n q.1 - nI 48))) 40 3)) hC hB in_X8 lk_203 dX8_takesDigit_33 jk20 rfl rfl (by decide) rfl ?_
    refine j_eqi (x := (sr I 40 (uS o n (sk (I 48) n q.1, nx (I 48) n q.1 - nI 48))) 40 3) (y := nI ((sk (I 48) n q.1, nx (I 48) n q.1 - nI 48).1)) (sr_sj.trans (uS_3)) ?_
    refine lv_iconst (v := nI 1) hx hb dX8_takesDigit_36 (by decide) ?_
    refine jn_iadd hx hb dX8_takesDigit_37 ?_
    refine j_put (20, 0, 0) 13 (u2 (sr I 40 (uS o n (sk (I 48) n q.1, nx (I 48) n q.1 - nI 48))) 40 3 (nI ((sk (I 48) n q.1, nx (I 48) n q.1 - nI 48).1 + 1)), J, O) (ty := .int) hC hB in_X8 tyX8_ok nmX8 lk_203 dX8_takesDigit_38 jk20 rfl rfl (by decide) rfl (by decide +kernel) rfl rfl (Nat.le_of_ble_eq_true rfl) (fun z hz hne => jw_fr z hz hne) (rfl) (fun H locs hB => ?_)
    have hB : jB G A s_.heap (sr I 40 (upd (uS o n (sk (I 48) n q.1, nx (I 48) n q.1 - nI 48)) 3 (nI ((sk (I 48) n q.1, nx (I 48) n q.1 - nI 48).1 + 1))), J, O) H locs := by rw [show sr I 40 (upd (uS o n (sk (I 48) n q.1, nx (I 48) n q.1 - nI 48)) 3 (nI ((sk (I 48) n q.1, nx (I 48) n q.1 - nI 48).1 + 1))) = u2 (sr I 40 (uS o n (sk (I 48) n q.1, nx (I 48) n q.1 - nI 48))) 40 3 (nI ((sk (I 48) n q.1, nx (I 48) n q.1 - nI 48).1 + 1)) from (u2_sr _ _ _ _ _).symm]; exact hB
    have hB : jB G A s_.heap (sr I 40 (uS o n (sk (I 48) n q.1 + 1, nx (I 48) n q.1 - nI 48)), J, O) H locs := by rw [← show upd (uS o n (sk (I 48) n q.1, nx (I 48) n q.1 - nI 48)) 3 (nI ((sk (I 48) n q.1, nx (I 48) n q.1 - nI 48).1 + 1)) = uS o n (sk (I 48) n q.1 + 1, nx (I 48) n q.1 - nI 48) from uS_p]; exact hB
    refine lv_iconst (v := nI 1) hx hb dX8_takesDigit_41 (by decide) ?_
    exact j_zret hC hB dX8_takesDigit_42 (by decide) (⟨by rw [rDg, if_pos c_18]; rfl, by rw [rDg, if_pos c_18]⟩)
  · refine lv_iconst (v := nI 0) hx hb dX8_takesDigit_21 (by decide) ?_
    exact j_zret hC hB dX8_takesDigit_22 (by decide) (⟨by rw [rDg, if_neg (by rw [c_18]; decide)]; rfl, by rw [rDg, if_neg (by rw [c_18]; decide)]⟩)

set_option maxHeartbeats 4000000 in
set_option maxRecDepth 100000 in
theorem c_X8_takesSort (l_ : Launch) (G : jG) (I : Nat → Nat → Int32) (J : Nat → Nat → Int64) (O : Nat → Nat → Nat)  {o : Nat → Int32} {n : Nat} {q : Nat × Int32} (hn : n ≤ 90) (hq : q.1 ≤ n) (hU : I 40 = uS o n q) : jMi l_ G yX8_takesSort wsX8_takesSort ({ frames := 1, cells := 0, slots := 0, locals := 20 }) [.ref (G.2.2.1 (20, 0, 0))] (I, J, O) (fun r u => r = b2 ((rSo (I 48) n q).1) ∧ u = (sr I 40 (uS o n ((rSo (I 48) n q).2)), J, O)) := by
  refine jMi_of (cc := cX8_takesSort) (maxL := 2) (ret := (some .boolean)) (lv0 := [(0, .ref (G.2.2.1 (20, 0, 0)))]) (by decide) rfl (Nat.le_of_ble_eq_true rfl) rfl ?_
  intro pg_ ev_ s_ mi_ below meth cd_ A ls hC hB hl
  obtain ⟨hx, hb, hr, hml, hown, hts, hlocks, hK, hA⟩ := id hC
  have lk_211 := hts (.fieldLink RX8 211 "RiddlePrisonModel" "value" "I") (by decide +kernel)
  have lk_203 := hts (.fieldLink RX8 203 "RiddlePrisonModel" "place" "I") (by decide +kernel)
  have in_X8 := (fun w h => List.mem_cons_of_mem _ (List.mem_append_right _ h) : ∀ w ∈ wsX80, w ∈ wsX8_takesSort)
  have hU2 : I 40 2 = nI n := by rw [hU]; exact uS_2
  have hU3 : I 40 3 = nI q.1 := by rw [hU]; exact uS_3
  have hU4 : I 40 4 = q.2 := by rw [hU]; exact uS_4
  refine lv_aload_n hx hb dX8_takesSort_0 rfl (lv_at hl 0 rfl) ?_
  refine j_cvi (20, 0, 0) [] hC hB hl.1 (c_X8_next l_ G I J O  (hn) (hq) (hU)) (cwV 0 hts gX8_takesSort_X8_next rfl rfl rfl (by decide +kernel) ⟨by decide, by decide⟩) dX8_takesSort_1 jk20 rfl rfl rfl rfl (Nat.le_of_ble_eq_true rfl) (fun r_1 u_1 H locs hp_1 hB => ?_)
  obtain ⟨rfl, rfl⟩ := hp_1
  have hl_1 : ((sk (I 48) n q.1, q.2)).1 ≤ n := (sk_le (hq)).2
  have hB : jB G A s_.heap (sr I 40 (uS o n ((sk (I 48) n q.1, q.2))), J, O) H locs := hB
  refine j_eqi (y := nx (I 48) n q.1) (rfl) ?_
  refine lv_istore_n (lv' := [(1, .int (nx (I 48) n q.1)), (0, .ref (G.2.2.1 (20, 0, 0)))]) hx hb dX8_takesSort_4 rfl hl (by decide) rfl (fun ls hl => ?_)
  refine lv_aload_n hx hb dX8_takesSort_5 rfl (lv_at hl 1 rfl) ?_
  refine lv_iload_n hx hb dX8_takesSort_6 rfl (lv_at hl 0 rfl) ?_
  refine lv_bipush (v := nI 43) hx hb dX8_takesSort_7 (by decide) ?_
  refine lv_icmp_ne (tgt := 16) hx hb dX8_takesSort_9 (by decide) (fun c_9 => ?_) (fun c_9 => ?_)
  · refine lv_iload_n hx hb dX8_takesSort_16 rfl (lv_at hl 0 rfl) ?_
    refine lv_bipush (v := nI 63) hx hb dX8_takesSort_17 (by decide) ?_
    refine lv_icmp_ne (tgt := 26) hx hb dX8_takesSort_19 (by decide) (fun c_19 => ?_) (fun c_19 => ?_)
    · refine lv_iload_n hx hb dX8_takesSort_26 rfl (lv_at hl 0 rfl) ?_
      refine lv_bipush (v := nI 61) hx hb dX8_takesSort_27 (by decide) ?_
      refine lv_icmp_ne (tgt := 36) hx hb dX8_takesSort_29 (by decide) (fun c_29 => ?_) (fun c_29 => ?_)
      · refine lv_iload_n hx hb dX8_takesSort_36 rfl (lv_at hl 0 rfl) ?_
        refine lv_bipush (v := nI 38) hx hb dX8_takesSort_37 (by decide) ?_
        refine lv_icmp_ne (tgt := 46) hx hb dX8_takesSort_39 (by decide) (fun c_39 => ?_) (fun c_39 => ?_)
        · refine lv_bipush (v := (-4 : Int32)) hx hb dX8_takesSort_46 (by decide) ?_
          have hso : soV (nx (I 48) n q.1) = -4 := by rw [soV, if_neg c_9, if_neg c_19, if_neg c_29, if_neg c_39]
          refine j_put (20, 0, 0) 15 (u2 (sr I 40 (uS o n ((sk (I 48) n q.1, q.2)))) 40 4 ((-4 : Int32)), J, O) (ty := .int) hC hB in_X8 tyX8_ok nmX8 lk_211 dX8_takesSort_48 jk20 rfl rfl (by decide) rfl (by decide +kernel) rfl rfl (Nat.le_of_ble_eq_true rfl) (fun z hz hne => jw_fr z hz hne) (rfl) (fun H locs hB => ?_)
          have hB : jB G A s_.heap (sr I 40 (upd (uS o n ((sk (I 48) n q.1, q.2))) 4 ((-4 : Int32))), J, O) H locs := by rw [show sr I 40 (upd (uS o n ((sk (I 48) n q.1, q.2))) 4 ((-4 : Int32))) = u2 (sr I 40 (uS o n ((sk (I 48) n q.1, q.2)))) 40 4 ((-4 : Int32)) from (u2_sr _ _ _ _ _).symm]; exact hB
          have hB : jB G A s_.heap (sr I 40 (uS o n (sk (I 48) n q.1, (-4 : Int32))), J, O) H locs := by rw [← show upd (uS o n ((sk (I 48) n q.1, q.2))) 4 ((-4 : Int32)) = uS o n (sk (I 48) n q.1, (-4 : Int32)) from uS_v]; exact hB
          refine lv_aload_n hx hb dX8_takesSort_51 rfl (lv_at hl 1 rfl) ?_
          refine lv_dup hx hb dX8_takesSort_52 rfl ?_
          refine j_get (20, 0, 0) 13 (v := .int ((sr I 40 (uS o n (sk (I 48) n q.1, (-4 : Int32)))) 40 3)) hC hB in_X8 lk_203 dX8_takesSort_53 jk20 rfl rfl (by decide) rfl ?_
          refine j_eqi (x := (sr I 40 (uS o n (sk (I 48) n q.1, (-4 : Int32)))) 40 3) (y := nI (sk (I 48) n q.1)) (sr_sj.trans (uS_3)) ?_
          refine lv_aload_n hx hb dX8_takesSort_56 rfl (lv_at hl 1 rfl) ?_
          refine j_get (20, 0, 0) 15 (v := .int ((sr I 40 (uS o n (sk (I 48) n q.1, (-4 : Int32)))) 40 4)) hC hB in_X8 lk_211 dX8_takesSort_57 jk20 rfl rfl (by decide) rfl ?_
          refine j_eqi (x := (sr I 40 (uS o n (sk (I 48) n q.1, (-4 : Int32)))) 40 4) (y := (-4 : Int32)) (sr_sj.trans (uS_4)) ?_
          refine lv_bipush (v := (-4 : Int32)) hx hb dX8_takesSort_60 (by decide) ?_
          refine lv_icmp_ne (tgt := 69) hx hb dX8_takesSort_62 (by decide) (fun c_62 => ?_) (fun c_62 => ?_)
          · exact absurd rfl c_62
          · refine lv_iconst (v := nI 0) hx hb dX8_takesSort_65 (by decide) ?_
            refine lv_goto (tgt := 70) hx hb dX8_takesSort_66 (by decide) ?_
            refine jn_iadd hx hb dX8_takesSort_70 ?_
            refine j_put (20, 0, 0) 13 (u2 (sr I 40 (uS o n (sk (I 48) n q.1, (-4 : Int32)))) 40 3 (nI (sk (I 48) n q.1 + 0)), J, O) (ty := .int) hC hB in_X8 tyX8_ok nmX8 lk_203 dX8_takesSort_71 jk20 rfl rfl (by decide) rfl (by decide +kernel) rfl rfl (Nat.le_of_ble_eq_true rfl) (fun z hz hne => jw_fr z hz hne) (rfl) (fun H locs hB => ?_)
            have hB : jB G A s_.heap (sr I 40 (upd (uS o n (sk (I 48) n q.1, (-4 : Int32))) 3 (nI (sk (I 48) n q.1 + 0))), J, O) H locs := by rw [show sr I 40 (upd (uS o n (sk (I 48) n q.1, (-4 : Int32))) 3 (nI (sk (I 48) n q.1 + 0))) = u2 (sr I 40 (uS o n (sk (I 48) n q.1, (-4 : Int32)))) 40 3 (nI (sk (I 48) n q.1 + 0)) from (u2_sr _ _ _ _ _).symm]; exact hB
            have hB : jB G A s_.heap (sr I 40 (uS o n (sk (I 48) n q.1, (-4 : Int32))), J, O) H locs := by rw [← show upd (uS o n (sk (I 48) n q.1, (-4 : Int32))) 3 (nI (sk (I 48) n q.1 + 0)) = uS o n (sk (I 48) n q.1, (-4 : Int32)) from uS_p]; exact hB
            refine lv_aload_n hx hb dX8_takesSort_74 rfl (lv_at hl 1 rfl) ?_
            refine j_get (20, 0, 0) 15 (v := .int ((sr I 40 (uS o n (sk (I 48) n q.1, (-4 : Int32)))) 40 4)) hC hB in_X8 lk_211 dX8_takesSort_75 jk20 rfl rfl (by decide) rfl ?_
            refine j_eqi (x := (sr I 40 (uS o n (sk (I 48) n q.1, (-4 : Int32)))) 40 4) (y := (-4 : Int32)) (sr_sj.trans (uS_4)) ?_
            refine lv_bipush (v := (-4 : Int32)) hx hb dX8_takesSort_78 (by decide) ?_
            refine lv_icmp_eq (tgt := 87) hx hb dX8_takesSort_80 (by decide) (fun c_80 => ?_) (fun c_80 => ?_)
            · refine lv_iconst (v := nI 0) hx hb dX8_takesSort_87 (by decide) ?_
              exact j_zret hC hB dX8_takesSort_88 (by decide) (⟨by rw [rSo, if_pos hso]; rfl, by rw [rSo, if_pos hso]⟩)
            · exact absurd rfl c_80
        · refine lv_iconst (v := nI 3) hx hb dX8_takesSort_42 (by decide) ?_
          refine lv_goto (tgt := 48) hx hb dX8_takesSort_43 (by decide) ?_
          have hso : soV (nx (I 48) n q.1) = nI 3 := by rw [soV, if_neg c_9, if_neg c_19, if_neg c_29, if_pos c_39]
          refine j_put (20, 0, 0) 15 (u2 (sr I 40 (uS o n ((sk (I 48) n q.1, q.2)))) 40 4 (nI 3), J, O) (ty := .int) hC hB in_X8 tyX8_ok nmX8 lk_211 dX8_takesSort_48 jk20 rfl rfl (by decide) rfl (by decide +kernel) rfl rfl (Nat.le_of_ble_eq_true rfl) (fun z hz hne => jw_fr z hz hne) (rfl) (fun H locs hB => ?_)
          have hB : jB G A s_.heap (sr I 40 (upd (uS o n ((sk (I 48) n q.1, q.2))) 4 (nI 3)), J, O) H locs := by rw [show sr I 40 (upd (uS o n ((sk (I 48) n q.1, q.2))) 4 (nI 3)) = u2 (sr I 40 (uS o n ((sk (I 48) n q.1, q.2)))) 40 4 (nI 3) from (u2_sr _ _ _ _ _).symm]; exact hB
          have hB : jB G A s_.heap (sr I 40 (uS o n (sk (I 48) n q.1, nI 3)), J, O) H locs := by rw [← show upd (uS o n ((sk (I 48) n q.1, q.2))) 4 (nI 3) = uS o n (sk (I 48) n q.1, nI 3) from uS_v]; exact hB
          refine lv_aload_n hx hb dX8_takesSort_51 rfl (lv_at hl 1 rfl) ?_
          refine lv_dup hx hb dX8_takesSort_52 rfl ?_
          refine j_get (20, 0, 0) 13 (v := .int ((sr I 40 (uS o n (sk (I 48) n q.1, nI 3))) 40 3)) hC hB in_X8 lk_203 dX8_takesSort_53 jk20 rfl rfl (by decide) rfl ?_
          refine j_eqi (x := (sr I 40 (uS o n (sk (I 48) n q.1, nI 3))) 40 3) (y := nI (sk (I 48) n q.1)) (sr_sj.trans (uS_3)) ?_
          refine lv_aload_n hx hb dX8_takesSort_56 rfl (lv_at hl 1 rfl) ?_
          refine j_get (20, 0, 0) 15 (v := .int ((sr I 40 (uS o n (sk (I 48) n q.1, nI 3))) 40 4)) hC hB in_X8 lk_211 dX8_takesSort_57 jk20 rfl rfl (by decide) rfl ?_
          refine j_eqi (x := (sr I 40 (uS o n (sk (I 48) n q.1, nI 3))) 40 4) (y := nI 3) (sr_sj.trans (uS_4)) ?_
          refine lv_bipush (v := (-4 : Int32)) hx hb dX8_takesSort_60 (by decide) ?_
          refine lv_icmp_ne (tgt := 69) hx hb dX8_takesSort_62 (by decide) (fun c_62 => ?_) (fun c_62 => ?_)
          · have hk := nx_lt (soV_n4 (by rw [hso]; decide))
            refine lv_iconst (v := nI 1) hx hb dX8_takesSort_69 (by decide) ?_
            refine jn_iadd hx hb dX8_takesSort_70 ?_
            refine j_put (20, 0, 0) 13 (u2 (sr I 40 (uS o n (sk (I 48) n q.1, nI 3))) 40 3 (nI (sk (I 48) n q.1 + 1)), J, O) (ty := .int) hC hB in_X8 tyX8_ok nmX8 lk_203 dX8_takesSort_71 jk20 rfl rfl (by decide) rfl (by decide +kernel) rfl rfl (Nat.le_of_ble_eq_true rfl) (fun z hz hne => jw_fr z hz hne) (rfl) (fun H locs hB => ?_)
            have hB : jB G A s_.heap (sr I 40 (upd (uS o n (sk (I 48) n q.1, nI 3)) 3 (nI (sk (I 48) n q.1 + 1))), J, O) H locs := by rw [show sr I 40 (upd (uS o n (sk (I 48) n q.1, nI 3)) 3 (nI (sk (I 48) n q.1 + 1))) = u2 (sr I 40 (uS o n (sk (I 48) n q.1, nI 3))) 40 3 (nI (sk (I 48) n q.1 + 1)) from (u2_sr _ _ _ _ _).symm]; exact hB
            have hB : jB G A s_.heap (sr I 40 (uS o n (sk (I 48) n q.1 + 1, nI 3)), J, O) H locs := by rw [← show upd (uS o n (sk (I 48) n q.1, nI 3)) 3 (nI (sk (I 48) n q.1 + 1)) = uS o n (sk (I 48) n q.1 + 1, nI 3) from uS_p]; exact hB
            refine lv_aload_n hx hb dX8_takesSort_74 rfl (lv_at hl 1 rfl) ?_
            refine j_get (20, 0, 0) 15 (v := .int ((sr I 40 (uS o n (sk (I 48) n q.1 + 1, nI 3))) 40 4)) hC hB in_X8 lk_211 dX8_takesSort_75 jk20 rfl rfl (by decide) rfl ?_
            refine j_eqi (x := (sr I 40 (uS o n (sk (I 48) n q.1 + 1, nI 3))) 40 4) (y := nI 3) (sr_sj.trans (uS_4)) ?_
            refine lv_bipush (v := (-4 : Int32)) hx hb dX8_takesSort_78 (by decide) ?_
            refine lv_icmp_eq (tgt := 87) hx hb dX8_takesSort_80 (by decide) (fun c_80 => ?_) (fun c_80 => ?_)
            · exact absurd c_80 (by decide)
            · refine lv_iconst (v := nI 1) hx hb dX8_takesSort_83 (by decide) ?_
              refine lv_goto (tgt := 88) hx hb dX8_takesSort_84 (by decide) ?_
              exact j_zret hC hB dX8_takesSort_88 (by decide) (⟨by rw [rSo, if_neg (by rw [hso]; decide)]; rfl, by rw [rSo, if_neg (by rw [hso]; decide), hso]⟩)
          · exact absurd c_62 (by decide)
      · refine lv_iconst (v := nI 2) hx hb dX8_takesSort_32 (by decide) ?_
        refine lv_goto (tgt := 48) hx hb dX8_takesSort_33 (by decide) ?_
        have hso : soV (nx (I 48) n q.1) = nI 2 := by rw [soV, if_neg c_9, if_neg c_19, if_pos c_29]
        refine j_put (20, 0, 0) 15 (u2 (sr I 40 (uS o n ((sk (I 48) n q.1, q.2)))) 40 4 (nI 2), J, O) (ty := .int) hC hB in_X8 tyX8_ok nmX8 lk_211 dX8_takesSort_48 jk20 rfl rfl (by decide) rfl (by decide +kernel) rfl rfl (Nat.le_of_ble_eq_true rfl) (fun z hz hne => jw_fr z hz hne) (rfl) (fun H locs hB => ?_)
        have hB : jB G A s_.heap (sr I 40 (upd (uS o n ((sk (I 48) n q.1, q.2))) 4 (nI 2)), J, O) H locs := by rw [show sr I 40 (upd (uS o n ((sk (I 48) n q.1, q.2))) 4 (nI 2)) = u2 (sr I 40 (uS o n ((sk (I 48) n q.1, q.2)))) 40 4 (nI 2) from (u2_sr _ _ _ _ _).symm]; exact hB
        have hB : jB G A s_.heap (sr I 40 (uS o n (sk (I 48) n q.1, nI 2)), J, O) H locs := by rw [← show upd (uS o n ((sk (I 48) n q.1, q.2))) 4 (nI 2) = uS o n (sk (I 48) n q.1, nI 2) from uS_v]; exact hB
        refine lv_aload_n hx hb dX8_takesSort_51 rfl (lv_at hl 1 rfl) ?_
        refine lv_dup hx hb dX8_takesSort_52 rfl ?_
        refine j_get (20, 0, 0) 13 (v := .int ((sr I 40 (uS o n (sk (I 48) n q.1, nI 2))) 40 3)) hC hB in_X8 lk_203 dX8_takesSort_53 jk20 rfl rfl (by decide) rfl ?_
        refine j_eqi (x := (sr I 40 (uS o n (sk (I 48) n q.1, nI 2))) 40 3) (y := nI (sk (I 48) n q.1)) (sr_sj.trans (uS_3)) ?_
        refine lv_aload_n hx hb dX8_takesSort_56 rfl (lv_at hl 1 rfl) ?_
        refine j_get (20, 0, 0) 15 (v := .int ((sr I 40 (uS o n (sk (I 48) n q.1, nI 2))) 40 4)) hC hB in_X8 lk_211 dX8_takesSort_57 jk20 rfl rfl (by decide) rfl ?_
        refine j_eqi (x := (sr I 40 (uS o n (sk (I 48) n q.1, nI 2))) 40 4) (y := nI 2) (sr_sj.trans (uS_4)) ?_
        refine lv_bipush (v := (-4 : Int32)) hx hb dX8_takesSort_60 (by decide) ?_
        refine lv_icmp_ne (tgt := 69) hx hb dX8_takesSort_62 (by decide) (fun c_62 => ?_) (fun c_62 => ?_)
        · have hk := nx_lt (soV_n4 (by rw [hso]; decide))
          refine lv_iconst (v := nI 1) hx hb dX8_takesSort_69 (by decide) ?_
          refine jn_iadd hx hb dX8_takesSort_70 ?_
          refine j_put (20, 0, 0) 13 (u2 (sr I 40 (uS o n (sk (I 48) n q.1, nI 2))) 40 3 (nI (sk (I 48) n q.1 + 1)), J, O) (ty := .int) hC hB in_X8 tyX8_ok nmX8 lk_203 dX8_takesSort_71 jk20 rfl rfl (by decide) rfl (by decide +kernel) rfl rfl (Nat.le_of_ble_eq_true rfl) (fun z hz hne => jw_fr z hz hne) (rfl) (fun H locs hB => ?_)
          have hB : jB G A s_.heap (sr I 40 (upd (uS o n (sk (I 48) n q.1, nI 2)) 3 (nI (sk (I 48) n q.1 + 1))), J, O) H locs := by rw [show sr I 40 (upd (uS o n (sk (I 48) n q.1, nI 2)) 3 (nI (sk (I 48) n q.1 + 1))) = u2 (sr I 40 (uS o n (sk (I 48) n q.1, nI 2))) 40 3 (nI (sk (I 48) n q.1 + 1)) from (u2_sr _ _ _ _ _).symm]; exact hB
          have hB : jB G A s_.heap (sr I 40 (uS o n (sk (I 48) n q.1 + 1, nI 2)), J, O) H locs := by rw [← show upd (uS o n (sk (I 48) n q.1, nI 2)) 3 (nI (sk (I 48) n q.1 + 1)) = uS o n (sk (I 48) n q.1 + 1, nI 2) from uS_p]; exact hB
          refine lv_aload_n hx hb dX8_takesSort_74 rfl (lv_at hl 1 rfl) ?_
          refine j_get (20, 0, 0) 15 (v := .int ((sr I 40 (uS o n (sk (I 48) n q.1 + 1, nI 2))) 40 4)) hC hB in_X8 lk_211 dX8_takesSort_75 jk20 rfl rfl (by decide) rfl ?_
          refine j_eqi (x := (sr I 40 (uS o n (sk (I 48) n q.1 + 1, nI 2))) 40 4) (y := nI 2) (sr_sj.trans (uS_4)) ?_
          refine lv_bipush (v := (-4 : Int32)) hx hb dX8_takesSort_78 (by decide) ?_
          refine lv_icmp_eq (tgt := 87) hx hb dX8_takesSort_80 (by decide) (fun c_80 => ?_) (fun c_80 => ?_)
          · exact absurd c_80 (by decide)
          · refine lv_iconst (v := nI 1) hx hb dX8_takesSort_83 (by decide) ?_
            refine lv_goto (tgt := 88) hx hb dX8_takesSort_84 (by decide) ?_
            exact j_zret hC hB dX8_takesSort_88 (by decide) (⟨by rw [rSo, if_neg (by rw [hso]; decide)]; rfl, by rw [rSo, if_neg (by rw [hso]; decide), hso]⟩)
        · exact absurd c_62 (by decide)
    · refine lv_iconst (v := nI 1) hx hb dX8_takesSort_22 (by decide) ?_
      refine lv_goto (tgt := 48) hx hb dX8_takesSort_23 (by decide) ?_
      have hso : soV (nx (I 48) n q.1) = nI 1 := by rw [soV, if_neg c_9, if_pos c_19]
      refine j_put (20, 0, 0) 15 (u2 (sr I 40 (uS o n ((sk (I 48) n q.1, q.2)))) 40 4 (nI 1), J, O) (ty := .int) hC hB in_X8 tyX8_ok nmX8 lk_211 dX8_takesSort_48 jk20 rfl rfl (by decide) rfl (by decide +kernel) rfl rfl (Nat.le_of_ble_eq_true rfl) (fun z hz hne => jw_fr z hz hne) (rfl) (fun H locs hB => ?_)
      have hB : jB G A s_.heap (sr I 40 (upd (uS o n ((sk (I 48) n q.1, q.2))) 4 (nI 1)), J, O) H locs := by rw [show sr I 40 (upd (uS o n ((sk (I 48) n q.1, q.2))) 4 (nI 1)) = u2 (sr I 40 (uS o n ((sk (I 48) n q.1, q.2)))) 40 4 (nI 1) from (u2_sr _ _ _ _ _).symm]; exact hB
      have hB : jB G A s_.heap (sr I 40 (uS o n (sk (I 48) n q.1, nI 1)), J, O) H locs := by rw [← show upd (uS o n ((sk (I 48) n q.1, q.2))) 4 (nI 1) = uS o n (sk (I 48) n q.1, nI 1) from uS_v]; exact hB
      refine lv_aload_n hx hb dX8_takesSort_51 rfl (lv_at hl 1 rfl) ?_
      refine lv_dup hx hb dX8_takesSort_52 rfl ?_
      refine j_get (20, 0, 0) 13 (v := .int ((sr I 40 (uS o n (sk (I 48) n q.1, nI 1))) 40 3)) hC hB in_X8 lk_203 dX8_takesSort_53 jk20 rfl rfl (by decide) rfl ?_
      refine j_eqi (x := (sr I 40 (uS o n (sk (I 48) n q.1, nI 1))) 40 3) (y := nI (sk (I 48) n q.1)) (sr_sj.trans (uS_3)) ?_
      refine lv_aload_n hx hb dX8_takesSort_56 rfl (lv_at hl 1 rfl) ?_
      refine j_get (20, 0, 0) 15 (v := .int ((sr I 40 (uS o n (sk (I 48) n q.1, nI 1))) 40 4)) hC hB in_X8 lk_211 dX8_takesSort_57 jk20 rfl rfl (by decide) rfl ?_
      refine j_eqi (x := (sr I 40 (uS o n (sk (I 48) n q.1, nI 1))) 40 4) (y := nI 1) (sr_sj.trans (uS_4)) ?_
      refine lv_bipush (v := (-4 : Int32)) hx hb dX8_takesSort_60 (by decide) ?_
      refine lv_icmp_ne (tgt := 69) hx hb dX8_takesSort_62 (by decide) (fun c_62 => ?_) (fun c_62 => ?_)
      · have hk := nx_lt (soV_n4 (by rw [hso]; decide))
        refine lv_iconst (v := nI 1) hx hb dX8_takesSort_69 (by decide) ?_
        refine jn_iadd hx hb dX8_takesSort_70 ?_
        refine j_put (20, 0, 0) 13 (u2 (sr I 40 (uS o n (sk (I 48) n q.1, nI 1))) 40 3 (nI (sk (I 48) n q.1 + 1)), J, O) (ty := .int) hC hB in_X8 tyX8_ok nmX8 lk_203 dX8_takesSort_71 jk20 rfl rfl (by decide) rfl (by decide +kernel) rfl rfl (Nat.le_of_ble_eq_true rfl) (fun z hz hne => jw_fr z hz hne) (rfl) (fun H locs hB => ?_)
        have hB : jB G A s_.heap (sr I 40 (upd (uS o n (sk (I 48) n q.1, nI 1)) 3 (nI (sk (I 48) n q.1 + 1))), J, O) H locs := by rw [show sr I 40 (upd (uS o n (sk (I 48) n q.1, nI 1)) 3 (nI (sk (I 48) n q.1 + 1))) = u2 (sr I 40 (uS o n (sk (I 48) n q.1, nI 1))) 40 3 (nI (sk (I 48) n q.1 + 1)) from (u2_sr _ _ _ _ _).symm]; exact hB
        have hB : jB G A s_.heap (sr I 40 (uS o n (sk (I 48) n q.1 + 1, nI 1)), J, O) H locs := by rw [← show upd (uS o n (sk (I 48) n q.1, nI 1)) 3 (nI (sk (I 48) n q.1 + 1)) = uS o n (sk (I 48) n q.1 + 1, nI 1) from uS_p]; exact hB
        refine lv_aload_n hx hb dX8_takesSort_74 rfl (lv_at hl 1 rfl) ?_
        refine j_get (20, 0, 0) 15 (v := .int ((sr I 40 (uS o n (sk (I 48) n q.1 + 1, nI 1))) 40 4)) hC hB in_X8 lk_211 dX8_takesSort_75 jk20 rfl rfl (by decide) rfl ?_
        refine j_eqi (x := (sr I 40 (uS o n (sk (I 48) n q.1 + 1, nI 1))) 40 4) (y := nI 1) (sr_sj.trans (uS_4)) ?_
        refine lv_bipush (v := (-4 : Int32)) hx hb dX8_takesSort_78 (by decide) ?_
        refine lv_icmp_eq (tgt := 87) hx hb dX8_takesSort_80 (by decide) (fun c_80 => ?_) (fun c_80 => ?_)
        · exact absurd c_80 (by decide)
        · refine lv_iconst (v := nI 1) hx hb dX8_takesSort_83 (by decide) ?_
          refine lv_goto (tgt := 88) hx hb dX8_takesSort_84 (by decide) ?_
          exact j_zret hC hB dX8_takesSort_88 (by decide) (⟨by rw [rSo, if_neg (by rw [hso]; decide)]; rfl, by rw [rSo, if_neg (by rw [hso]; decide), hso]⟩)
      · exact absurd c_62 (by decide)
  · refine lv_iconst (v := nI 0) hx hb dX8_takesSort_12 (by decide) ?_
    refine lv_goto (tgt := 48) hx hb dX8_takesSort_13 (by decide) ?_
    have hso : soV (nx (I 48) n q.1) = nI 0 := by rw [soV, if_pos c_9]
    refine j_put (20, 0, 0) 15 (u2 (sr I 40 (uS o n ((sk (I 48) n q.1, q.2)))) 40 4 (nI 0), J, O) (ty := .int) hC hB in_X8 tyX8_ok nmX8 lk_211 dX8_takesSort_48 jk20 rfl rfl (by decide) rfl (by decide +kernel) rfl rfl (Nat.le_of_ble_eq_true rfl) (fun z hz hne => jw_fr z hz hne) (rfl) (fun H locs hB => ?_)
    have hB : jB G A s_.heap (sr I 40 (upd (uS o n ((sk (I 48) n q.1, q.2))) 4 (nI 0)), J, O) H locs := by rw [show sr I 40 (upd (uS o n ((sk (I 48) n q.1, q.2))) 4 (nI 0)) = u2 (sr I 40 (uS o n ((sk (I 48) n q.1, q.2)))) 40 4 (nI 0) from (u2_sr _ _ _ _ _).symm]; exact hB
    have hB : jB G A s_.heap (sr I 40 (uS o n (sk (I 48) n q.1, nI 0)), J, O) H locs := by rw [← show upd (uS o n ((sk (I 48) n q.1, q.2))) 4 (nI 0) = uS o n (sk (I 48) n q.1, nI 0) from uS_v]; exact hB
    refine lv_aload_n hx hb dX8_takesSort_51 rfl (lv_at hl 1 rfl) ?_
    refine lv_dup hx hb dX8_takesSort_52 rfl ?_
    refine j_get (20, 0, 0) 13 (v := .int ((sr I 40 (uS o n (sk (I 48) n q.1, nI 0))) 40 3)) hC hB in_X8 lk_203 dX8_takesSort_53 jk20 rfl rfl (by decide) rfl ?_
    refine j_eqi (x := (sr I 40 (uS o n (sk (I 48) n q.1, nI 0))) 40 3) (y := nI (sk (I 48) n q.1)) (sr_sj.trans (uS_3)) ?_
    refine lv_aload_n hx hb dX8_takesSort_56 rfl (lv_at hl 1 rfl) ?_
    refine j_get (20, 0, 0) 15 (v := .int ((sr I 40 (uS o n (sk (I 48) n q.1, nI 0))) 40 4)) hC hB in_X8 lk_211 dX8_takesSort_57 jk20 rfl rfl (by decide) rfl ?_
    refine j_eqi (x := (sr I 40 (uS o n (sk (I 48) n q.1, nI 0))) 40 4) (y := nI 0) (sr_sj.trans (uS_4)) ?_
    refine lv_bipush (v := (-4 : Int32)) hx hb dX8_takesSort_60 (by decide) ?_
    refine lv_icmp_ne (tgt := 69) hx hb dX8_takesSort_62 (by decide) (fun c_62 => ?_) (fun c_62 => ?_)
    · have hk := nx_lt (soV_n4 (by rw [hso]; decide))
      refine lv_iconst (v := nI 1) hx hb dX8_takesSort_69 (by decide) ?_
      refine jn_iadd hx hb dX8_takesSort_70 ?_
      refine j_put (20, 0, 0) 13 (u2 (sr I 40 (uS o n (sk (I 48) n q.1, nI 0))) 40 3 (nI (sk (I 48) n q.1 + 1)), J, O) (ty := .int) hC hB in_X8 tyX8_ok nmX8 lk_203 dX8_takesSort_71 jk20 rfl rfl (by decide) rfl (by decide +kernel) rfl rfl (Nat.le_of_ble_eq_true rfl) (fun z hz hne => jw_fr z hz hne) (rfl) (fun H locs hB => ?_)
      have hB : jB G A s_.heap (sr I 40 (upd (uS o n (sk (I 48) n q.1, nI 0)) 3 (nI (sk (I 48) n q.1 + 1))), J, O) H locs := by rw [show sr I 40 (upd (uS o n (sk (I 48) n q.1, nI 0)) 3 (nI (sk (I 48) n q.1 + 1))) = u2 (sr I 40 (uS o n (sk (I 48) n q.1, nI 0))) 40 3 (nI (sk (I 48) n q.1 + 1)) from (u2_sr _ _ _ _ _).symm]; exact hB
      have hB : jB G A s_.heap (sr I 40 (uS o n (sk (I 48) n q.1 + 1, nI 0)), J, O) H locs := by rw [← show upd (uS o n (sk (I 48) n q.1, nI 0)) 3 (nI (sk (I 48) n q.1 + 1)) = uS o n (sk (I 48) n q.1 + 1, nI 0) from uS_p]; exact hB
      refine lv_aload_n hx hb dX8_takesSort_74 rfl (lv_at hl 1 rfl) ?_
      refine j_get (20, 0, 0) 15 (v := .int ((sr I 40 (uS o n (sk (I 48) n q.1 + 1, nI 0))) 40 4)) hC hB in_X8 lk_211 dX8_takesSort_75 jk20 rfl rfl (by decide) rfl ?_
      refine j_eqi (x := (sr I 40 (uS o n (sk (I 48) n q.1 + 1, nI 0))) 40 4) (y := nI 0) (sr_sj.trans (uS_4)) ?_
      refine lv_bipush (v := (-4 : Int32)) hx hb dX8_takesSort_78 (by decide) ?_
      refine lv_icmp_eq (tgt := 87) hx hb dX8_takesSort_80 (by decide) (fun c_80 => ?_) (fun c_80 => ?_)
      · exact absurd c_80 (by decide)
      · refine lv_iconst (v := nI 1) hx hb dX8_takesSort_83 (by decide) ?_
        refine lv_goto (tgt := 88) hx hb dX8_takesSort_84 (by decide) ?_
        exact j_zret hC hB dX8_takesSort_88 (by decide) (⟨by rw [rSo, if_neg (by rw [hso]; decide)]; rfl, by rw [rSo, if_neg (by rw [hso]; decide), hso]⟩)
    · exact absurd c_62 (by decide)

set_option maxHeartbeats 4000000 in
set_option maxRecDepth 100000 in
theorem c_X8_kindBy (l_ : Launch) (G : jG) (I : Nat → Nat → Int32) (J : Nat → Nat → Int64) (O : Nat → Nat → Nat) (c : Int32) : jMi l_ G yX8_kindBy wsX8_kindBy ({ frames := 0, cells := 0, slots := 0, locals := 0 }) [.int c] (I, J, O) (fun r u => r = kdV c ∧ u = (I, J, O)) := by
  refine jMi_of (cc := cX8_kindBy) (maxL := 1) (ret := (some .int)) (lv0 := [(0, .int c)]) (by decide) rfl (Nat.le_of_ble_eq_true rfl) rfl ?_
  intro pg_ ev_ s_ mi_ below meth cd_ A ls hC hB hl
  obtain ⟨hx, hb, hr, hml, hown, hts, hlocks, hK, hA⟩ := id hC
  refine lv_iload_n hx hb dX8_kindBy_0 rfl (lv_at hl 0 rfl) ?_
  refine lv_bipush (v := nI 112) hx hb dX8_kindBy_1 (by decide) ?_
  refine lv_icmp_ne (tgt := 10) hx hb dX8_kindBy_3 (by decide) (fun c_3 => ?_) (fun c_3 => ?_)
  · refine lv_iload_n hx hb dX8_kindBy_10 rfl (lv_at hl 0 rfl) ?_
    refine lv_bipush (v := nI 115) hx hb dX8_kindBy_11 (by decide) ?_
    refine lv_icmp_ne (tgt := 20) hx hb dX8_kindBy_13 (by decide) (fun c_13 => ?_) (fun c_13 => ?_)
    · refine lv_iload_n hx hb dX8_kindBy_20 rfl (lv_at hl 0 rfl) ?_
      refine lv_bipush (v := nI 119) hx hb dX8_kindBy_21 (by decide) ?_
      refine lv_icmp_ne (tgt := 30) hx hb dX8_kindBy_23 (by decide) (fun c_23 => ?_) (fun c_23 => ?_)
      · refine lv_iload_n hx hb dX8_kindBy_30 rfl (lv_at hl 0 rfl) ?_
        refine lv_bipush (v := nI 117) hx hb dX8_kindBy_31 (by decide) ?_
        refine lv_icmp_ne (tgt := 40) hx hb dX8_kindBy_33 (by decide) (fun c_33 => ?_) (fun c_33 => ?_)
        · refine lv_iload_n hx hb dX8_kindBy_40 rfl (lv_at hl 0 rfl) ?_
          refine lv_bipush (v := nI 99) hx hb dX8_kindBy_41 (by decide) ?_
          refine lv_icmp_ne (tgt := 50) hx hb dX8_kindBy_43 (by decide) (fun c_43 => ?_) (fun c_43 => ?_)
          · refine lv_bipush (v := (-4 : Int32)) hx hb dX8_kindBy_50 (by decide) ?_
            exact j_iret hC hB dX8_kindBy_52 (⟨by rw [kdV, if_neg c_3, if_neg c_13, if_neg c_23, if_neg c_33, if_neg c_43], rfl⟩)
          · refine lv_iconst (v := nI 4) hx hb dX8_kindBy_46 (by decide) ?_
            refine lv_goto (tgt := 52) hx hb dX8_kindBy_47 (by decide) ?_
            exact j_iret hC hB dX8_kindBy_52 (⟨by rw [kdV, if_neg c_3, if_neg c_13, if_neg c_23, if_neg c_33, if_pos c_43], rfl⟩)
        · refine lv_iconst (v := nI 3) hx hb dX8_kindBy_36 (by decide) ?_
          refine lv_goto (tgt := 52) hx hb dX8_kindBy_37 (by decide) ?_
          exact j_iret hC hB dX8_kindBy_52 (⟨by rw [kdV, if_neg c_3, if_neg c_13, if_neg c_23, if_pos c_33], rfl⟩)
      · refine lv_iconst (v := nI 2) hx hb dX8_kindBy_26 (by decide) ?_
        refine lv_goto (tgt := 52) hx hb dX8_kindBy_27 (by decide) ?_
        exact j_iret hC hB dX8_kindBy_52 (⟨by rw [kdV, if_neg c_3, if_neg c_13, if_pos c_23], rfl⟩)
    · refine lv_iconst (v := nI 1) hx hb dX8_kindBy_16 (by decide) ?_
      refine lv_goto (tgt := 52) hx hb dX8_kindBy_17 (by decide) ?_
      exact j_iret hC hB dX8_kindBy_52 (⟨by rw [kdV, if_neg c_3, if_pos c_13], rfl⟩)
  · refine lv_iconst (v := nI 0) hx hb dX8_kindBy_6 (by decide) ?_
    refine lv_goto (tgt := 52) hx hb dX8_kindBy_7 (by decide) ?_
    exact j_iret hC hB dX8_kindBy_52 (⟨by rw [kdV, if_pos c_3], rfl⟩)

set_option maxHeartbeats 4000000 in
set_option maxRecDepth 100000 in
theorem c_X8_takesHard (l_ : Launch) (G : jG) (I : Nat → Nat → Int32) (J : Nat → Nat → Int64) (O : Nat → Nat → Nat)  {o : Nat → Int32} {n : Nat} {q : Nat × Int32} (hn : n ≤ 90) (hq : q.1 ≤ n) (hU : I 40 = uS o n q) : jMi l_ G yX8_takesHard wsX8_takesHard ({ frames := 1, cells := 0, slots := 0, locals := 25 }) [.ref (G.2.2.1 (20, 0, 0))] (I, J, O) (fun r u => r = b2 ((rHa (I 48) n q).1) ∧ u = (sr I 40 (uS o n ((rHa (I 48) n q).2)), J, O)) := by
  refine jMi_of (cc := cX8_takesHard) (maxL := 3) (ret := (some .boolean)) (lv0 := [(0, .ref (G.2.2.1 (20, 0, 0)))]) (by decide) rfl (Nat.le_of_ble_eq_true rfl) rfl ?_
  intro pg_ ev_ s_ mi_ below meth cd_ A ls hC hB hl
  obtain ⟨hx, hb, hr, hml, hown, hts, hlocks, hK, hA⟩ := id hC
  have lk_203 := hts (.fieldLink RX8 203 "RiddlePrisonModel" "place" "I") (by decide +kernel)
  have lk_38 := hts (.fieldLink RX8 38 "RiddlePrisonModel" "tape" "[I") (by decide +kernel)
  have lk_211 := hts (.fieldLink RX8 211 "RiddlePrisonModel" "value" "I") (by decide +kernel)
  have lk_200 := hts (.fieldLink RX8 200 "RiddlePrisonModel" "tapeLong" "I") (by decide +kernel)
  have in_X8 := (fun w h => List.mem_cons_of_mem _ (List.mem_append_right _ h) : ∀ w ∈ wsX80, w ∈ wsX8_takesHard)
  have hU2 : I 40 2 = nI n := by rw [hU]; exact uS_2
  have hU3 : I 40 3 = nI q.1 := by rw [hU]; exact uS_3
  have hU4 : I 40 4 = q.2 := by rw [hU]; exact uS_4
  refine lv_aload_n hx hb dX8_takesHard_0 rfl (lv_at hl 0 rfl) ?_
  refine j_cvi (20, 0, 0) [] hC hB hl.1 (c_X8_next l_ G I J O  (hn) (hq) (hU)) (cwV 0 hts gX8_takesHard_X8_next rfl rfl rfl (by decide +kernel) ⟨by decide, by decide⟩) dX8_takesHard_1 jk20 rfl rfl rfl rfl (Nat.le_of_ble_eq_true rfl) (fun r_1 u_1 H locs hp_1 hB => ?_)
  obtain ⟨rfl, rfl⟩ := hp_1
  have hl_1 : ((sk (I 48) n q.1, q.2)).1 ≤ n := (sk_le (hq)).2
  have hB : jB G A s_.heap (sr I 40 (uS o n ((sk (I 48) n q.1, q.2))), J, O) H locs := hB
  refine j_eqi (y := nx (I 48) n q.1) (rfl) ?_
  refine lv_i2l (v := (nx (I 48) n q.1).toInt64) hx hb dX8_takesHard_4 rfl ?_
  refine lv_ldc2 (v := 48) hx hb hown (hts (.constantLong RX8 209 (48)) (by decide +kernel)) dX8_takesHard_5 ?_
  refine lv_ldc2 (v := 57) hx hb hown (hts (.constantLong RX8 214 (57)) (by decide +kernel)) dX8_takesHard_8 ?_
  refine j_csi [.long ((nx (I 48) n q.1).toInt64), .long ((48 : Int64)), .long ((57 : Int64))] hC hB hl.1 (c_X8_in l_ G (sr I 40 (uS o n ((sk (I 48) n q.1, q.2)))) J O ((nx (I 48) n q.1).toInt64) ((48 : Int64)) ((57 : Int64))) (va_cwS 3 hts gX8_takesHard_X8_in rfl rfl rfl (by decide +kernel) ⟨by decide, by decide⟩) dX8_takesHard_11 rfl rfl (Nat.le_of_ble_eq_true rfl) (fun r_11 u_11 H locs hp_11 hB => ?_)
  obtain ⟨rfl, rfl⟩ := hp_11
  refine j_eqi (y := b2 (inR ((nx (I 48) n q.1).toInt64) ((48 : Int64)) ((57 : Int64)))) (rfl) ?_
  refine j_eqi (y := b2 (dgB (nx (I 48) n q.1))) (rfl) ?_
  refine jb_if_ne (tgt := 19) hx hb dX8_takesHard_14 (by decide) (fun c_14 => ?_) (fun c_14 => ?_)
  · have hk := nx_lt (inR_n4 c_14)
    refine lv_aload_n hx hb dX8_takesHard_19 rfl (lv_at hl 0 rfl) ?_
    refine j_get (20, 0, 0) 13 (v := .int ((sr I 40 (uS o n ((sk (I 48) n q.1, q.2)))) 40 3)) hC hB in_X8 lk_203 dX8_takesHard_20 jk20 rfl rfl (by decide) rfl ?_
    refine j_eqi (x := (sr I 40 (uS o n ((sk (I 48) n q.1, q.2)))) 40 3) (y := nI (((sk (I 48) n q.1, q.2)).1)) (sr_sj.trans (uS_3)) ?_
    refine lv_istore_n (lv' := [(1, .int (nI (((sk (I 48) n q.1, q.2)).1))), (0, .ref (G.2.2.1 (20, 0, 0)))]) hx hb dX8_takesHard_23 rfl hl (by decide) rfl (fun ls hl => ?_)
    refine lv_aload_n hx hb dX8_takesHard_24 rfl (lv_at hl 1 rfl) ?_
    refine lv_aload_n hx hb dX8_takesHard_25 rfl (lv_at hl 1 rfl) ?_
    refine j_get (20, 0, 0) 11 (v := .ref (G.2.2.1 (21, 48, 0))) hC hB in_X8 lk_38 dX8_takesHard_26 jk20 rfl rfl (by decide) rfl ?_
    refine lv_aload_n hx hb dX8_takesHard_29 rfl (lv_at hl 1 rfl) ?_
    refine j_get (20, 0, 0) 13 (v := .int ((sr I 40 (uS o n ((sk (I 48) n q.1, q.2)))) 40 3)) hC hB in_X8 lk_203 dX8_takesHard_30 jk20 rfl rfl (by decide) rfl ?_
    refine j_eqi (x := (sr I 40 (uS o n ((sk (I 48) n q.1, q.2)))) 40 3) (y := nI (((sk (I 48) n q.1, q.2)).1)) (sr_sj.trans (uS_3)) ?_
    refine j_iLd 48 (((sk (I 48) n q.1, q.2)).1) hC hB dX8_takesHard_33 (by decide) rfl (by simp only [lenI_48]; omega) ?_
    refine j_eqi (x := (sr I 40 (uS o n ((sk (I 48) n q.1, q.2)))) 48 (((sk (I 48) n q.1, q.2)).1)) (y := (I 48) (((sk (I 48) n q.1, q.2)).1)) ((sr_nj (show (48 : Nat) ≠ 40 by omega))) ?_
    refine lv_bipush (v := nI 48) hx hb dX8_takesHard_34 (by decide) ?_
    refine lv_isub hx hb dX8_takesHard_36 ?_
    refine j_put (20, 0, 0) 15 (u2 (sr I 40 (uS o n ((sk (I 48) n q.1, q.2)))) 40 4 (((I 48) (((sk (I 48) n q.1, q.2)).1)) - (nI 48)), J, O) (ty := .int) hC hB in_X8 tyX8_ok nmX8 lk_211 dX8_takesHard_37 jk20 rfl rfl (by decide) rfl (by decide +kernel) rfl rfl (Nat.le_of_ble_eq_true rfl) (fun z hz hne => jw_fr z hz hne) (rfl) (fun H locs hB => ?_)
    have hB : jB G A s_.heap (sr I 40 (upd (uS o n ((sk (I 48) n q.1, q.2))) 4 (((I 48) (((sk (I 48) n q.1, q.2)).1)) - (nI 48))), J, O) H locs := by rw [show sr I 40 (upd (uS o n ((sk (I 48) n q.1, q.2))) 4 (((I 48) (((sk (I 48) n q.1, q.2)).1)) - (nI 48))) = u2 (sr I 40 (uS o n ((sk (I 48) n q.1, q.2)))) 40 4 (((I 48) (((sk (I 48) n q.1, q.2)).1)) - (nI 48)) from (u2_sr _ _ _ _ _).symm]; exact hB
    have hB : jB G A s_.heap (sr I 40 (uS o n (sk (I 48) n q.1, I 48 (sk (I 48) n q.1) - nI 48)), J, O) H locs := by rw [← show upd (uS o n ((sk (I 48) n q.1, q.2))) 4 (((I 48) (((sk (I 48) n q.1, q.2)).1)) - (nI 48)) = uS o n (sk (I 48) n q.1, I 48 (sk (I 48) n q.1) - nI 48) from uS_v]; exact hB
    refine lv_aload_n hx hb dX8_takesHard_40 rfl (lv_at hl 1 rfl) ?_
    refine lv_dup hx hb dX8_takesHard_41 rfl ?_
    refine j_get (20, 0, 0) 13 (v := .int ((sr I 40 (uS o n (sk (I 48) n q.1, I 48 (sk (I 48) n q.1) - nI 48))) 40 3)) hC hB in_X8 lk_203 dX8_takesHard_42 jk20 rfl rfl (by decide) rfl ?_
    refine j_eqi (x := (sr I 40 (uS o n (sk (I 48) n q.1, I 48 (sk (I 48) n q.1) - nI 48))) 40 3) (y := nI ((sk (I 48) n q.1, I 48 (sk (I 48) n q.1) - nI 48).1)) (sr_sj.trans (uS_3)) ?_
    refine lv_iconst (v := nI 1) hx hb dX8_takesHard_45 (by decide) ?_
    refine jn_iadd hx hb dX8_takesHard_46 ?_
    refine j_put (20, 0, 0) 13 (u2 (sr I 40 (uS o n (sk (I 48) n q.1, I 48 (sk (I 48) n q.1) - nI 48))) 40 3 (nI ((sk (I 48) n q.1, I 48 (sk (I 48) n q.1) - nI 48).1 + 1)), J, O) (ty := .int) hC hB in_X8 tyX8_ok nmX8 lk_203 dX8_takesHard_47 jk20 rfl rfl (by decide) rfl (by decide +kernel) rfl rfl (Nat.le_of_ble_eq_true rfl) (fun z hz hne => jw_fr z hz hne) (rfl) (fun H locs hB => ?_)
    have hB : jB G A s_.heap (sr I 40 (upd (uS o n (sk (I 48) n q.1, I 48 (sk (I 48) n q.1) - nI 48)) 3 (nI ((sk (I 48) n q.1, I 48 (sk (I 48) n q.1) - nI 48).1 + 1))), J, O) H locs := by rw [show sr I 40 (upd (uS o n (sk (I 48) n q.1, I 48 (sk (I 48) n q.1) - nI 48)) 3 (nI ((sk (I 48) n q.1, I 48 (sk (I 48) n q.1) - nI 48).1 + 1))) = u2 (sr I 40 (uS o n (sk (I 48) n q.1, I 48 (sk (I 48) n q.1) - nI 48))) 40 3 (nI ((sk (I 48) n q.1, I 48 (sk (I 48) n q.1) - nI 48).1 + 1)) from (u2_sr _ _ _ _ _).symm]; exact hB
    have hB : jB G A s_.heap (sr I 40 (uS o n (sk (I 48) n q.1 + 1, I 48 (sk (I 48) n q.1) - nI 48)), J, O) H locs := by rw [← show upd (uS o n (sk (I 48) n q.1, I 48 (sk (I 48) n q.1) - nI 48)) 3 (nI ((sk (I 48) n q.1, I 48 (sk (I 48) n q.1) - nI 48).1 + 1)) = uS o n (sk (I 48) n q.1 + 1, I 48 (sk (I 48) n q.1) - nI 48) from uS_p]; exact hB
    refine lv_aload_n hx hb dX8_takesHard_50 rfl (lv_at hl 1 rfl) ?_
    refine j_get (20, 0, 0) 13 (v := .int ((sr I 40 (uS o n (sk (I 48) n q.1 + 1, I 48 (sk (I 48) n q.1) - nI 48))) 40 3)) hC hB in_X8 lk_203 dX8_takesHard_51 jk20 rfl rfl (by decide) rfl ?_
    refine j_eqi (x := (sr I 40 (uS o n (sk (I 48) n q.1 + 1, I 48 (sk (I 48) n q.1) - nI 48))) 40 3) (y := nI ((sk (I 48) n q.1 + 1, I 48 (sk (I 48) n q.1) - nI 48).1)) (sr_sj.trans (uS_3)) ?_
    refine lv_aload_n hx hb dX8_takesHard_54 rfl (lv_at hl 1 rfl) ?_
    refine j_get (20, 0, 0) 12 (v := .int ((sr I 40 (uS o n (sk (I 48) n q.1 + 1, I 48 (sk (I 48) n q.1) - nI 48))) 40 2)) hC hB in_X8 lk_200 dX8_takesHard_55 jk20 rfl rfl (by decide) rfl ?_
    refine j_eqi (x := (sr I 40 (uS o n (sk (I 48) n q.1 + 1, I 48 (sk (I 48) n q.1) - nI 48))) 40 2) (y := nI n) (sr_sj.trans (uS_2)) ?_
    refine jn_icmp_ge (tgt := 117) hx hb dX8_takesHard_58 (by decide) (by omega) (by omega) (fun c_58 => ?_) (fun c_58 => ?_)
    · have hB : jB G A s_.heap (sr I 40 (uS o n (rH2 (I 48) n (sk (I 48) n q.1))), J, O) H locs := by rw [← show uS o n (sk (I 48) n q.1 + 1, I 48 (sk (I 48) n q.1) - nI 48) = uS o n (rH2 (I 48) n (sk (I 48) n q.1)) from by rw [rH2, if_neg (fun z => absurd z.1 (by omega))]]; exact hB
      have hh2 := rH2_le (t := I 48) hk
      refine lv_aload_n hx hb dX8_takesHard_117 rfl (lv_at hl 1 rfl) ?_
      refine j_get (20, 0, 0) 15 (v := .int ((sr I 40 (uS o n (rH2 (I 48) n (sk (I 48) n q.1)))) 40 4)) hC hB in_X8 lk_211 dX8_takesHard_118 jk20 rfl rfl (by decide) rfl ?_
      refine j_eqi (x := (sr I 40 (uS o n (rH2 (I 48) n (sk (I 48) n q.1)))) 40 4) (y := (rH2 (I 48) n (sk (I 48) n q.1)).2) (sr_sj.trans (uS_4)) ?_
      refine lv_i2l (v := ((rH2 (I 48) n (sk (I 48) n q.1)).2).toInt64) hx hb dX8_takesHard_121 rfl ?_
      refine lv_lconst (v := 1) hx hb dX8_takesHard_122 rfl ?_
      refine lv_ldc2 (v := 19) hx hb hown (hts (.constantLong RX8 77 (19)) (by decide +kernel)) dX8_takesHard_123 ?_
      refine j_csi [.long (((rH2 (I 48) n (sk (I 48) n q.1)).2).toInt64), .long ((1 : Int64)), .long ((19 : Int64))] hC hB hl.1 (c_X8_in l_ G (sr I 40 (uS o n (rH2 (I 48) n (sk (I 48) n q.1)))) J O (((rH2 (I 48) n (sk (I 48) n q.1)).2).toInt64) ((1 : Int64)) ((19 : Int64))) (va_cwS 3 hts gX8_takesHard_X8_in rfl rfl rfl (by decide +kernel) ⟨by decide, by decide⟩) dX8_takesHard_126 rfl rfl (Nat.le_of_ble_eq_true rfl) (fun r_126 u_126 H locs hp_126 hB => ?_)
      obtain ⟨rfl, rfl⟩ := hp_126
      refine j_eqi (y := b2 (inR (((rH2 (I 48) n (sk (I 48) n q.1)).2).toInt64) ((1 : Int64)) ((19 : Int64)))) (rfl) ?_
      refine lv_istore_n (lv' := [(2, .int (b2 (inR (((rH2 (I 48) n (sk (I 48) n q.1)).2).toInt64) ((1 : Int64)) ((19 : Int64))))), (1, .int (nI (((sk (I 48) n q.1, q.2)).1))), (0, .ref (G.2.2.1 (20, 0, 0)))]) hx hb dX8_takesHard_129 rfl hl (by decide) rfl (fun ls hl => ?_)
      refine lv_aload_n hx hb dX8_takesHard_130 rfl (lv_at hl 2 rfl) ?_
      refine lv_iload_n hx hb dX8_takesHard_131 rfl (lv_at hl 0 rfl) ?_
      refine jb_if_eq (tgt := 142) hx hb dX8_takesHard_132 (by decide) (fun c_132 => ?_) (fun c_132 => ?_)
      · refine lv_iload_n hx hb dX8_takesHard_142 rfl (lv_at hl 1 rfl) ?_
        refine j_put (20, 0, 0) 13 (u2 (sr I 40 (uS o n (rH2 (I 48) n (sk (I 48) n q.1)))) 40 3 (nI (((sk (I 48) n q.1, q.2)).1)), J, O) (ty := .int) hC hB in_X8 tyX8_ok nmX8 lk_203 dX8_takesHard_143 jk20 rfl rfl (by decide) rfl (by decide +kernel) rfl rfl (Nat.le_of_ble_eq_true rfl) (fun z hz hne => jw_fr z hz hne) (rfl) (fun H locs hB => ?_)
        have hB : jB G A s_.heap (sr I 40 (upd (uS o n (rH2 (I 48) n (sk (I 48) n q.1))) 3 (nI (((sk (I 48) n q.1, q.2)).1))), J, O) H locs := by rw [show sr I 40 (upd (uS o n (rH2 (I 48) n (sk (I 48) n q.1))) 3 (nI (((sk (I 48) n q.1, q.2)).1))) = u2 (sr I 40 (uS o n (rH2 (I 48) n (sk (I 48) n q.1)))) 40 3 (nI (((sk (I 48) n q.1, q.2)).1)) from (u2_sr _ _ _ _ _).symm]; exact hB
        have hB : jB G A s_.heap (sr I 40 (uS o n (sk (I 48) n q.1, (rH2 (I 48) n (sk (I 48) n q.1)).2)), J, O) H locs := by rw [← show upd (uS o n (rH2 (I 48) n (sk (I 48) n q.1))) 3 (nI (((sk (I 48) n q.1, q.2)).1)) = uS o n (sk (I 48) n q.1, (rH2 (I 48) n (sk (I 48) n q.1)).2) from uS_p]; exact hB
        refine lv_iload_n hx hb dX8_takesHard_146 rfl (lv_at hl 0 rfl) ?_
        refine jb_if_eq (tgt := 187) hx hb dX8_takesHard_147 (by decide) (fun c_147 => ?_) (fun c_147 => ?_)
        · refine lv_iconst (v := nI 0) hx hb dX8_takesHard_187 (by decide) ?_
          exact j_zret hC hB dX8_takesHard_188 (by decide) (⟨by rw [rHa, if_pos c_14, if_neg (by rw [c_132]; decide)]; rfl, by rw [rHa, if_pos c_14, if_neg (by rw [c_132]; decide)]⟩)
        · exact absurd (c_147.symm.trans c_132) (by decide)
      · refine lv_aload_n hx hb dX8_takesHard_135 rfl (lv_at hl 2 rfl) ?_
        refine j_get (20, 0, 0) 13 (v := .int ((sr I 40 (uS o n (rH2 (I 48) n (sk (I 48) n q.1)))) 40 3)) hC hB in_X8 lk_203 dX8_takesHard_136 jk20 rfl rfl (by decide) rfl ?_
        refine j_eqi (x := (sr I 40 (uS o n (rH2 (I 48) n (sk (I 48) n q.1)))) 40 3) (y := nI ((rH2 (I 48) n (sk (I 48) n q.1)).1)) (sr_sj.trans (uS_3)) ?_
        refine lv_goto (tgt := 143) hx hb dX8_takesHard_139 (by decide) ?_
        refine j_put (20, 0, 0) 13 (u2 (sr I 40 (uS o n (rH2 (I 48) n (sk (I 48) n q.1)))) 40 3 (nI ((rH2 (I 48) n (sk (I 48) n q.1)).1)), J, O) (ty := .int) hC hB in_X8 tyX8_ok nmX8 lk_203 dX8_takesHard_143 jk20 rfl rfl (by decide) rfl (by decide +kernel) rfl rfl (Nat.le_of_ble_eq_true rfl) (fun z hz hne => jw_fr z hz hne) (rfl) (fun H locs hB => ?_)
        have hB : jB G A s_.heap (sr I 40 (upd (uS o n (rH2 (I 48) n (sk (I 48) n q.1))) 3 (nI ((rH2 (I 48) n (sk (I 48) n q.1)).1))), J, O) H locs := by rw [show sr I 40 (upd (uS o n (rH2 (I 48) n (sk (I 48) n q.1))) 3 (nI ((rH2 (I 48) n (sk (I 48) n q.1)).1))) = u2 (sr I 40 (uS o n (rH2 (I 48) n (sk (I 48) n q.1)))) 40 3 (nI ((rH2 (I 48) n (sk (I 48) n q.1)).1)) from (u2_sr _ _ _ _ _).symm]; exact hB
        have hB : jB G A s_.heap (sr I 40 (uS o n (rH2 (I 48) n (sk (I 48) n q.1))), J, O) H locs := by rw [← show upd (uS o n (rH2 (I 48) n (sk (I 48) n q.1))) 3 (nI ((rH2 (I 48) n (sk (I 48) n q.1)).1)) = uS o n (rH2 (I 48) n (sk (I 48) n q.1)) from uS_p]; exact hB
        refine lv_iload_n hx hb dX8_takesHard_146 rfl (lv_at hl 0 rfl) ?_
        refine jb_if_eq (tgt := 187) hx hb dX8_takesHard_147 (by decide) (fun c_147 => ?_) (fun c_147 => ?_)
        · exact absurd (c_147.symm.trans c_132) (by decide)
        · refine lv_aload_n hx hb dX8_takesHard_150 rfl (lv_at hl 2 rfl) ?_
          refine j_get (20, 0, 0) 13 (v := .int ((sr I 40 (uS o n (rH2 (I 48) n (sk (I 48) n q.1)))) 40 3)) hC hB in_X8 lk_203 dX8_takesHard_151 jk20 rfl rfl (by decide) rfl ?_
          refine j_eqi (x := (sr I 40 (uS o n (rH2 (I 48) n (sk (I 48) n q.1)))) 40 3) (y := nI ((rH2 (I 48) n (sk (I 48) n q.1)).1)) (sr_sj.trans (uS_3)) ?_
          refine lv_aload_n hx hb dX8_takesHard_154 rfl (lv_at hl 2 rfl) ?_
          refine j_get (20, 0, 0) 12 (v := .int ((sr I 40 (uS o n (rH2 (I 48) n (sk (I 48) n q.1)))) 40 2)) hC hB in_X8 lk_200 dX8_takesHard_155 jk20 rfl rfl (by decide) rfl ?_
          refine j_eqi (x := (sr I 40 (uS o n (rH2 (I 48) n (sk (I 48) n q.1)))) 40 2) (y := nI n) (sr_sj.trans (uS_2)) ?_
          refine jn_icmp_eq (tgt := 183) hx hb dX8_takesHard_158 (by decide) (by omega) (by omega) (fun c_158 => ?_) (fun c_158 => ?_)
          · refine lv_iconst (v := nI 1) hx hb dX8_takesHard_183 (by decide) ?_
            refine lv_goto (tgt := 188) hx hb dX8_takesHard_184 (by decide) ?_
            exact j_zret hC hB dX8_takesHard_188 (by decide) (⟨by rw [rHa, if_pos c_14, if_pos c_132]; rw [decide_eq_true c_158]; rfl, by rw [rHa, if_pos c_14, if_pos c_132]⟩)
          · refine lv_aload_n hx hb dX8_takesHard_161 rfl (lv_at hl 2 rfl) ?_
            refine j_get (20, 0, 0) 11 (v := .ref (G.2.2.1 (21, 48, 0))) hC hB in_X8 lk_38 dX8_takesHard_162 jk20 rfl rfl (by decide) rfl ?_
            refine lv_aload_n hx hb dX8_takesHard_165 rfl (lv_at hl 2 rfl) ?_
            refine j_get (20, 0, 0) 13 (v := .int ((sr I 40 (uS o n (rH2 (I 48) n (sk (I 48) n q.1)))) 40 3)) hC hB in_X8 lk_203 dX8_takesHard_166 jk20 rfl rfl (by decide) rfl ?_
            refine j_eqi (x := (sr I 40 (uS o n (rH2 (I 48) n (sk (I 48) n q.1)))) 40 3) (y := nI ((rH2 (I 48) n (sk (I 48) n q.1)).1)) (sr_sj.trans (uS_3)) ?_
            refine j_iLd 48 ((rH2 (I 48) n (sk (I 48) n q.1)).1) hC hB dX8_takesHard_169 (by decide) rfl (by simp only [lenI_48]; omega) ?_
            refine j_eqi (x := (sr I 40 (uS o n (rH2 (I 48) n (sk (I 48) n q.1)))) 48 ((rH2 (I 48) n (sk (I 48) n q.1)).1)) (y := (I 48) ((rH2 (I 48) n (sk (I 48) n q.1)).1)) ((sr_nj (show (48 : Nat) ≠ 40 by omega))) ?_
            refine lv_i2l (v := ((I 48) ((rH2 (I 48) n (sk (I 48) n q.1)).1)).toInt64) hx hb dX8_takesHard_170 rfl ?_
            refine lv_ldc2 (v := 48) hx hb hown (hts (.constantLong RX8 209 (48)) (by decide +kernel)) dX8_takesHard_171 ?_
            refine lv_ldc2 (v := 57) hx hb hown (hts (.constantLong RX8 214 (57)) (by decide +kernel)) dX8_takesHard_174 ?_
            refine j_csi [.long (((I 48) ((rH2 (I 48) n (sk (I 48) n q.1)).1)).toInt64), .long ((48 : Int64)), .long ((57 : Int64))] hC hB hl.1 (c_X8_in l_ G (sr I 40 (uS o n (rH2 (I 48) n (sk (I 48) n q.1)))) J O (((I 48) ((rH2 (I 48) n (sk (I 48) n q.1)).1)).toInt64) ((48 : Int64)) ((57 : Int64))) (va_cwS 3 hts gX8_takesHard_X8_in rfl rfl rfl (by decide +kernel) ⟨by decide, by decide⟩) dX8_takesHard_177 rfl rfl (Nat.le_of_ble_eq_true rfl) (fun r_177 u_177 H locs hp_177 hB => ?_)
            obtain ⟨rfl, rfl⟩ := hp_177
            refine j_eqi (y := b2 (inR (((I 48) ((rH2 (I 48) n (sk (I 48) n q.1)).1)).toInt64) ((48 : Int64)) ((57 : Int64)))) (rfl) ?_
            refine j_eqi (y := b2 (dgB (I 48 (rH2 (I 48) n (sk (I 48) n q.1)).1))) (rfl) ?_
            refine jb_if_ne (tgt := 187) hx hb dX8_takesHard_180 (by decide) (fun c_180 => ?_) (fun c_180 => ?_)
            · refine lv_iconst (v := nI 0) hx hb dX8_takesHard_187 (by decide) ?_
              exact j_zret hC hB dX8_takesHard_188 (by decide) (⟨by rw [rHa, if_pos c_14, if_pos c_132]; rw [decide_eq_false c_158, c_180]; rfl, by rw [rHa, if_pos c_14, if_pos c_132]⟩)
            · refine lv_iconst (v := nI 1) hx hb dX8_takesHard_183 (by decide) ?_
              refine lv_goto (tgt := 188) hx hb dX8_takesHard_184 (by decide) ?_
              exact j_zret hC hB dX8_takesHard_188 (by decide) (⟨by rw [rHa, if_pos c_14, if_pos c_132]; rw [decide_eq_false c_158, c_180]; rfl, by rw [rHa, if_pos c_14, if_pos c_132]⟩)
    · refine lv_aload_n hx hb dX8_takesHard_61 rfl (lv_at hl 1 rfl) ?_
      refine j_get (20, 0, 0) 11 (v := .ref (G.2.2.1 (21, 48, 0))) hC hB in_X8 lk_38 dX8_takesHard_62 jk20 rfl rfl (by decide) rfl ?_
      refine lv_aload_n hx hb dX8_takesHard_65 rfl (lv_at hl 1 rfl) ?_
      refine j_get (20, 0, 0) 13 (v := .int ((sr I 40 (uS o n (sk (I 48) n q.1 + 1, I 48 (sk (I 48) n q.1) - nI 48))) 40 3)) hC hB in_X8 lk_203 dX8_takesHard_66 jk20 rfl rfl (by decide) rfl ?_
      refine j_eqi (x := (sr I 40 (uS o n (sk (I 48) n q.1 + 1, I 48 (sk (I 48) n q.1) - nI 48))) 40 3) (y := nI ((sk (I 48) n q.1 + 1, I 48 (sk (I 48) n q.1) - nI 48).1)) (sr_sj.trans (uS_3)) ?_
      refine j_iLd 48 ((sk (I 48) n q.1 + 1, I 48 (sk (I 48) n q.1) - nI 48).1) hC hB dX8_takesHard_69 (by decide) rfl (by simp only [lenI_48]; omega) ?_
      refine j_eqi (x := (sr I 40 (uS o n (sk (I 48) n q.1 + 1, I 48 (sk (I 48) n q.1) - nI 48))) 48 ((sk (I 48) n q.1 + 1, I 48 (sk (I 48) n q.1) - nI 48).1)) (y := (I 48) ((sk (I 48) n q.1 + 1, I 48 (sk (I 48) n q.1) - nI 48).1)) ((sr_nj (show (48 : Nat) ≠ 40 by omega))) ?_
      refine lv_i2l (v := ((I 48) ((sk (I 48) n q.1 + 1, I 48 (sk (I 48) n q.1) - nI 48).1)).toInt64) hx hb dX8_takesHard_70 rfl ?_
      refine lv_ldc2 (v := 48) hx hb hown (hts (.constantLong RX8 209 (48)) (by decide +kernel)) dX8_takesHard_71 ?_
      refine lv_ldc2 (v := 57) hx hb hown (hts (.constantLong RX8 214 (57)) (by decide +kernel)) dX8_takesHard_74 ?_
      refine j_csi [.long (((I 48) ((sk (I 48) n q.1 + 1, I 48 (sk (I 48) n q.1) - nI 48).1)).toInt64), .long ((48 : Int64)), .long ((57 : Int64))] hC hB hl.1 (c_X8_in l_ G (sr I 40 (uS o n (sk (I 48) n q.1 + 1, I 48 (sk (I 48) n q.1) - nI 48))) J O (((I 48) ((sk (I 48) n q.1 + 1, I 48 (sk (I 48) n q.1) - nI 48).1)).toInt64) ((48 : Int64)) ((57 : Int64))) (va_cwS 3 hts gX8_takesHard_X8_in rfl rfl rfl (by decide +kernel) ⟨by decide, by decide⟩) dX8_takesHard_77 rfl rfl (Nat.le_of_ble_eq_true rfl) (fun r_77 u_77 H locs hp_77 hB => ?_)
      obtain ⟨rfl, rfl⟩ := hp_77
      refine j_eqi (y := b2 (inR (((I 48) ((sk (I 48) n q.1 + 1, I 48 (sk (I 48) n q.1) - nI 48).1)).toInt64) ((48 : Int64)) ((57 : Int64)))) (rfl) ?_
      refine j_eqi (y := b2 (dgB (I 48 (sk (I 48) n q.1 + 1)))) (rfl) ?_
      refine jb_if_eq (tgt := 117) hx hb dX8_takesHard_80 (by decide) (fun c_80 => ?_) (fun c_80 => ?_)
      · have hB : jB G A s_.heap (sr I 40 (uS o n (rH2 (I 48) n (sk (I 48) n q.1))), J, O) H locs := by rw [← show uS o n (sk (I 48) n q.1 + 1, I 48 (sk (I 48) n q.1) - nI 48) = uS o n (rH2 (I 48) n (sk (I 48) n q.1)) from by rw [rH2, if_neg (fun z => absurd (z.2.symm.trans c_80) (by decide))]]; exact hB
        have hh2 := rH2_le (t := I 48) hk
        refine lv_aload_n hx hb dX8_takesHard_117 rfl (lv_at hl 1 rfl) ?_
        refine j_get (20, 0, 0) 15 (v := .int ((sr I 40 (uS o n (rH2 (I 48) n (sk (I 48) n q.1)))) 40 4)) hC hB in_X8 lk_211 dX8_takesHard_118 jk20 rfl rfl (by decide) rfl ?_
        refine j_eqi (x := (sr I 40 (uS o n (rH2 (I 48) n (sk (I 48) n q.1)))) 40 4) (y := (rH2 (I 48) n (sk (I 48) n q.1)).2) (sr_sj.trans (uS_4)) ?_
        refine lv_i2l (v := ((rH2 (I 48) n (sk (I 48) n q.1)).2).toInt64) hx hb dX8_takesHard_121 rfl ?_
        refine lv_lconst (v := 1) hx hb dX8_takesHard_122 rfl ?_
        refine lv_ldc2 (v := 19) hx hb hown (hts (.constantLong RX8 77 (19)) (by decide +kernel)) dX8_takesHard_123 ?_
        refine j_csi [.long (((rH2 (I 48) n (sk (I 48) n q.1)).2).toInt64), .long ((1 : Int64)), .long ((19 : Int64))] hC hB hl.1 (c_X8_in l_ G (sr I 40 (uS o n (rH2 (I 48) n (sk (I 48) n q.1)))) J O (((rH2 (I 48) n (sk (I 48) n q.1)).2).toInt64) ((1 : Int64)) ((19 : Int64))) (va_cwS 3 hts gX8_takesHard_X8_in rfl rfl rfl (by decide +kernel) ⟨by decide, by decide⟩) dX8_takesHard_126 rfl rfl (Nat.le_of_ble_eq_true rfl) (fun r_126 u_126 H locs hp_126 hB => ?_)
        obtain ⟨rfl, rfl⟩ := hp_126
        refine j_eqi (y := b2 (inR (((rH2 (I 48) n (sk (I 48) n q.1)).2).toInt64) ((1 : Int64)) ((19 : Int64)))) (rfl) ?_
        refine lv_istore_n (lv' := [(2, .int (b2 (inR (((rH2 (I 48) n (sk (I 48) n q.1)).2).toInt64) ((1 : Int64)) ((19 : Int64))))), (1, .int (nI (((sk (I 48) n q.1, q.2)).1))), (0, .ref (G.2.2.1 (20, 0, 0)))]) hx hb dX8_takesHard_129 rfl hl (by decide) rfl (fun ls hl => ?_)
        refine lv_aload_n hx hb dX8_takesHard_130 rfl (lv_at hl 2 rfl) ?_
        refine lv_iload_n hx hb dX8_takesHard_131 rfl (lv_at hl 0 rfl) ?_
        refine jb_if_eq (tgt := 142) hx hb dX8_takesHard_132 (by decide) (fun c_132 => ?_) (fun c_132 => ?_)
        · refine lv_iload_n hx hb dX8_takesHard_142 rfl (lv_at hl 1 rfl) ?_
          refine j_put (20, 0, 0) 13 (u2 (sr I 40 (uS o n (rH2 (I 48) n (sk (I 48) n q.1)))) 40 3 (nI (((sk (I 48) n q.1, q.2)).1)), J, O) (ty := .int) hC hB in_X8 tyX8_ok nmX8 lk_203 dX8_takesHard_143 jk20 rfl rfl (by decide) rfl (by decide +kernel) rfl rfl (Nat.le_of_ble_eq_true rfl) (fun z hz hne => jw_fr z hz hne) (rfl) (fun H locs hB => ?_)
          have hB : jB G A s_.heap (sr I 40 (upd (uS o n (rH2 (I 48) n (sk (I 48) n q.1))) 3 (nI (((sk (I 48) n q.1, q.2)).1))), J, O) H locs := by rw [show sr I 40 (upd (uS o n (rH2 (I 48) n (sk (I 48) n q.1))) 3 (nI (((sk (I 48) n q.1, q.2)).1))) = u2 (sr I 40 (uS o n (rH2 (I 48) n (sk (I 48) n q.1)))) 40 3 (nI (((sk (I 48) n q.1, q.2)).1)) from (u2_sr _ _ _ _ _).symm]; exact hB
          have hB : jB G A s_.heap (sr I 40 (uS o n (sk (I 48) n q.1, (rH2 (I 48) n (sk (I 48) n q.1)).2)), J, O) H locs := by rw [← show upd (uS o n (rH2 (I 48) n (sk (I 48) n q.1))) 3 (nI (((sk (I 48) n q.1, q.2)).1)) = uS o n (sk (I 48) n q.1, (rH2 (I 48) n (sk (I 48) n q.1)).2) from uS_p]; exact hB
          refine lv_iload_n hx hb dX8_takesHard_146 rfl (lv_at hl 0 rfl) ?_
          refine jb_if_eq (tgt := 187) hx hb dX8_takesHard_147 (by decide) (fun c_147 => ?_) (fun c_147 => ?_)
          · refine lv_iconst (v := nI 0) hx hb dX8_takesHard_187 (by decide) ?_
            exact j_zret hC hB dX8_takesHard_188 (by decide) (⟨by rw [rHa, if_pos c_14, if_neg (by rw [c_132]; decide)]; rfl, by rw [rHa, if_pos c_14, if_neg (by rw [c_132]; decide)]⟩)
          · exact absurd (c_147.symm.trans c_132) (by decide)
        · refine lv_aload_n hx hb dX8_takesHard_135 rfl (lv_at hl 2 rfl) ?_
          refine j_get (20, 0, 0) 13 (v := .int ((sr I 40 (uS o n (rH2 (I 48) n (sk (I 48) n q.1)))) 40 3)) hC hB in_X8 lk_203 dX8_takesHard_136 jk20 rfl rfl (by decide) rfl ?_
          refine j_eqi (x := (sr I 40 (uS o n (rH2 (I 48) n (sk (I 48) n q.1)))) 40 3) (y := nI ((rH2 (I 48) n (sk (I 48) n q.1)).1)) (sr_sj.trans (uS_3)) ?_
          refine lv_goto (tgt := 143) hx hb dX8_takesHard_139 (by decide) ?_
          refine j_put (20, 0, 0) 13 (u2 (sr I 40 (uS o n (rH2 (I 48) n (sk (I 48) n q.1)))) 40 3 (nI ((rH2 (I 48) n (sk (I 48) n q.1)).1)), J, O) (ty := .int) hC hB in_X8 tyX8_ok nmX8 lk_203 dX8_takesHard_143 jk20 rfl rfl (by decide) rfl (by decide +kernel) rfl rfl (Nat.le_of_ble_eq_true rfl) (fun z hz hne => jw_fr z hz hne) (rfl) (fun H locs hB => ?_)
          have hB : jB G A s_.heap (sr I 40 (upd (uS o n (rH2 (I 48) n (sk (I 48) n q.1))) 3 (nI ((rH2 (I 48) n (sk (I 48) n q.1)).1))), J, O) H locs := by rw [show sr I 40 (upd (uS o n (rH2 (I 48) n (sk (I 48) n q.1))) 3 (nI ((rH2 (I 48) n (sk (I 48) n q.1)).1))) = u2 (sr I 40 (uS o n (rH2 (I 48) n (sk (I 48) n q.1)))) 40 3 (nI ((rH2 (I 48) n (sk (I 48) n q.1)).1)) from (u2_sr _ _ _ _ _).symm]; exact hB
          have hB : jB G A s_.heap (sr I 40 (uS o n (rH2 (I 48) n (sk (I 48) n q.1))), J, O) H locs := by rw [← show upd (uS o n (rH2 (I 48) n (sk (I 48) n q.1))) 3 (nI ((rH2 (I 48) n (sk (I 48) n q.1)).1)) = uS o n (rH2 (I 48) n (sk (I 48) n q.1)) from uS_p]; exact hB
          refine lv_iload_n hx hb dX8_takesHard_146 rfl (lv_at hl 0 rfl) ?_
          refine jb_if_eq (tgt := 187) hx hb dX8_takesHard_147 (by decide) (fun c_147 => ?_) (fun c_147 => ?_)
          · exact absurd (c_147.symm.trans c_132) (by decide)
          · refine lv_aload_n hx hb dX8_takesHard_150 rfl (lv_at hl 2 rfl) ?_
            refine j_get (20, 0, 0) 13 (v := .int ((sr I 40 (uS o n (rH2 (I 48) n (sk (I 48) n q.1)))) 40 3)) hC hB in_X8 lk_203 dX8_takesHard_151 jk20 rfl rfl (by decide) rfl ?_
            refine j_eqi (x := (sr I 40 (uS o n (rH2 (I 48) n (sk (I 48) n q.1)))) 40 3) (y := nI ((rH2 (I 48) n (sk (I 48) n q.1)).1)) (sr_sj.trans (uS_3)) ?_
            refine lv_aload_n hx hb dX8_takesHard_154 rfl (lv_at hl 2 rfl) ?_
            refine j_get (20, 0, 0) 12 (v := .int ((sr I 40 (uS o n (rH2 (I 48) n (sk (I 48) n q.1)))) 40 2)) hC hB in_X8 lk_200 dX8_takesHard_155 jk20 rfl rfl (by decide) rfl ?_
            refine j_eqi (x := (sr I 40 (uS o n (rH2 (I 48) n (sk (I 48) n q.1)))) 40 2) (y := nI n) (sr_sj.trans (uS_2)) ?_
            refine jn_icmp_eq (tgt := 183) hx hb dX8_takesHard_158 (by decide) (by omega) (by omega) (fun c_158 => ?_) (fun c_158 => ?_)
            · refine lv_iconst (v := nI 1) hx hb dX8_takesHard_183 (by decide) ?_
              refine lv_goto (tgt := 188) hx hb dX8_takesHard_184 (by decide) ?_
              exact j_zret hC hB dX8_takesHard_188 (by decide) (⟨by rw [rHa, if_pos c_14, if_pos c_132]; rw [decide_eq_true c_158]; rfl, by rw [rHa, if_pos c_14, if_pos c_132]⟩)
            · refine lv_aload_n hx hb dX8_takesHard_161 rfl (lv_at hl 2 rfl) ?_
              refine j_get (20, 0, 0) 11 (v := .ref (G.2.2.1 (21, 48, 0))) hC hB in_X8 lk_38 dX8_takesHard_162 jk20 rfl rfl (by decide) rfl ?_
              refine lv_aload_n hx hb dX8_takesHard_165 rfl (lv_at hl 2 rfl) ?_
              refine j_get (20, 0, 0) 13 (v := .int ((sr I 40 (uS o n (rH2 (I 48) n (sk (I 48) n q.1)))) 40 3)) hC hB in_X8 lk_203 dX8_takesHard_166 jk20 rfl rfl (by decide) rfl ?_
              refine j_eqi (x := (sr I 40 (uS o n (rH2 (I 48) n (sk (I 48) n q.1)))) 40 3) (y := nI ((rH2 (I 48) n (sk (I 48) n q.1)).1)) (sr_sj.trans (uS_3)) ?_
              refine j_iLd 48 ((rH2 (I 48) n (sk (I 48) n q.1)).1) hC hB dX8_takesHard_169 (by decide) rfl (by simp only [lenI_48]; omega) ?_
              refine j_eqi (x := (sr I 40 (uS o n (rH2 (I 48) n (sk (I 48) n q.1)))) 48 ((rH2 (I 48) n (sk (I 48) n q.1)).1)) (y := (I 48) ((rH2 (I 48) n (sk (I 48) n q.1)).1)) ((sr_nj (show (48 : Nat) ≠ 40 by omega))) ?_
              refine lv_i2l (v := ((I 48) ((rH2 (I 48) n (sk (I 48) n q.1)).1)).toInt64) hx hb dX8_takesHard_170 rfl ?_
              refine lv_ldc2 (v := 48) hx hb hown (hts (.constantLong RX8 209 (48)) (by decide +kernel)) dX8_takesHard_171 ?_
              refine lv_ldc2 (v := 57) hx hb hown (hts (.constantLong RX8 214 (57)) (by decide +kernel)) dX8_takesHard_174 ?_
              refine j_csi [.long (((I 48) ((rH2 (I 48) n (sk (I 48) n q.1)).1)).toInt64), .long ((48 : Int64)), .long ((57 : Int64))] hC hB hl.1 (c_X8_in l_ G (sr I 40 (uS o n (rH2 (I 48) n (sk (I 48) n q.1)))) J O (((I 48) ((rH2 (I 48) n (sk (I 48) n q.1)).1)).toInt64) ((48 : Int64)) ((57 : Int64))) (va_cwS 3 hts gX8_takesHard_X8_in rfl rfl rfl (by decide +kernel) ⟨by decide, by decide⟩) dX8_takesHard_177 rfl rfl (Nat.le_of_ble_eq_true rfl) (fun r_177 u_177 H locs hp_177 hB => ?_)
              obtain ⟨rfl, rfl⟩ := hp_177
              refine j_eqi (y := b2 (inR (((I 48) ((rH2 (I 48) n (sk (I 48) n q.1)).1)).toInt64) ((48 : Int64)) ((57 : Int64)))) (rfl) ?_
              refine j_eqi (y := b2 (dgB (I 48 (rH2 (I 48) n (sk (I 48) n q.1)).1))) (rfl) ?_
              refine jb_if_ne (tgt := 187) hx hb dX8_takesHard_180 (by decide) (fun c_180 => ?_) (fun c_180 => ?_)
              · refine lv_iconst (v := nI 0) hx hb dX8_takesHard_187 (by decide) ?_
                exact j_zret hC hB dX8_takesHard_188 (by decide) (⟨by rw [rHa, if_pos c_14, if_pos c_132]; rw [decide_eq_false c_158, c_180]; rfl, by rw [rHa, if_pos c_14, if_pos c_132]⟩)
              · refine lv_iconst (v := nI 1) hx hb dX8_takesHard_183 (by decide) ?_
                refine lv_goto (tgt := 188) hx hb dX8_takesHard_184 (by decide) ?_
                exact j_zret hC hB dX8_takesHard_188 (by decide) (⟨by rw [rHa, if_pos c_14, if_pos c_132]; rw [decide_eq_false c_158, c_180]; rfl, by rw [rHa, if_pos c_14, if_pos c_132]⟩)
      · refine lv_aload_n hx hb dX8_takesHard_83 rfl (lv_at hl 1 rfl) ?_
        refine lv_bipush (v := nI 10) hx hb dX8_takesHard_84 (by decide) ?_
        refine lv_aload_n hx hb dX8_takesHard_86 rfl (lv_at hl 1 rfl) ?_
        refine j_get (20, 0, 0) 15 (v := .int ((sr I 40 (uS o n (sk (I 48) n q.1 + 1, I 48 (sk (I 48) n q.1) - nI 48))) 40 4)) hC hB in_X8 lk_211 dX8_takesHard_87 jk20 rfl rfl (by decide) rfl ?_
        refine j_eqi (x := (sr I 40 (uS o n (sk (I 48) n q.1 + 1, I 48 (sk (I 48) n q.1) - nI 48))) 40 4) (y := (sk (I 48) n q.1 + 1, I 48 (sk (I 48) n q.1) - nI 48).2) (sr_sj.trans (uS_4)) ?_
        refine lv_imul hx hb dX8_takesHard_90 ?_
        refine lv_aload_n hx hb dX8_takesHard_91 rfl (lv_at hl 1 rfl) ?_
        refine j_get (20, 0, 0) 11 (v := .ref (G.2.2.1 (21, 48, 0))) hC hB in_X8 lk_38 dX8_takesHard_92 jk20 rfl rfl (by decide) rfl ?_
        refine lv_aload_n hx hb dX8_takesHard_95 rfl (lv_at hl 1 rfl) ?_
        refine j_get (20, 0, 0) 13 (v := .int ((sr I 40 (uS o n (sk (I 48) n q.1 + 1, I 48 (sk (I 48) n q.1) - nI 48))) 40 3)) hC hB in_X8 lk_203 dX8_takesHard_96 jk20 rfl rfl (by decide) rfl ?_
        refine j_eqi (x := (sr I 40 (uS o n (sk (I 48) n q.1 + 1, I 48 (sk (I 48) n q.1) - nI 48))) 40 3) (y := nI ((sk (I 48) n q.1 + 1, I 48 (sk (I 48) n q.1) - nI 48).1)) (sr_sj.trans (uS_3)) ?_
        refine j_iLd 48 ((sk (I 48) n q.1 + 1, I 48 (sk (I 48) n q.1) - nI 48).1) hC hB dX8_takesHard_99 (by decide) rfl (by simp only [lenI_48]; omega) ?_
        refine j_eqi (x := (sr I 40 (uS o n (sk (I 48) n q.1 + 1, I 48 (sk (I 48) n q.1) - nI 48))) 48 ((sk (I 48) n q.1 + 1, I 48 (sk (I 48) n q.1) - nI 48).1)) (y := (I 48) ((sk (I 48) n q.1 + 1, I 48 (sk (I 48) n q.1) - nI 48).1)) ((sr_nj (show (48 : Nat) ≠ 40 by omega))) ?_
        refine lv_iadd hx hb dX8_takesHard_100 ?_
        refine lv_bipush (v := nI 48) hx hb dX8_takesHard_101 (by decide) ?_
        refine lv_isub hx hb dX8_takesHard_103 ?_
        refine j_put (20, 0, 0) 15 (u2 (sr I 40 (uS o n (sk (I 48) n q.1 + 1, I 48 (sk (I 48) n q.1) - nI 48))) 40 4 ((((nI 10) * ((sk (I 48) n q.1 + 1, I 48 (sk (I 48) n q.1) - nI 48).2)) + ((I 48) ((sk (I 48) n q.1 + 1, I 48 (sk (I 48) n q.1) - nI 48).1))) - (nI 48)), J, O) (ty := .int) hC hB in_X8 tyX8_ok nmX8 lk_211 dX8_takesHard_104 jk20 rfl rfl (by decide) rfl (by decide +kernel) rfl rfl (Nat.le_of_ble_eq_true rfl) (fun z hz hne => jw_fr z hz hne) (rfl) (fun H locs hB => ?_)
        have hB : jB G A s_.heap (sr I 40 (upd (uS o n (sk (I 48) n q.1 + 1, I 48 (sk (I 48) n q.1) - nI 48)) 4 ((((nI 10) * ((sk (I 48) n q.1 + 1, I 48 (sk (I 48) n q.1) - nI 48).2)) + ((I 48) ((sk (I 48) n q.1 + 1, I 48 (sk (I 48) n q.1) - nI 48).1))) - (nI 48))), J, O) H locs := by rw [show sr I 40 (upd (uS o n (sk (I 48) n q.1 + 1, I 48 (sk (I 48) n q.1) - nI 48)) 4 ((((nI 10) * ((sk (I 48) n q.1 + 1, I 48 (sk (I 48) n q.1) - nI 48).2)) + ((I 48) ((sk (I 48) n q.1 + 1, I 48 (sk (I 48) n q.1) - nI 48).1))) - (nI 48))) = u2 (sr I 40 (uS o n (sk (I 48) n q.1 + 1, I 48 (sk (I 48) n q.1) - nI 48))) 40 4 ((((nI 10) * ((sk (I 48) n q.1 + 1, I 48 (sk (I 48) n q.1) - nI 48).2)) + ((I 48) ((sk (I 48) n q.1 + 1, I 48 (sk (I 48) n q.1) - nI 48).1))) - (nI 48)) from (u2_sr _ _ _ _ _).symm]; exact hB
        have hB : jB G A s_.heap (sr I 40 (uS o n (sk (I 48) n q.1 + 1, nI 10 * (I 48 (sk (I 48) n q.1) - nI 48) + I 48 (sk (I 48) n q.1 + 1) - nI 48)), J, O) H locs := by rw [← show upd (uS o n (sk (I 48) n q.1 + 1, I 48 (sk (I 48) n q.1) - nI 48)) 4 ((((nI 10) * ((sk (I 48) n q.1 + 1, I 48 (sk (I 48) n q.1) - nI 48).2)) + ((I 48) ((sk (I 48) n q.1 + 1, I 48 (sk (I 48) n q.1) - nI 48).1))) - (nI 48)) = uS o n (sk (I 48) n q.1 + 1, nI 10 * (I 48 (sk (I 48) n q.1) - nI 48) + I 48 (sk (I 48) n q.1 + 1) - nI 48) from uS_v]; exact hB
        refine lv_aload_n hx hb dX8_takesHard_107 rfl (lv_at hl 1 rfl) ?_
        refine lv_dup hx hb dX8_takesHard_108 rfl ?_
        refine j_get (20, 0, 0) 13 (v := .int ((sr I 40 (uS o n (sk (I 48) n q.1 + 1, nI 10 * (I 48 (sk (I 48) n q.1) - nI 48) + I 48 (sk (I 48) n q.1 + 1) - nI 48))) 40 3)) hC hB in_X8 lk_203 dX8_takesHard_109 jk20 rfl rfl (by decide) rfl ?_
        refine j_eqi (x := (sr I 40 (uS o n (sk (I 48) n q.1 + 1, nI 10 * (I 48 (sk (I 48) n q.1) - nI 48) + I 48 (sk (I 48) n q.1 + 1) - nI 48))) 40 3) (y := nI ((sk (I 48) n q.1 + 1, nI 10 * (I 48 (sk (I 48) n q.1) - nI 48) + I 48 (sk (I 48) n q.1 + 1) - nI 48).1)) (sr_sj.trans (uS_3)) ?_
        refine lv_iconst (v := nI 1) hx hb dX8_takesHard_112 (by decide) ?_
        refine jn_iadd hx hb dX8_takesHard_113 ?_
        refine j_put (20, 0, 0) 13 (u2 (sr I 40 (uS o n (sk (I 48) n q.1 + 1, nI 10 * (I 48 (sk (I 48) n q.1) - nI 48) + I 48 (sk (I 48) n q.1 + 1) - nI 48))) 40 3 (nI ((sk (I 48) n q.1 + 1, nI 10 * (I 48 (sk (I 48) n q.1) - nI 48) + I 48 (sk (I 48) n q.1 + 1) - nI 48).1 + 1)), J, O) (ty := .int) hC hB in_X8 tyX8_ok nmX8 lk_203 dX8_takesHard_114 jk20 rfl rfl (by decide) rfl (by decide +kernel) rfl rfl (Nat.le_of_ble_eq_true rfl) (fun z hz hne => jw_fr z hz hne) (rfl) (fun H locs hB => ?_)
        have hB : jB G A s_.heap (sr I 40 (upd (uS o n (sk (I 48) n q.1 + 1, nI 10 * (I 48 (sk (I 48) n q.1) - nI 48) + I 48 (sk (I 48) n q.1 + 1) - nI 48)) 3 (nI ((sk (I 48) n q.1 + 1, nI 10 * (I 48 (sk (I 48) n q.1) - nI 48) + I 48 (sk (I 48) n q.1 + 1) - nI 48).1 + 1))), J, O) H locs := by rw [show sr I 40 (upd (uS o n (sk (I 48) n q.1 + 1, nI 10 * (I 48 (sk (I 48) n q.1) - nI 48) + I 48 (sk (I 48) n q.1 + 1) - nI 48)) 3 (nI ((sk (I 48) n q.1 + 1, nI 10 * (I 48 (sk (I 48) n q.1) - nI 48) + I 48 (sk (I 48) n q.1 + 1) - nI 48).1 + 1))) = u2 (sr I 40 (uS o n (sk (I 48) n q.1 + 1, nI 10 * (I 48 (sk (I 48) n q.1) - nI 48) + I 48 (sk (I 48) n q.1 + 1) - nI 48))) 40 3 (nI ((sk (I 48) n q.1 + 1, nI 10 * (I 48 (sk (I 48) n q.1) - nI 48) + I 48 (sk (I 48) n q.1 + 1) - nI 48).1 + 1)) from (u2_sr _ _ _ _ _).symm]; exact hB
        have hB : jB G A s_.heap (sr I 40 (uS o n (sk (I 48) n q.1 + 1 + 1, nI 10 * (I 48 (sk (I 48) n q.1) - nI 48) + I 48 (sk (I 48) n q.1 + 1) - nI 48)), J, O) H locs := by rw [← show upd (uS o n (sk (I 48) n q.1 + 1, nI 10 * (I 48 (sk (I 48) n q.1) - nI 48) + I 48 (sk (I 48) n q.1 + 1) - nI 48)) 3 (nI ((sk (I 48) n q.1 + 1, nI 10 * (I 48 (sk (I 48) n q.1) - nI 48) + I 48 (sk (I 48) n q.1 + 1) - nI 48).1 + 1)) = uS o n (sk (I 48) n q.1 + 1 + 1, nI 10 * (I 48 (sk (I 48) n q.1) - nI 48) + I 48 (sk (I 48) n q.1 + 1) - nI 48) from uS_p]; exact hB
        have hB : jB G A s_.heap (sr I 40 (uS o n (rH2 (I 48) n (sk (I 48) n q.1))), J, O) H locs := by rw [← show uS o n (sk (I 48) n q.1 + 1 + 1, nI 10 * (I 48 (sk (I 48) n q.1) - nI 48) + I 48 (sk (I 48) n q.1 + 1) - nI 48) = uS o n (rH2 (I 48) n (sk (I 48) n q.1)) from by rw [rH2, if_pos ⟨c_58, c_80⟩]]; exact hB
        have hh2 := rH2_le (t := I 48) hk
        refine lv_aload_n hx hb dX8_takesHard_117 rfl (lv_at hl 1 rfl) ?_
        refine j_get (20, 0, 0) 15 (v := .int ((sr I 40 (uS o n (rH2 (I 48) n (sk (I 48) n q.1)))) 40 4)) hC hB in_X8 lk_211 dX8_takesHard_118 jk20 rfl rfl (by decide) rfl ?_
        refine j_eqi (x := (sr I 40 (uS o n (rH2 (I 48) n (sk (I 48) n q.1)))) 40 4) (y := (rH2 (I 48) n (sk (I 48) n q.1)).2) (sr_sj.trans (uS_4)) ?_
        refine lv_i2l (v := ((rH2 (I 48) n (sk (I 48) n q.1)).2).toInt64) hx hb dX8_takesHard_121 rfl ?_
        refine lv_lconst (v := 1) hx hb dX8_takesHard_122 rfl ?_
        refine lv_ldc2 (v := 19) hx hb hown (hts (.constantLong RX8 77 (19)) (by decide +kernel)) dX8_takesHard_123 ?_
        refine j_csi [.long (((rH2 (I 48) n (sk (I 48) n q.1)).2).toInt64), .long ((1 : Int64)), .long ((19 : Int64))] hC hB hl.1 (c_X8_in l_ G (sr I 40 (uS o n (rH2 (I 48) n (sk (I 48) n q.1)))) J O (((rH2 (I 48) n (sk (I 48) n q.1)).2).toInt64) ((1 : Int64)) ((19 : Int64))) (va_cwS 3 hts gX8_takesHard_X8_in rfl rfl rfl (by decide +kernel) ⟨by decide, by decide⟩) dX8_takesHard_126 rfl rfl (Nat.le_of_ble_eq_true rfl) (fun r_126 u_126 H locs hp_126 hB => ?_)
        obtain ⟨rfl, rfl⟩ := hp_126
        refine j_eqi (y := b2 (inR (((rH2 (I 48) n (sk (I 48) n q.1)).2).toInt64) ((1 : Int64)) ((19 : Int64)))) (rfl) ?_
        refine lv_istore_n (lv' := [(2, .int (b2 (inR (((rH2 (I 48) n (sk (I 48) n q.1)).2).toInt64) ((1 : Int64)) ((19 : Int64))))), (1, .int (nI (((sk (I 48) n q.1, q.2)).1))), (0, .ref (G.2.2.1 (20, 0, 0)))]) hx hb dX8_takesHard_129 rfl hl (by decide) rfl (fun ls hl => ?_)
        refine lv_aload_n hx hb dX8_takesHard_130 rfl (lv_at hl 2 rfl) ?_
        refine lv_iload_n hx hb dX8_takesHard_131 rfl (lv_at hl 0 rfl) ?_
        refine jb_if_eq (tgt := 142) hx hb dX8_takesHard_132 (by decide) (fun c_132 => ?_) (fun c_132 => ?_)
        · refine lv_iload_n hx hb dX8_takesHard_142 rfl (lv_at hl 1 rfl) ?_
          refine j_put (20, 0, 0) 13 (u2 (sr I 40 (uS o n (rH2 (I 48) n (sk (I 48) n q.1)))) 40 3 (nI (((sk (I 48) n q.1, q.2)).1)), J, O) (ty := .int) hC hB in_X8 tyX8_ok nmX8 lk_203 dX8_takesHard_143 jk20 rfl rfl (by decide) rfl (by decide +kernel) rfl rfl (Nat.le_of_ble_eq_true rfl) (fun z hz hne => jw_fr z hz hne) (rfl) (fun H locs hB => ?_)
          have hB : jB G A s_.heap (sr I 40 (upd (uS o n (rH2 (I 48) n (sk (I 48) n q.1))) 3 (nI (((sk (I 48) n q.1, q.2)).1))), J, O) H locs := by rw [show sr I 40 (upd (uS o n (rH2 (I 48) n (sk (I 48) n q.1))) 3 (nI (((sk (I 48) n q.1, q.2)).1))) = u2 (sr I 40 (uS o n (rH2 (I 48) n (sk (I 48) n q.1)))) 40 3 (nI (((sk (I 48) n q.1, q.2)).1)) from (u2_sr _ _ _ _ _).symm]; exact hB
          have hB : jB G A s_.heap (sr I 40 (uS o n (sk (I 48) n q.1, (rH2 (I 48) n (sk (I 48) n q.1)).2)), J, O) H locs := by rw [← show upd (uS o n (rH2 (I 48) n (sk (I 48) n q.1))) 3 (nI (((sk (I 48) n q.1, q.2)).1)) = uS o n (sk (I 48) n q.1, (rH2 (I 48) n (sk (I 48) n q.1)).2) from uS_p]; exact hB
          refine lv_iload_n hx hb dX8_takesHard_146 rfl (lv_at hl 0 rfl) ?_
          refine jb_if_eq (tgt := 187) hx hb dX8_takesHard_147 (by decide) (fun c_147 => ?_) (fun c_147 => ?_)
          · refine lv_iconst (v := nI 0) hx hb dX8_takesHard_187 (by decide) ?_
            exact j_zret hC hB dX8_takesHard_188 (by decide) (⟨by rw [rHa, if_pos c_14, if_neg (by rw [c_132]; decide)]; rfl, by rw [rHa, if_pos c_14, if_neg (by rw [c_132]; decide)]⟩)
          · exact absurd (c_147.symm.trans c_132) (by decide)
        · refine lv_aload_n hx hb dX8_takesHard_135 rfl (lv_at hl 2 rfl) ?_
          refine j_get (20, 0, 0) 13 (v := .int ((sr I 40 (uS o n (rH2 (I 48) n (sk (I 48) n q.1)))) 40 3)) hC hB in_X8 lk_203 dX8_takesHard_136 jk20 rfl rfl (by decide) rfl ?_
          refine j_eqi (x := (sr I 40 (uS o n (rH2 (I 48) n (sk (I 48) n q.1)))) 40 3) (y := nI ((rH2 (I 48) n (sk (I 48) n q.1)).1)) (sr_sj.trans (uS_3)) ?_
          refine lv_goto (tgt := 143) hx hb dX8_takesHard_139 (by decide) ?_
          refine j_put (20, 0, 0) 13 (u2 (sr I 40 (uS o n (rH2 (I 48) n (sk (I 48) n q.1)))) 40 3 (nI ((rH2 (I 48) n (sk (I 48) n q.1)).1)), J, O) (ty := .int) hC hB in_X8 tyX8_ok nmX8 lk_203 dX8_takesHard_143 jk20 rfl rfl (by decide) rfl (by decide +kernel) rfl rfl (Nat.le_of_ble_eq_true rfl) (fun z hz hne => jw_fr z hz hne) (rfl) (fun H locs hB => ?_)
          have hB : jB G A s_.heap (sr I 40 (upd (uS o n (rH2 (I 48) n (sk (I 48) n q.1))) 3 (nI ((rH2 (I 48) n (sk (I 48) n q.1)).1))), J, O) H locs := by rw [show sr I 40 (upd (uS o n (rH2 (I 48) n (sk (I 48) n q.1))) 3 (nI ((rH2 (I 48) n (sk (I 48) n q.1)).1))) = u2 (sr I 40 (uS o n (rH2 (I 48) n (sk (I 48) n q.1)))) 40 3 (nI ((rH2 (I 48) n (sk (I 48) n q.1)).1)) from (u2_sr _ _ _ _ _).symm]; exact hB
          have hB : jB G A s_.heap (sr I 40 (uS o n (rH2 (I 48) n (sk (I 48) n q.1))), J, O) H locs := by rw [← show upd (uS o n (rH2 (I 48) n (sk (I 48) n q.1))) 3 (nI ((rH2 (I 48) n (sk (I 48) n q.1)).1)) = uS o n (rH2 (I 48) n (sk (I 48) n q.1)) from uS_p]; exact hB
          refine lv_iload_n hx hb dX8_takesHard_146 rfl (lv_at hl 0 rfl) ?_
          refine jb_if_eq (tgt := 187) hx hb dX8_takesHard_147 (by decide) (fun c_147 => ?_) (fun c_147 => ?_)
          · exact absurd (c_147.symm.trans c_132) (by decide)
          · refine lv_aload_n hx hb dX8_takesHard_150 rfl (lv_at hl 2 rfl) ?_
            refine j_get (20, 0, 0) 13 (v := .int ((sr I 40 (uS o n (rH2 (I 48) n (sk (I 48) n q.1)))) 40 3)) hC hB in_X8 lk_203 dX8_takesHard_151 jk20 rfl rfl (by decide) rfl ?_
            refine j_eqi (x := (sr I 40 (uS o n (rH2 (I 48) n (sk (I 48) n q.1)))) 40 3) (y := nI ((rH2 (I 48) n (sk (I 48) n q.1)).1)) (sr_sj.trans (uS_3)) ?_
            refine lv_aload_n hx hb dX8_takesHard_154 rfl (lv_at hl 2 rfl) ?_
            refine j_get (20, 0, 0) 12 (v := .int ((sr I 40 (uS o n (rH2 (I 48) n (sk (I 48) n q.1)))) 40 2)) hC hB in_X8 lk_200 dX8_takesHard_155 jk20 rfl rfl (by decide) rfl ?_
            refine j_eqi (x := (sr I 40 (uS o n (rH2 (I 48) n (sk (I 48) n q.1)))) 40 2) (y := nI n) (sr_sj.trans (uS_2)) ?_
            refine jn_icmp_eq (tgt := 183) hx hb dX8_takesHard_158 (by decide) (by omega) (by omega) (fun c_158 => ?_) (fun c_158 => ?_)
            · refine lv_iconst (v := nI 1) hx hb dX8_takesHard_183 (by decide) ?_
              refine lv_goto (tgt := 188) hx hb dX8_takesHard_184 (by decide) ?_
              exact j_zret hC hB dX8_takesHard_188 (by decide) (⟨by rw [rHa, if_pos c_14, if_pos c_132]; rw [decide_eq_true c_158]; rfl, by rw [rHa, if_pos c_14, if_pos c_132]⟩)
            · refine lv_aload_n hx hb dX8_takesHard_161 rfl (lv_at hl 2 rfl) ?_
              refine j_get (20, 0, 0) 11 (v := .ref (G.2.2.1 (21, 48, 0))) hC hB in_X8 lk_38 dX8_takesHard_162 jk20 rfl rfl (by decide) rfl ?_
              refine lv_aload_n hx hb dX8_takesHard_165 rfl (lv_at hl 2 rfl) ?_
              refine j_get (20, 0, 0) 13 (v := .int ((sr I 40 (uS o n (rH2 (I 48) n (sk (I 48) n q.1)))) 40 3)) hC hB in_X8 lk_203 dX8_takesHard_166 jk20 rfl rfl (by decide) rfl ?_
              refine j_eqi (x := (sr I 40 (uS o n (rH2 (I 48) n (sk (I 48) n q.1)))) 40 3) (y := nI ((rH2 (I 48) n (sk (I 48) n q.1)).1)) (sr_sj.trans (uS_3)) ?_
              refine j_iLd 48 ((rH2 (I 48) n (sk (I 48) n q.1)).1) hC hB dX8_takesHard_169 (by decide) rfl (by simp only [lenI_48]; omega) ?_
              refine j_eqi (x := (sr I 40 (uS o n (rH2 (I 48) n (sk (I 48) n q.1)))) 48 ((rH2 (I 48) n (sk (I 48) n q.1)).1)) (y := (I 48) ((rH2 (I 48) n (sk (I 48) n q.1)).1)) ((sr_nj (show (48 : Nat) ≠ 40 by omega))) ?_
              refine lv_i2l (v := ((I 48) ((rH2 (I 48) n (sk (I 48) n q.1)).1)).toInt64) hx hb dX8_takesHard_170 rfl ?_
              refine lv_ldc2 (v := 48) hx hb hown (hts (.constantLong RX8 209 (48)) (by decide +kernel)) dX8_takesHard_171 ?_
              refine lv_ldc2 (v := 57) hx hb hown (hts (.constantLong RX8 214 (57)) (by decide +kernel)) dX8_takesHard_174 ?_
              refine j_csi [.long (((I 48) ((rH2 (I 48) n (sk (I 48) n q.1)).1)).toInt64), .long ((48 : Int64)), .long ((57 : Int64))] hC hB hl.1 (c_X8_in l_ G (sr I 40 (uS o n (rH2 (I 48) n (sk (I 48) n q.1)))) J O (((I 48) ((rH2 (I 48) n (sk (I 48) n q.1)).1)).toInt64) ((48 : Int64)) ((57 : Int64))) (va_cwS 3 hts gX8_takesHard_X8_in rfl rfl rfl (by decide +kernel) ⟨by decide, by decide⟩) dX8_takesHard_177 rfl rfl (Nat.le_of_ble_eq_true rfl) (fun r_177 u_177 H locs hp_177 hB => ?_)
              obtain ⟨rfl, rfl⟩ := hp_177
              refine j_eqi (y := b2 (inR (((I 48) ((rH2 (I 48) n (sk (I 48) n q.1)).1)).toInt64) ((48 : Int64)) ((57 : Int64)))) (rfl) ?_
              refine j_eqi (y := b2 (dgB (I 48 (rH2 (I 48) n (sk (I 48) n q.1)).1))) (rfl) ?_
              refine jb_if_ne (tgt := 187) hx hb dX8_takesHard_180 (by decide) (fun c_180 => ?_) (fun c_180 => ?_)
              · refine lv_iconst (v := nI 0) hx hb dX8_takesHard_187 (by decide) ?_
                exact j_zret hC hB dX8_takesHard_188 (by decide) (⟨by rw [rHa, if_pos c_14, if_pos c_132]; rw [decide_eq_false c_158, c_180]; rfl, by rw [rHa, if_pos c_14, if_pos c_132]⟩)
              · refine lv_iconst (v := nI 1) hx hb dX8_takesHard_183 (by decide) ?_
                refine lv_goto (tgt := 188) hx hb dX8_takesHard_184 (by decide) ?_
                exact j_zret hC hB dX8_takesHard_188 (by decide) (⟨by rw [rHa, if_pos c_14, if_pos c_132]; rw [decide_eq_false c_158, c_180]; rfl, by rw [rHa, if_pos c_14, if_pos c_132]⟩)
  · refine lv_iconst (v := nI 0) hx hb dX8_takesHard_17 (by decide) ?_
    exact j_zret hC hB dX8_takesHard_18 (by decide) (⟨by rw [rHa, if_neg (by rw [c_14]; decide)]; rfl, by rw [rHa, if_neg (by rw [c_14]; decide)]⟩)

set_option maxHeartbeats 4000000 in
set_option maxRecDepth 100000 in
theorem c_X8_takesDoor (l_ : Launch) (G : jG) (I : Nat → Nat → Int32) (J : Nat → Nat → Int64) (O : Nat → Nat → Nat) {nd : Nat} (hnd : nd < 10) (hD : I 49 0 = nI nd) {o : Nat → Int32} {n : Nat} {q : Nat × Int32} (hn : n ≤ 90) (hq : q.1 ≤ n) (hU : I 40 = uS o n q) : jMi l_ G yX8_takesDoor wsX8_takesDoor ({ frames := 2, cells := 0, slots := 0, locals := 47 }) [.ref (G.2.2.1 (20, 0, 0))] (I, J, O) (fun r u => r = b2 ((rDo (I 48) n q).1) ∧ u = (sr (sr I 40 (uS o n ((rDo (I 48) n q).2))) 49 (rDoR (I 48) n q (I 49)), J, O)) := by
  refine jMi_of (cc := cX8_takesDoor) (maxL := 4) (ret := (some .boolean)) (lv0 := [(0, .ref (G.2.2.1 (20, 0, 0)))]) (by decide) rfl (Nat.le_of_ble_eq_true rfl) rfl ?_
  intro pg_ ev_ s_ mi_ below meth cd_ A ls hC hB hl
  obtain ⟨hx, hb, hr, hml, hown, hts, hlocks, hK, hA⟩ := id hC
  have lk_211 := hts (.fieldLink RX8 211 "RiddlePrisonModel" "value" "I") (by decide +kernel)
  have lk_41 := hts (.fieldLink RX8 41 "RiddlePrisonModel" "anew" "[I") (by decide +kernel)
  have in_X8 := (fun w h => List.mem_cons_of_mem _ (List.mem_append_right _ h) : ∀ w ∈ wsX80, w ∈ wsX8_takesDoor)
  have hU2 : I 40 2 = nI n := by rw [hU]; exact uS_2
  have hU3 : I 40 3 = nI q.1 := by rw [hU]; exact uS_3
  have hU4 : I 40 4 = q.2 := by rw [hU]; exact uS_4
  refine lv_aload_n hx hb dX8_takesDoor_0 rfl (lv_at hl 0 rfl) ?_
  refine lv_bipush (v := nI 7) hx hb dX8_takesDoor_1 (by decide) ?_
  refine j_cvi (20, 0, 0) [.int (nI 7)] hC hB hl.1 (c_X8_takesDigit l_ G I J O 7 (by omega) (hn) (hq) (hU)) (cwV 1 hts gX8_takesDoor_X8_takesDigit rfl rfl rfl (by decide +kernel) ⟨by decide, by decide⟩) dX8_takesDoor_3 jk20 rfl rfl rfl rfl (Nat.le_of_ble_eq_true rfl) (fun r_3 u_3 H locs hp_3 hB => ?_)
  obtain ⟨rfl, rfl⟩ := hp_3
  have hl_3 : ((rDg (I 48) n 7 q).2).1 ≤ n := rDg_le (hq)
  have hB : jB G A s_.heap (sr I 40 (uS o n ((rDg (I 48) n 7 q).2)), J, O) H locs := hB
  refine j_eqi (y := b2 ((rDg (I 48) n 7 q).1)) (rfl) ?_
  refine jb_if_ne (tgt := 11) hx hb dX8_takesDoor_6 (by decide) (fun c_6 => ?_) (fun c_6 => ?_)
  · refine lv_aload_n hx hb dX8_takesDoor_11 rfl (lv_at hl 0 rfl) ?_
    refine j_get (20, 0, 0) 15 (v := .int ((sr I 40 (uS o n ((rDg (I 48) n 7 q).2))) 40 4)) hC hB in_X8 lk_211 dX8_takesDoor_12 jk20 rfl rfl (by decide) rfl ?_
    refine j_eqi (x := (sr I 40 (uS o n ((rDg (I 48) n 7 q).2))) 40 4) (y := ((rDg (I 48) n 7 q).2).2) (sr_sj.trans (uS_4)) ?_
    refine lv_istore_n (lv' := [(1, .int (((rDg (I 48) n 7 q).2).2)), (0, .ref (G.2.2.1 (20, 0, 0)))]) hx hb dX8_takesDoor_15 rfl hl (by decide) rfl (fun ls hl => ?_)
    refine lv_aload_n hx hb dX8_takesDoor_16 rfl (lv_at hl 1 rfl) ?_
    refine j_cvi (20, 0, 0) [] hC hB hl.1 (c_X8_next l_ G (sr I 40 (uS o n ((rDg (I 48) n 7 q).2))) J O  (hn) (rDg_le (hq)) (sr_self)) (cwV 0 hts gX8_takesDoor_X8_next rfl rfl rfl (by decide +kernel) ⟨by decide, by decide⟩) dX8_takesDoor_17 jk20 rfl rfl rfl rfl (Nat.le_of_ble_eq_true rfl) (fun r_17 u_17 H locs hp_17 hB => ?_)
    obtain ⟨rfl, rfl⟩ := hp_17
    have hl_17 : ((sk (I 48) n (((rDg (I 48) n 7 q).2)).1, (((rDg (I 48) n 7 q).2)).2)).1 ≤ n := (sk_le (rDg_le (hq))).2
    have hB : jB G A s_.heap (sr I 40 (uS o n ((sk (I 48) n (((rDg (I 48) n 7 q).2)).1, (((rDg (I 48) n 7 q).2)).2))), J, O) H locs := by (rw [show sr I 40 (uS o n ((sk (I 48) n (((rDg (I 48) n 7 q).2)).1, (((rDg (I 48) n 7 q).2)).2))) = sr (sr I 40 (uS o n ((rDg (I 48) n 7 q).2))) 40 (uS o n ((sk (I 48) n (((rDg (I 48) n 7 q).2)).1, (((rDg (I 48) n 7 q).2)).2))) from by funext a; simp +decide only [sr]; (repeat' split) <;> first | rfl | (exfalso; omega) | (subst_vars; rfl)]; exact hB)
    refine j_eqi (y := nx (I 48) n (((rDg (I 48) n 7 q).2)).1) (rfl) ?_
    have hB : jB G A s_.heap (sr I 40 (uS o n (rD1 (I 48) n q)), J, O) H locs := by rw [← show uS o n ((sk (I 48) n (((rDg (I 48) n 7 q).2)).1, (((rDg (I 48) n 7 q).2)).2)) = uS o n (rD1 (I 48) n q) from rfl]; exact hB
    refine lv_bipush (v := nI 48) hx hb dX8_takesDoor_20 (by decide) ?_
    refine lv_iload_n hx hb dX8_takesDoor_22 rfl (lv_at hl 0 rfl) ?_
    refine lv_iadd hx hb dX8_takesDoor_23 ?_
    refine lv_icmp_eq (tgt := 36) hx hb dX8_takesDoor_24 (by decide) (fun c_24 => ?_) (fun c_24 => ?_)
    · refine lv_iconst (v := nI 0) hx hb dX8_takesDoor_36 (by decide) ?_
      exact j_zret hC hB dX8_takesDoor_37 (by decide) (⟨by rw [rDo, if_neg (by rw [c_6]; decide), if_pos c_24]; rfl, by rw [rDoR, if_neg (by rw [rDo, if_neg (by rw [c_6]; decide), if_pos c_24]; exact fun z => Bool.false_ne_true z), sr_id2 (by decide), rDo, if_neg (by rw [c_6]; decide), if_pos c_24]⟩)
    · refine lv_aload_n hx hb dX8_takesDoor_27 rfl (lv_at hl 1 rfl) ?_
      refine lv_bipush (v := nI 7) hx hb dX8_takesDoor_28 (by decide) ?_
      refine j_cvi (20, 0, 0) [.int (nI 7)] hC hB hl.1 (c_X8_takesDigit l_ G (sr I 40 (uS o n (rD1 (I 48) n q))) J O 7 (by omega) (hn) (rD1_le hq) (sr_self)) (cwV 1 hts gX8_takesDoor_X8_takesDigit rfl rfl rfl (by decide +kernel) ⟨by decide, by decide⟩) dX8_takesDoor_30 jk20 rfl rfl rfl rfl (Nat.le_of_ble_eq_true rfl) (fun r_30 u_30 H locs hp_30 hB => ?_)
      obtain ⟨rfl, rfl⟩ := hp_30
      have hl_30 : ((rDg (I 48) n 7 ((rD1 (I 48) n q))).2).1 ≤ n := rDg_le (rD1_le hq)
      have hB : jB G A s_.heap (sr I 40 (uS o n ((rDg (I 48) n 7 ((rD1 (I 48) n q))).2)), J, O) H locs := by (rw [show sr I 40 (uS o n ((rDg (I 48) n 7 ((rD1 (I 48) n q))).2)) = sr (sr I 40 (uS o n (rD1 (I 48) n q))) 40 (uS o n ((rDg (I 48) n 7 ((rD1 (I 48) n q))).2)) from by funext a; simp +decide only [sr]; (repeat' split) <;> first | rfl | (exfalso; omega) | (subst_vars; rfl)]; exact hB)
      refine j_eqi (y := b2 ((rDg (I 48) n 7 ((rD1 (I 48) n q))).1)) (rfl) ?_
      refine jb_if_ne (tgt := 38) hx hb dX8_takesDoor_33 (by decide) (fun c_33 => ?_) (fun c_33 => ?_)
      · refine lv_aload_n hx hb dX8_takesDoor_38 rfl (lv_at hl 1 rfl) ?_
        refine j_get (20, 0, 0) 15 (v := .int ((sr I 40 (uS o n ((rDg (I 48) n 7 ((rD1 (I 48) n q))).2))) 40 4)) hC hB in_X8 lk_211 dX8_takesDoor_39 jk20 rfl rfl (by decide) rfl ?_
        refine j_eqi (x := (sr I 40 (uS o n ((rDg (I 48) n 7 ((rD1 (I 48) n q))).2))) 40 4) (y := ((rDg (I 48) n 7 ((rD1 (I 48) n q))).2).2) (sr_sj.trans (uS_4)) ?_
        refine lv_istore_n (lv' := [(2, .int (((rDg (I 48) n 7 ((rD1 (I 48) n q))).2).2)), (1, .int (((rDg (I 48) n 7 q).2).2)), (0, .ref (G.2.2.1 (20, 0, 0)))]) hx hb dX8_takesDoor_42 rfl hl (by decide) rfl (fun ls hl => ?_)
        refine lv_aload_n hx hb dX8_takesDoor_43 rfl (lv_at hl 2 rfl) ?_
        refine j_cvi (20, 0, 0) [] hC hB hl.1 (c_X8_takesSort l_ G (sr I 40 (uS o n ((rDg (I 48) n 7 ((rD1 (I 48) n q))).2))) J O  (hn) (rDg_le (rD1_le hq)) (sr_self)) (cwV 0 hts gX8_takesDoor_X8_takesSort rfl rfl rfl (by decide +kernel) ⟨by decide, by decide⟩) dX8_takesDoor_44 jk20 rfl rfl rfl rfl (Nat.le_of_ble_eq_true rfl) (fun r_44 u_44 H locs hp_44 hB => ?_)
        obtain ⟨rfl, rfl⟩ := hp_44
        have hl_44 : ((rSo (I 48) n (((rDg (I 48) n 7 ((rD1 (I 48) n q))).2))).2).1 ≤ n := rSo_le (rDg_le (rD1_le hq))
        have hB : jB G A s_.heap (sr I 40 (uS o n ((rSo (I 48) n (((rDg (I 48) n 7 ((rD1 (I 48) n q))).2))).2)), J, O) H locs := by (rw [show sr I 40 (uS o n ((rSo (I 48) n (((rDg (I 48) n 7 ((rD1 (I 48) n q))).2))).2)) = sr (sr I 40 (uS o n ((rDg (I 48) n 7 ((rD1 (I 48) n q))).2))) 40 (uS o n ((rSo (I 48) n (((rDg (I 48) n 7 ((rD1 (I 48) n q))).2))).2)) from by funext a; simp +decide only [sr]; (repeat' split) <;> first | rfl | (exfalso; omega) | (subst_vars; rfl)]; exact hB)
        refine j_eqi (y := b2 ((rSo (I 48) n (((rDg (I 48) n 7 ((rD1 (I 48) n q))).2))).1)) (rfl) ?_
        refine jb_if_ne (tgt := 52) hx hb dX8_takesDoor_47 (by decide) (fun c_47 => ?_) (fun c_47 => ?_)
        · refine lv_aload_n hx hb dX8_takesDoor_52 rfl (lv_at hl 2 rfl) ?_
          refine j_get (20, 0, 0) 15 (v := .int ((sr I 40 (uS o n ((rSo (I 48) n (((rDg (I 48) n 7 ((rD1 (I 48) n q))).2))).2))) 40 4)) hC hB in_X8 lk_211 dX8_takesDoor_53 jk20 rfl rfl (by decide) rfl ?_
          refine j_eqi (x := (sr I 40 (uS o n ((rSo (I 48) n (((rDg (I 48) n 7 ((rD1 (I 48) n q))).2))).2))) 40 4) (y := ((rSo (I 48) n (((rDg (I 48) n 7 ((rD1 (I 48) n q))).2))).2).2) (sr_sj.trans (uS_4)) ?_
          refine lv_istore_n (lv' := [(3, .int (((rSo (I 48) n (((rDg (I 48) n 7 ((rD1 (I 48) n q))).2))).2).2)), (2, .int (((rDg (I 48) n 7 ((rD1 (I 48) n q))).2).2)), (1, .int (((rDg (I 48) n 7 q).2).2)), (0, .ref (G.2.2.1 (20, 0, 0)))]) hx hb dX8_takesDoor_56 rfl hl (by decide) rfl (fun ls hl => ?_)
          refine lv_aload_n hx hb dX8_takesDoor_57 rfl (lv_at hl 3 rfl) ?_
          refine j_cvi (20, 0, 0) [] hC hB hl.1 (c_X8_takesHard l_ G (sr I 40 (uS o n ((rSo (I 48) n (((rDg (I 48) n 7 ((rD1 (I 48) n q))).2))).2))) J O  (hn) (rSo_le (rDg_le (rD1_le hq))) (sr_self)) (cwV 0 hts gX8_takesDoor_X8_takesHard rfl rfl rfl (by decide +kernel) ⟨by decide, by decide⟩) dX8_takesDoor_58 jk20 rfl rfl rfl rfl (Nat.le_of_ble_eq_true rfl) (fun r_58 u_58 H locs hp_58 hB => ?_)
          obtain ⟨rfl, rfl⟩ := hp_58
          have hl_58 : ((rHa (I 48) n (((rSo (I 48) n (((rDg (I 48) n 7 ((rD1 (I 48) n q))).2))).2))).2).1 ≤ n := rHa_le (rSo_le (rDg_le (rD1_le hq)))
          have hB : jB G A s_.heap (sr I 40 (uS o n ((rHa (I 48) n (((rSo (I 48) n (((rDg (I 48) n 7 ((rD1 (I 48) n q))).2))).2))).2)), J, O) H locs := by (rw [show sr I 40 (uS o n ((rHa (I 48) n (((rSo (I 48) n (((rDg (I 48) n 7 ((rD1 (I 48) n q))).2))).2))).2)) = sr (sr I 40 (uS o n ((rSo (I 48) n (((rDg (I 48) n 7 ((rD1 (I 48) n q))).2))).2))) 40 (uS o n ((rHa (I 48) n (((rSo (I 48) n (((rDg (I 48) n 7 ((rD1 (I 48) n q))).2))).2))).2)) from by funext a; simp +decide only [sr]; (repeat' split) <;> first | rfl | (exfalso; omega) | (subst_vars; rfl)]; exact hB)
          refine j_eqi (y := b2 ((rHa (I 48) n (((rSo (I 48) n (((rDg (I 48) n 7 ((rD1 (I 48) n q))).2))).2))).1)) (rfl) ?_
          refine jb_if_ne (tgt := 66) hx hb dX8_takesDoor_61 (by decide) (fun c_61 => ?_) (fun c_61 => ?_)
          · refine lv_aload_n hx hb dX8_takesDoor_66 rfl (lv_at hl 3 rfl) ?_
            refine j_get (20, 0, 0) 14 (v := .ref (G.2.2.1 (21, 49, 0))) hC hB in_X8 lk_41 dX8_takesDoor_67 jk20 rfl rfl (by decide) rfl ?_
            refine lv_iload_n hx hb dX8_takesDoor_70 rfl (lv_at hl 2 rfl) ?_
            refine lv_iload_n hx hb dX8_takesDoor_71 rfl (lv_at hl 1 rfl) ?_
            refine lv_iload_n hx hb dX8_takesDoor_72 rfl (lv_at hl 0 rfl) ?_
            refine lv_aload_n hx hb dX8_takesDoor_73 rfl (lv_at hl 3 rfl) ?_
            refine j_get (20, 0, 0) 15 (v := .int ((sr I 40 (uS o n ((rHa (I 48) n (((rSo (I 48) n (((rDg (I 48) n 7 ((rD1 (I 48) n q))).2))).2))).2))) 40 4)) hC hB in_X8 lk_211 dX8_takesDoor_74 jk20 rfl rfl (by decide) rfl ?_
            refine j_eqi (x := (sr I 40 (uS o n ((rHa (I 48) n (((rSo (I 48) n (((rDg (I 48) n 7 ((rD1 (I 48) n q))).2))).2))).2))) 40 4) (y := ((rHa (I 48) n (((rSo (I 48) n (((rDg (I 48) n 7 ((rD1 (I 48) n q))).2))).2))).2).2) (sr_sj.trans (uS_4)) ?_
            refine j_csv [.ref (G.2.2.1 (21, 49, 0)), .int (((rDg (I 48) n 7 q).2).2), .int (((rDg (I 48) n 7 ((rD1 (I 48) n q))).2).2), .int (((rSo (I 48) n (((rDg (I 48) n 7 ((rD1 (I 48) n q))).2))).2).2), .int (((rHa (I 48) n (((rSo (I 48) n (((rDg (I 48) n 7 ((rD1 (I 48) n q))).2))).2))).2).2)] hC hB hl.1 (c_X8_layDoor_49 l_ G (sr I 40 (uS o n ((rHa (I 48) n (((rSo (I 48) n (((rDg (I 48) n 7 ((rD1 (I 48) n q))).2))).2))).2))) J O (((rDg (I 48) n 7 q).2).2) (((rDg (I 48) n 7 ((rD1 (I 48) n q))).2).2) (((rSo (I 48) n (((rDg (I 48) n 7 ((rD1 (I 48) n q))).2))).2).2) (((rHa (I 48) n (((rSo (I 48) n (((rDg (I 48) n 7 ((rD1 (I 48) n q))).2))).2))).2).2) (by omega) ((sr_nj (show (49 : Nat) ≠ 40 by omega)).trans (hD))) (va_cwS 5 hts gX8_takesDoor_X8_layDoor rfl rfl rfl (by decide +kernel) ⟨by decide, by decide⟩) dX8_takesDoor_77 rfl rfl (Nat.le_of_ble_eq_true rfl) (fun u_77 H locs hp_77 hB => ?_)
            obtain rfl := hp_77
            have hB : jB G A s_.heap (sr (sr I 40 (uS o n ((rHa (I 48) n (((rSo (I 48) n (((rDg (I 48) n 7 ((rD1 (I 48) n q))).2))).2))).2))) 49 (layDoorR (I 49) (((rDg (I 48) n 7 q).2).2) (((rDg (I 48) n 7 ((rD1 (I 48) n q))).2).2) (((rSo (I 48) n (((rDg (I 48) n 7 ((rD1 (I 48) n q))).2))).2).2) (((rHa (I 48) n (((rSo (I 48) n (((rDg (I 48) n 7 ((rD1 (I 48) n q))).2))).2))).2).2)), J, O) H locs := hB
            refine lv_iconst (v := nI 1) hx hb dX8_takesDoor_80 (by decide) ?_
            exact j_zret hC hB dX8_takesDoor_81 (by decide) (⟨by rw [rDo, if_neg (by rw [c_6]; decide), if_neg c_24, if_neg (by rw [c_33]; decide), if_neg (by rw [c_47]; decide)]; exact (congrArg b2 c_61).symm, by rw [rDoR, if_pos (by rw [rDo, if_neg (by rw [c_6]; decide), if_neg c_24, if_neg (by rw [c_33]; decide), if_neg (by rw [c_47]; decide)]; exact c_61), rDo, if_neg (by rw [c_6]; decide), if_neg c_24, if_neg (by rw [c_33]; decide), if_neg (by rw [c_47]; decide)]⟩)
          · refine lv_iconst (v := nI 0) hx hb dX8_takesDoor_64 (by decide) ?_
            exact j_zret hC hB dX8_takesDoor_65 (by decide) (⟨by rw [rDo, if_neg (by rw [c_6]; decide), if_neg c_24, if_neg (by rw [c_33]; decide), if_neg (by rw [c_47]; decide)]; exact (congrArg b2 c_61).symm, by rw [rDoR, if_neg (by rw [rDo, if_neg (by rw [c_6]; decide), if_neg c_24, if_neg (by rw [c_33]; decide), if_neg (by rw [c_47]; decide)]; exact fun z => Bool.false_ne_true (c_61.symm.trans z)), sr_id2 (by decide), rDo, if_neg (by rw [c_6]; decide), if_neg c_24, if_neg (by rw [c_33]; decide), if_neg (by rw [c_47]; decide)]⟩)
        · refine lv_iconst (v := nI 0) hx hb dX8_takesDoor_50 (by decide) ?_
          exact j_zret hC hB dX8_takesDoor_51 (by decide) (⟨by rw [rDo, if_neg (by rw [c_6]; decide), if_neg c_24, if_neg (by rw [c_33]; decide), if_pos c_47]; rfl, by rw [rDoR, if_neg (by rw [rDo, if_neg (by rw [c_6]; decide), if_neg c_24, if_neg (by rw [c_33]; decide), if_pos c_47]; exact fun z => Bool.false_ne_true z), sr_id2 (by decide), rDo, if_neg (by rw [c_6]; decide), if_neg c_24, if_neg (by rw [c_33]; decide), if_pos c_47]⟩)
      · refine lv_iconst (v := nI 0) hx hb dX8_takesDoor_36 (by decide) ?_
        exact j_zret hC hB dX8_takesDoor_37 (by decide) (⟨by rw [rDo, if_neg (by rw [c_6]; decide), if_neg c_24, if_pos c_33]; rfl, by rw [rDoR, if_neg (by rw [rDo, if_neg (by rw [c_6]; decide), if_neg c_24, if_pos c_33]; exact fun z => Bool.false_ne_true z), sr_id2 (by decide), rDo, if_neg (by rw [c_6]; decide), if_neg c_24, if_pos c_33]⟩)
  · refine lv_iconst (v := nI 0) hx hb dX8_takesDoor_9 (by decide) ?_
    exact j_zret hC hB dX8_takesDoor_10 (by decide) (⟨by rw [rDo, if_pos c_6]; rfl, by rw [rDoR, if_neg (by rw [rDo, if_pos c_6]; exact fun z => Bool.false_ne_true z), sr_id2 (by decide), rDo, if_pos c_6]⟩)

set_option maxHeartbeats 4000000 in
set_option maxRecDepth 100000 in
theorem c_X8_takesMan (l_ : Launch) (G : jG) (I : Nat → Nat → Int32) (J : Nat → Nat → Int64) (O : Nat → Nat → Nat) {nm : Nat} (hnm : nm < 4) (hM : I 49 1 = nI nm) {o : Nat → Int32} {n : Nat} {q : Nat × Int32} (hn : n ≤ 90) (hq : q.1 ≤ n) (hU : I 40 = uS o n q) : jMi l_ G yX8_takesMan wsX8_takesMan ({ frames := 2, cells := 0, slots := 0, locals := 47 }) [.ref (G.2.2.1 (20, 0, 0))] (I, J, O) (fun r u => r = b2 ((rMa (I 48) n q).1) ∧ u = (sr (sr I 40 (uS o n ((rMa (I 48) n q).2))) 49 (rMaR (I 48) n q (I 49)), J, O)) := by
  refine jMi_of (cc := cX8_takesMan) (maxL := 5) (ret := (some .boolean)) (lv0 := [(0, .ref (G.2.2.1 (20, 0, 0)))]) (by decide) rfl (Nat.le_of_ble_eq_true rfl) rfl ?_
  intro pg_ ev_ s_ mi_ below meth cd_ A ls hC hB hl
  obtain ⟨hx, hb, hr, hml, hown, hts, hlocks, hK, hA⟩ := id hC
  have lk_203 := hts (.fieldLink RX8 203 "RiddlePrisonModel" "place" "I") (by decide +kernel)
  have lk_211 := hts (.fieldLink RX8 211 "RiddlePrisonModel" "value" "I") (by decide +kernel)
  have lk_41 := hts (.fieldLink RX8 41 "RiddlePrisonModel" "anew" "[I") (by decide +kernel)
  have in_X8 := (fun w h => List.mem_cons_of_mem _ (List.mem_append_right _ h) : ∀ w ∈ wsX80, w ∈ wsX8_takesMan)
  have hU2 : I 40 2 = nI n := by rw [hU]; exact uS_2
  have hU3 : I 40 3 = nI q.1 := by rw [hU]; exact uS_3
  have hU4 : I 40 4 = q.2 := by rw [hU]; exact uS_4
  refine lv_aload_n hx hb dX8_takesMan_0 rfl (lv_at hl 0 rfl) ?_
  refine j_cvi (20, 0, 0) [] hC hB hl.1 (c_X8_next l_ G I J O  (hn) (hq) (hU)) (cwV 0 hts gX8_takesMan_X8_next rfl rfl rfl (by decide +kernel) ⟨by decide, by decide⟩) dX8_takesMan_1 jk20 rfl rfl rfl rfl (Nat.le_of_ble_eq_true rfl) (fun r_1 u_1 H locs hp_1 hB => ?_)
  obtain ⟨rfl, rfl⟩ := hp_1
  have hl_1 : ((sk (I 48) n q.1, q.2)).1 ≤ n := (sk_le (hq)).2
  have hB : jB G A s_.heap (sr I 40 (uS o n ((sk (I 48) n q.1, q.2))), J, O) H locs := hB
  refine j_eqi (y := nx (I 48) n q.1) (rfl) ?_
  refine j_csi [.int (nx (I 48) n q.1)] hC hB hl.1 (c_X8_kindBy l_ G (sr I 40 (uS o n ((sk (I 48) n q.1, q.2)))) J O (nx (I 48) n q.1)) (va_cwS 1 hts gX8_takesMan_X8_kindBy rfl rfl rfl (by decide +kernel) ⟨by decide, by decide⟩) dX8_takesMan_4 rfl rfl (Nat.le_of_ble_eq_true rfl) (fun r_4 u_4 H locs hp_4 hB => ?_)
  obtain ⟨rfl, rfl⟩ := hp_4
  refine j_eqi (y := kdV (nx (I 48) n q.1)) (rfl) ?_
  refine lv_istore_n (lv' := [(1, .int (kdV (nx (I 48) n q.1))), (0, .ref (G.2.2.1 (20, 0, 0)))]) hx hb dX8_takesMan_7 rfl hl (by decide) rfl (fun ls hl => ?_)
  refine lv_iload_n hx hb dX8_takesMan_8 rfl (lv_at hl 0 rfl) ?_
  refine lv_bipush (v := (-4 : Int32)) hx hb dX8_takesMan_9 (by decide) ?_
  refine lv_icmp_ne (tgt := 16) hx hb dX8_takesMan_11 (by decide) (fun c_11 => ?_) (fun c_11 => ?_)
  · refine lv_aload_n hx hb dX8_takesMan_16 rfl (lv_at hl 1 rfl) ?_
    refine lv_dup hx hb dX8_takesMan_17 rfl ?_
    refine j_get (20, 0, 0) 13 (v := .int ((sr I 40 (uS o n ((sk (I 48) n q.1, q.2)))) 40 3)) hC hB in_X8 lk_203 dX8_takesMan_18 jk20 rfl rfl (by decide) rfl ?_
    refine j_eqi (x := (sr I 40 (uS o n ((sk (I 48) n q.1, q.2)))) 40 3) (y := nI (((sk (I 48) n q.1, q.2)).1)) (sr_sj.trans (uS_3)) ?_
    refine lv_iconst (v := nI 1) hx hb dX8_takesMan_21 (by decide) ?_
    refine jn_iadd hx hb dX8_takesMan_22 ?_
    refine j_put (20, 0, 0) 13 (u2 (sr I 40 (uS o n ((sk (I 48) n q.1, q.2)))) 40 3 (nI (((sk (I 48) n q.1, q.2)).1 + 1)), J, O) (ty := .int) hC hB in_X8 tyX8_ok nmX8 lk_203 dX8_takesMan_23 jk20 rfl rfl (by decide) rfl (by decide +kernel) rfl rfl (Nat.le_of_ble_eq_true rfl) (fun z hz hne => jw_fr z hz hne) (rfl) (fun H locs hB => ?_)
    have hB : jB G A s_.heap (sr I 40 (upd (uS o n ((sk (I 48) n q.1, q.2))) 3 (nI (((sk (I 48) n q.1, q.2)).1 + 1))), J, O) H locs := by rw [show sr I 40 (upd (uS o n ((sk (I 48) n q.1, q.2))) 3 (nI (((sk (I 48) n q.1, q.2)).1 + 1))) = u2 (sr I 40 (uS o n ((sk (I 48) n q.1, q.2)))) 40 3 (nI (((sk (I 48) n q.1, q.2)).1 + 1)) from (u2_sr _ _ _ _ _).symm]; exact hB
    have hB : jB G A s_.heap (sr I 40 (uS o n (rM1 (I 48) n q)), J, O) H locs := by rw [← show upd (uS o n ((sk (I 48) n q.1, q.2))) 3 (nI (((sk (I 48) n q.1, q.2)).1 + 1)) = uS o n (rM1 (I 48) n q) from uS_p]; exact hB
    have hl1_ : (rM1 (I 48) n q).1 ≤ n := nx_lt (kdV_n4 c_11)
    have hl2_ : (rM2 (I 48) n q).2.1 ≤ n := rDg_le hl1_
    have hl3_ : (rM3 (I 48) n q).2.1 ≤ n := rSo_le hl2_
    have hl4_ : (rM4 (I 48) n q).2.1 ≤ n := rNx_le (by decide) hl3_
    have hl5_ : (rM5 (I 48) n q).2.1 ≤ n := rDg_le hl4_
    refine lv_aload_n hx hb dX8_takesMan_26 rfl (lv_at hl 1 rfl) ?_
    refine lv_bipush (v := nI 9) hx hb dX8_takesMan_27 (by decide) ?_
    refine j_cvi (20, 0, 0) [.int (nI 9)] hC hB hl.1 (c_X8_takesDigit l_ G (sr I 40 (uS o n (rM1 (I 48) n q))) J O 9 (by omega) (hn) (hl1_) (sr_self)) (cwV 1 hts gX8_takesMan_X8_takesDigit rfl rfl rfl (by decide +kernel) ⟨by decide, by decide⟩) dX8_takesMan_29 jk20 rfl rfl rfl rfl (Nat.le_of_ble_eq_true rfl) (fun r_29 u_29 H locs hp_29 hB => ?_)
    obtain ⟨rfl, rfl⟩ := hp_29
    have hl_29 : ((rDg (I 48) n 9 ((rM1 (I 48) n q))).2).1 ≤ n := rDg_le (hl1_)
    have hB : jB G A s_.heap (sr I 40 (uS o n ((rDg (I 48) n 9 ((rM1 (I 48) n q))).2)), J, O) H locs := by (rw [show sr I 40 (uS o n ((rDg (I 48) n 9 ((rM1 (I 48) n q))).2)) = sr (sr I 40 (uS o n (rM1 (I 48) n q))) 40 (uS o n ((rDg (I 48) n 9 ((rM1 (I 48) n q))).2)) from by funext a; simp +decide only [sr]; (repeat' split) <;> first | rfl | (exfalso; omega) | (subst_vars; rfl)]; exact hB)
    refine j_eqi (y := b2 ((rDg (I 48) n 9 ((rM1 (I 48) n q))).1)) (rfl) ?_
    refine j_eqi (y := b2 ((rM2 (I 48) n q).1)) (rfl) ?_
    have hB : jB G A s_.heap (sr I 40 (uS o n ((rM2 (I 48) n q).2)), J, O) H locs := by rw [← show uS o n ((rDg (I 48) n 9 ((rM1 (I 48) n q))).2) = uS o n ((rM2 (I 48) n q).2) from rfl]; exact hB
    refine jb_if_ne (tgt := 37) hx hb dX8_takesMan_32 (by decide) (fun c_32 => ?_) (fun c_32 => ?_)
    · refine lv_aload_n hx hb dX8_takesMan_37 rfl (lv_at hl 1 rfl) ?_
      refine j_get (20, 0, 0) 15 (v := .int ((sr I 40 (uS o n ((rM2 (I 48) n q).2))) 40 4)) hC hB in_X8 lk_211 dX8_takesMan_38 jk20 rfl rfl (by decide) rfl ?_
      refine j_eqi (x := (sr I 40 (uS o n ((rM2 (I 48) n q).2))) 40 4) (y := ((rM2 (I 48) n q).2).2) (sr_sj.trans (uS_4)) ?_
      refine lv_istore_n (lv' := [(2, .int (((rM2 (I 48) n q).2).2)), (1, .int (kdV (nx (I 48) n q.1))), (0, .ref (G.2.2.1 (20, 0, 0)))]) hx hb dX8_takesMan_41 rfl hl (by decide) rfl (fun ls hl => ?_)
      refine lv_aload_n hx hb dX8_takesMan_42 rfl (lv_at hl 2 rfl) ?_
      refine j_cvi (20, 0, 0) [] hC hB hl.1 (c_X8_takesSort l_ G (sr I 40 (uS o n ((rM2 (I 48) n q).2))) J O  (hn) (hl2_) (sr_self)) (cwV 0 hts gX8_takesMan_X8_takesSort rfl rfl rfl (by decide +kernel) ⟨by decide, by decide⟩) dX8_takesMan_43 jk20 rfl rfl rfl rfl (Nat.le_of_ble_eq_true rfl) (fun r_43 u_43 H locs hp_43 hB => ?_)
      obtain ⟨rfl, rfl⟩ := hp_43
      have hl_43 : ((rSo (I 48) n (((rM2 (I 48) n q).2))).2).1 ≤ n := rSo_le (hl2_)
      have hB : jB G A s_.heap (sr I 40 (uS o n ((rSo (I 48) n (((rM2 (I 48) n q).2))).2)), J, O) H locs := by (rw [show sr I 40 (uS o n ((rSo (I 48) n (((rM2 (I 48) n q).2))).2)) = sr (sr I 40 (uS o n ((rM2 (I 48) n q).2))) 40 (uS o n ((rSo (I 48) n (((rM2 (I 48) n q).2))).2)) from by funext a; simp +decide only [sr]; (repeat' split) <;> first | rfl | (exfalso; omega) | (subst_vars; rfl)]; exact hB)
      refine j_eqi (y := b2 ((rSo (I 48) n (((rM2 (I 48) n q).2))).1)) (rfl) ?_
      refine j_eqi (y := b2 ((rM3 (I 48) n q).1)) (rfl) ?_
      have hB : jB G A s_.heap (sr I 40 (uS o n ((rM3 (I 48) n q).2)), J, O) H locs := by rw [← show uS o n ((rSo (I 48) n (((rM2 (I 48) n q).2))).2) = uS o n ((rM3 (I 48) n q).2) from rfl]; exact hB
      refine jb_if_ne (tgt := 51) hx hb dX8_takesMan_46 (by decide) (fun c_46 => ?_) (fun c_46 => ?_)
      · refine lv_aload_n hx hb dX8_takesMan_51 rfl (lv_at hl 2 rfl) ?_
        refine j_get (20, 0, 0) 15 (v := .int ((sr I 40 (uS o n ((rM3 (I 48) n q).2))) 40 4)) hC hB in_X8 lk_211 dX8_takesMan_52 jk20 rfl rfl (by decide) rfl ?_
        refine j_eqi (x := (sr I 40 (uS o n ((rM3 (I 48) n q).2))) 40 4) (y := ((rM3 (I 48) n q).2).2) (sr_sj.trans (uS_4)) ?_
        refine lv_istore_n (lv' := [(3, .int (((rM3 (I 48) n q).2).2)), (2, .int (((rM2 (I 48) n q).2).2)), (1, .int (kdV (nx (I 48) n q.1))), (0, .ref (G.2.2.1 (20, 0, 0)))]) hx hb dX8_takesMan_55 rfl hl (by decide) rfl (fun ls hl => ?_)
        refine lv_iconst (v := nI 0) hx hb dX8_takesMan_56 (by decide) ?_
        refine lv_istore (lv' := [(4, .int (nI 0)), (3, .int (((rM3 (I 48) n q).2).2)), (2, .int (((rM2 (I 48) n q).2).2)), (1, .int (kdV (nx (I 48) n q.1))), (0, .ref (G.2.2.1 (20, 0, 0)))]) hx hb dX8_takesMan_57 hl (by decide) rfl (fun ls hl => ?_)
        refine lv_aload_n hx hb dX8_takesMan_59 rfl (lv_at hl 4 rfl) ?_
        refine lv_bipush (v := nI 64) hx hb dX8_takesMan_60 (by decide) ?_
        refine j_cvi (20, 0, 0) [.int (nI 64)] hC hB hl.1 (c_X8_isNext l_ G (sr I 40 (uS o n ((rM3 (I 48) n q).2))) J O (nI 64) (by decide) (hn) (hl3_) (sr_self)) (cwV 1 hts gX8_takesMan_X8_isNext rfl rfl rfl (by decide +kernel) ⟨by decide, by decide⟩) dX8_takesMan_62 jk20 rfl rfl rfl rfl (Nat.le_of_ble_eq_true rfl) (fun r_62 u_62 H locs hp_62 hB => ?_)
        obtain ⟨rfl, rfl⟩ := hp_62
        have hl_62 : ((rNx (I 48) n (nI 64) (((rM3 (I 48) n q).2))).2).1 ≤ n := rNx_le (by decide) (hl3_)
        have hB : jB G A s_.heap (sr I 40 (uS o n ((rNx (I 48) n (nI 64) (((rM3 (I 48) n q).2))).2)), J, O) H locs := by (rw [show sr I 40 (uS o n ((rNx (I 48) n (nI 64) (((rM3 (I 48) n q).2))).2)) = sr (sr I 40 (uS o n ((rM3 (I 48) n q).2))) 40 (uS o n ((rNx (I 48) n (nI 64) (((rM3 (I 48) n q).2))).2)) from by funext a; simp +decide only [sr]; (repeat' split) <;> first | rfl | (exfalso; omega) | (subst_vars; rfl)]; exact hB)
        refine j_eqi (y := b2 ((rNx (I 48) n (nI 64) (((rM3 (I 48) n q).2))).1)) (rfl) ?_
        refine j_eqi (y := b2 ((rM4 (I 48) n q).1)) (rfl) ?_
        have hB : jB G A s_.heap (sr I 40 (uS o n ((rM4 (I 48) n q).2)), J, O) H locs := by rw [← show uS o n ((rNx (I 48) n (nI 64) (((rM3 (I 48) n q).2))).2) = uS o n ((rM4 (I 48) n q).2) from rfl]; exact hB
        refine jb_if_eq (tgt := 85) hx hb dX8_takesMan_65 (by decide) (fun c_65 => ?_) (fun c_65 => ?_)
        · refine lv_aload_n hx hb dX8_takesMan_85 rfl (lv_at hl 4 rfl) ?_
          refine j_get (20, 0, 0) 14 (v := .ref (G.2.2.1 (21, 49, 0))) hC hB in_X8 lk_41 dX8_takesMan_86 jk20 rfl rfl (by decide) rfl ?_
          refine lv_iload_n hx hb dX8_takesMan_89 rfl (lv_at hl 3 rfl) ?_
          refine lv_iload_n hx hb dX8_takesMan_90 rfl (lv_at hl 2 rfl) ?_
          refine lv_iload_n hx hb dX8_takesMan_91 rfl (lv_at hl 1 rfl) ?_
          refine lv_iload hx hb dX8_takesMan_92 (lv_at hl 0 rfl) ?_
          refine j_csv [.ref (G.2.2.1 (21, 49, 0)), .int (kdV (nx (I 48) n q.1)), .int (((rM2 (I 48) n q).2).2), .int (((rM3 (I 48) n q).2).2), .int (nI 0)] hC hB hl.1 (c_X8_layMan_49 l_ G (sr I 40 (uS o n ((rM4 (I 48) n q).2))) J O (kdV (nx (I 48) n q.1)) (((rM2 (I 48) n q).2).2) (((rM3 (I 48) n q).2).2) (nI 0) (by omega) ((sr_nj (show (49 : Nat) ≠ 40 by omega)).trans (hM))) (va_cwS 5 hts gX8_takesMan_X8_layMan rfl rfl rfl (by decide +kernel) ⟨by decide, by decide⟩) dX8_takesMan_94 rfl rfl (Nat.le_of_ble_eq_true rfl) (fun u_94 H locs hp_94 hB => ?_)
          obtain rfl := hp_94
          have hB : jB G A s_.heap (sr (sr I 40 (uS o n ((rM4 (I 48) n q).2))) 49 (layManR (I 49) (kdV (nx (I 48) n q.1)) (((rM2 (I 48) n q).2).2) (((rM3 (I 48) n q).2).2) (nI 0)), J, O) H locs := hB
          refine lv_iconst (v := nI 1) hx hb dX8_takesMan_97 (by decide) ?_
          exact j_zret hC hB dX8_takesMan_98 (by decide) (⟨by rw [rMa, if_neg c_11, if_neg (by rw [c_32]; decide), if_neg (by rw [c_46]; decide), if_pos c_65]; rfl, by rw [rMaR, if_pos (by rw [rMa, if_neg c_11, if_neg (by rw [c_32]; decide), if_neg (by rw [c_46]; decide), if_pos c_65]), rMa, if_neg c_11, if_neg (by rw [c_32]; decide), if_neg (by rw [c_46]; decide), if_pos c_65, if_pos c_65]⟩)
        · refine lv_aload_n hx hb dX8_takesMan_68 rfl (lv_at hl 4 rfl) ?_
          refine lv_bipush (v := nI 7) hx hb dX8_takesMan_69 (by decide) ?_
          refine j_cvi (20, 0, 0) [.int (nI 7)] hC hB hl.1 (c_X8_takesDigit l_ G (sr I 40 (uS o n ((rM4 (I 48) n q).2))) J O 7 (by omega) (hn) (hl4_) (sr_self)) (cwV 1 hts gX8_takesMan_X8_takesDigit rfl rfl rfl (by decide +kernel) ⟨by decide, by decide⟩) dX8_takesMan_71 jk20 rfl rfl rfl rfl (Nat.le_of_ble_eq_true rfl) (fun r_71 u_71 H locs hp_71 hB => ?_)
          obtain ⟨rfl, rfl⟩ := hp_71
          have hl_71 : ((rDg (I 48) n 7 (((rM4 (I 48) n q).2))).2).1 ≤ n := rDg_le (hl4_)
          have hB : jB G A s_.heap (sr I 40 (uS o n ((rDg (I 48) n 7 (((rM4 (I 48) n q).2))).2)), J, O) H locs := by (rw [show sr I 40 (uS o n ((rDg (I 48) n 7 (((rM4 (I 48) n q).2))).2)) = sr (sr I 40 (uS o n ((rM4 (I 48) n q).2))) 40 (uS o n ((rDg (I 48) n 7 (((rM4 (I 48) n q).2))).2)) from by funext a; simp +decide only [sr]; (repeat' split) <;> first | rfl | (exfalso; omega) | (subst_vars; rfl)]; exact hB)
          refine j_eqi (y := b2 ((rDg (I 48) n 7 (((rM4 (I 48) n q).2))).1)) (rfl) ?_
          refine j_eqi (y := b2 ((rM5 (I 48) n q).1)) (rfl) ?_
          have hB : jB G A s_.heap (sr I 40 (uS o n ((rM5 (I 48) n q).2)), J, O) H locs := by rw [← show uS o n ((rDg (I 48) n 7 (((rM4 (I 48) n q).2))).2) = uS o n ((rM5 (I 48) n q).2) from rfl]; exact hB
          refine jb_if_ne (tgt := 79) hx hb dX8_takesMan_74 (by decide) (fun c_74 => ?_) (fun c_74 => ?_)
          · refine lv_aload_n hx hb dX8_takesMan_79 rfl (lv_at hl 4 rfl) ?_
            refine j_get (20, 0, 0) 15 (v := .int ((sr I 40 (uS o n ((rM5 (I 48) n q).2))) 40 4)) hC hB in_X8 lk_211 dX8_takesMan_80 jk20 rfl rfl (by decide) rfl ?_
            refine j_eqi (x := (sr I 40 (uS o n ((rM5 (I 48) n q).2))) 40 4) (y := ((rM5 (I 48) n q).2).2) (sr_sj.trans (uS_4)) ?_
            refine lv_istore (lv' := [(4, .int (((rM5 (I 48) n q).2).2)), (3, .int (((rM3 (I 48) n q).2).2)), (2, .int (((rM2 (I 48) n q).2).2)), (1, .int (kdV (nx (I 48) n q.1))), (0, .ref (G.2.2.1 (20, 0, 0)))]) hx hb dX8_takesMan_83 hl (by decide) rfl (fun ls hl => ?_)
            refine lv_aload_n hx hb dX8_takesMan_85 rfl (lv_at hl 4 rfl) ?_
            refine j_get (20, 0, 0) 14 (v := .ref (G.2.2.1 (21, 49, 0))) hC hB in_X8 lk_41 dX8_takesMan_86 jk20 rfl rfl (by decide) rfl ?_
            refine lv_iload_n hx hb dX8_takesMan_89 rfl (lv_at hl 3 rfl) ?_
            refine lv_iload_n hx hb dX8_takesMan_90 rfl (lv_at hl 2 rfl) ?_
            refine lv_iload_n hx hb dX8_takesMan_91 rfl (lv_at hl 1 rfl) ?_
            refine lv_iload hx hb dX8_takesMan_92 (lv_at hl 0 rfl) ?_
            refine j_csv [.ref (G.2.2.1 (21, 49, 0)), .int (kdV (nx (I 48) n q.1)), .int (((rM2 (I 48) n q).2).2), .int (((rM3 (I 48) n q).2).2), .int (((rM5 (I 48) n q).2).2)] hC hB hl.1 (c_X8_layMan_49 l_ G (sr I 40 (uS o n ((rM5 (I 48) n q).2))) J O (kdV (nx (I 48) n q.1)) (((rM2 (I 48) n q).2).2) (((rM3 (I 48) n q).2).2) (((rM5 (I 48) n q).2).2) (by omega) ((sr_nj (show (49 : Nat) ≠ 40 by omega)).trans (hM))) (va_cwS 5 hts gX8_takesMan_X8_layMan rfl rfl rfl (by decide +kernel) ⟨by decide, by decide⟩) dX8_takesMan_94 rfl rfl (Nat.le_of_ble_eq_true rfl) (fun u_94 H locs hp_94 hB => ?_)
            obtain rfl := hp_94
            have hB : jB G A s_.heap (sr (sr I 40 (uS o n ((rM5 (I 48) n q).2))) 49 (layManR (I 49) (kdV (nx (I 48) n q.1)) (((rM2 (I 48) n q).2).2) (((rM3 (I 48) n q).2).2) (((rM5 (I 48) n q).2).2)), J, O) H locs := hB
            refine lv_iconst (v := nI 1) hx hb dX8_takesMan_97 (by decide) ?_
            exact j_zret hC hB dX8_takesMan_98 (by decide) (⟨by rw [rMa, if_neg c_11, if_neg (by rw [c_32]; decide), if_neg (by rw [c_46]; decide), if_neg (by rw [c_65]; decide), if_neg (by rw [c_74]; decide)]; rfl, by rw [rMaR, if_pos (by rw [rMa, if_neg c_11, if_neg (by rw [c_32]; decide), if_neg (by rw [c_46]; decide), if_neg (by rw [c_65]; decide), if_neg (by rw [c_74]; decide)]), rMa, if_neg c_11, if_neg (by rw [c_32]; decide), if_neg (by rw [c_46]; decide), if_neg (by rw [c_65]; decide), if_neg (by rw [c_74]; decide), if_neg (by rw [c_65]; decide)]⟩)
          · refine lv_iconst (v := nI 0) hx hb dX8_takesMan_77 (by decide) ?_
            exact j_zret hC hB dX8_takesMan_78 (by decide) (⟨by rw [rMa, if_neg c_11, if_neg (by rw [c_32]; decide), if_neg (by rw [c_46]; decide), if_neg (by rw [c_65]; decide), if_pos c_74]; rfl, by rw [rMaR, if_neg (by rw [rMa, if_neg c_11, if_neg (by rw [c_32]; decide), if_neg (by rw [c_46]; decide), if_neg (by rw [c_65]; decide), if_pos c_74]; exact fun z => Bool.false_ne_true z), sr_id2 (by decide), rMa, if_neg c_11, if_neg (by rw [c_32]; decide), if_neg (by rw [c_46]; decide), if_neg (by rw [c_65]; decide), if_pos c_74]⟩)
      · refine lv_iconst (v := nI 0) hx hb dX8_takesMan_49 (by decide) ?_
        exact j_zret hC hB dX8_takesMan_50 (by decide) (⟨by rw [rMa, if_neg c_11, if_neg (by rw [c_32]; decide), if_pos c_46]; rfl, by rw [rMaR, if_neg (by rw [rMa, if_neg c_11, if_neg (by rw [c_32]; decide), if_pos c_46]; exact fun z => Bool.false_ne_true z), sr_id2 (by decide), rMa, if_neg c_11, if_neg (by rw [c_32]; decide), if_pos c_46]⟩)
    · refine lv_iconst (v := nI 0) hx hb dX8_takesMan_35 (by decide) ?_
      exact j_zret hC hB dX8_takesMan_36 (by decide) (⟨by rw [rMa, if_neg c_11, if_pos c_32]; rfl, by rw [rMaR, if_neg (by rw [rMa, if_neg c_11, if_pos c_32]; exact fun z => Bool.false_ne_true z), sr_id2 (by decide), rMa, if_neg c_11, if_pos c_32]⟩)
  · refine lv_iconst (v := nI 0) hx hb dX8_takesMan_14 (by decide) ?_
    exact j_zret hC hB dX8_takesMan_15 (by decide) (⟨by rw [rMa, if_pos c_11]; rfl, by rw [rMaR, if_neg (by rw [rMa, if_pos c_11]; exact fun z => Bool.false_ne_true z), sr_id2 (by decide), rMa, if_pos c_11]⟩)

set_option maxHeartbeats 4000000 in
set_option maxRecDepth 100000 in
theorem c_X8_takesPrison (l_ : Launch) (G : jG) (I : Nat → Nat → Int32) (J : Nat → Nat → Int64) (O : Nat → Nat → Nat) (hD0 : I 49 0 = nI 0) (hM0 : I 49 1 = nI 0) {o : Nat → Int32} {n : Nat} {q : Nat × Int32} (hn : n ≤ 90) (hq : q.1 ≤ n) (hU : I 40 = uS o n q) : jMi l_ G yX8_takesPrison wsX8_takesPrison ({ frames := 3, cells := 0, slots := 0, locals := 71 }) [.ref (G.2.2.1 (20, 0, 0))] (I, J, O) (fun r u => r = b2 ((rP3 (I 48) n q (I 49)).1) ∧ u = (sr (sr I 40 (uS o n ((rP3 (I 48) n q (I 49)).2))) 49 ((rP2 (I 48) n q (I 49)).1), J, O)) := by
  refine jMi_of (cc := cX8_takesPrison) (maxL := 2) (ret := (some .boolean)) (lv0 := [(0, .ref (G.2.2.1 (20, 0, 0)))]) (by decide) rfl (Nat.le_of_ble_eq_true rfl) rfl ?_
  intro pg_ ev_ s_ mi_ below meth cd_ A ls hC hB hl
  obtain ⟨hx, hb, hr, hml, hown, hts, hlocks, hK, hA⟩ := id hC
  have lk_41 := hts (.fieldLink RX8 41 "RiddlePrisonModel" "anew" "[I") (by decide +kernel)
  have in_X8 := (fun w h => List.mem_cons_of_mem _ (List.mem_append_right _ h) : ∀ w ∈ wsX80, w ∈ wsX8_takesPrison)
  have hU2 : I 40 2 = nI n := by rw [hU]; exact uS_2
  have hU3 : I 40 3 = nI q.1 := by rw [hU]; exact uS_3
  have hU4 : I 40 4 = q.2 := by rw [hU]; exact uS_4
  refine lv_aload_n hx hb dX8_takesPrison_0 rfl (lv_at hl 0 rfl) ?_
  refine j_cvi (20, 0, 0) [] hC hB hl.1 (c_X8_takesDoor l_ G I J O  (by omega) (hD0) (hn) (hq) (hU)) (cwV 0 hts gX8_takesPrison_X8_takesDoor rfl rfl rfl (by decide +kernel) ⟨by decide, by decide⟩) dX8_takesPrison_1 jk20 rfl rfl rfl rfl (Nat.le_of_ble_eq_true rfl) (fun r_1 u_1 H locs hp_1 hB => ?_)
  obtain ⟨hr_1, rfl⟩ := hp_1
  have hl_1 : ((rDo (I 48) n q).2).1 ≤ n := rDo_le (hq)
  have hB : jB G A s_.heap (sr (sr I 40 (uS o n ((rDo (I 48) n q).2))) 49 (rDoR (I 48) n q (I 49)), J, O) H locs := hB
  refine j_eqi (y := b2 ((rDo (I 48) n q).1)) hr_1 ?_
  refine lv_istore_n (lv' := [(1, .int (b2 ((rDo (I 48) n q).1))), (0, .ref (G.2.2.1 (20, 0, 0)))]) hx hb dX8_takesPrison_4 rfl hl (by decide) rfl (fun ls hl => ?_)
  have lp_5 : ∀ (fu : Nat) (r1 : Nat → Int32) (g1 : Nat → Int32) (p1 : Nat) (v1 : Int32) (is1 : Bool) (f1 : Nat), f1 < fu → (r1 = uS o n (p1, v1)) → (p1 ≤ n) → (f1 ≤ 9) → (g1 1 = nI 0) → (is1 = true → g1 0 = nI (10 - f1)) → (rDs (I 48) n f1 (g1, (p1, v1), is1) = (rP1 (I 48) n q (I 49))) → ∀ H locs ls, jB G A s_.heap (sr (sr I 40 (r1)) 49 (g1), J, O) H locs → lv_has ls 2 [(1, .int (b2 is1)), (0, .ref (G.2.2.1 (20, 0, 0)))] → W pg_ l_ ev_ ({ frames := 3, cells := 0, slots := 0, locals := 71 }) s_ mi_ ([.ref (G.2.2.1 (20, 0, 0))]).toArray below meth cd_ H locs 0 0 (jQi G A below [.ref (G.2.2.1 (20, 0, 0))] s_ (fun r u => r = b2 ((rP3 (I 48) n q (I 49)).1) ∧ u = (sr (sr I 40 (uS o n ((rP3 (I 48) n q (I 49)).2))) 49 ((rP2 (I 48) n q (I 49)).1), J, O))) (F0 mi_ 5 ls []) := by
    intro fu
    induction fu with
    | zero => intro r1 g1 p1 v1 is1 f1 hf; exact absurd hf (Nat.not_lt_zero _)
    | succ fu ih_5 =>
      intro r1 g1 p1 v1 is1 f1 hf_5 hr1 hp1 hf1 hm1 hg1 hit1 H locs ls hB hl
      refine lv_iload_n hx hb dX8_takesPrison_5 rfl (lv_at hl 0 rfl) ?_
      refine jb_if_eq (tgt := 37) hx hb dX8_takesPrison_6 (by decide) (fun c_6 => ?_) (fun c_6 => ?_)
      · have hP1 : rP1 (I 48) n q (I 49) = (g1, (p1, v1), is1) := by rw [← hit1]; exact rDs_stop _ _ c_6
        refine lv_iload_n hx hb dX8_takesPrison_37 rfl (lv_at hl 0 rfl) ?_
        refine jb_if_eq (tgt := 86) hx hb dX8_takesPrison_38 (by decide) (fun c_38 => ?_) (fun c_38 => ?_)
        · have hP2 : rP2 (I 48) n q (I 49) = (g1, (p1, v1), is1) := by rw [rP2, hP1]; dsimp only; rw [if_neg (by rw [c_38]; decide)]
          refine lv_iload_n hx hb dX8_takesPrison_86 rfl (lv_at hl 0 rfl) ?_
          refine jb_if_eq (tgt := 103) hx hb dX8_takesPrison_87 (by decide) (fun c_87 => ?_) (fun c_87 => ?_)
          · refine lv_iconst (v := nI 0) hx hb dX8_takesPrison_103 (by decide) ?_
            exact j_zret hC hB dX8_takesPrison_104 (by decide) (⟨by rw [rP3, hP2]; dsimp only; rw [if_neg (by rw [c_87]; decide)]; rfl, by rw [rP3, hP2]; dsimp only; rw [if_neg (by rw [c_87]; decide)]; rw [hr1]⟩)
          · refine lv_aload_n hx hb dX8_takesPrison_90 rfl (lv_at hl 1 rfl) ?_
            refine j_cvi (20, 0, 0) [] hC hB hl.1 (c_X8_next l_ G (sr (sr I 40 (r1)) 49 (g1)) J O  (hn) (hp1) ((sr_ne (show (40 : Nat) ≠ 49 by decide)).trans (sr_self.trans (hr1)))) (cwV 0 hts gX8_takesPrison_X8_next rfl rfl rfl (by decide +kernel) ⟨by decide, by decide⟩) dX8_takesPrison_91 jk20 rfl rfl rfl rfl (Nat.le_of_ble_eq_true rfl) (fun r_91 u_91 H locs hp_91 hB => ?_)
            obtain ⟨hr_91, rfl⟩ := hp_91
            try simp only [show (sr (sr I 40 (r1)) 49 (g1)) 48 = I 48 from (sr_ne (show (48 : Nat) ≠ 49 by omega)).trans ((sr_ne (show (48 : Nat) ≠ 40 by omega)))] at hr_91
            have hl_91 : ((sk (I 48) n ((p1, v1)).1, ((p1, v1)).2)).1 ≤ n := (sk_le (hp1)).2
            try simp only [show (sr (sr I 40 (r1)) 49 (g1)) 48 = I 48 from (sr_ne (show (48 : Nat) ≠ 49 by omega)).trans ((sr_ne (show (48 : Nat) ≠ 40 by omega)))] at hB
            have hB : jB G A s_.heap (sr (sr I 49 (g1)) 40 (uS o n ((sk (I 48) n ((p1, v1)).1, ((p1, v1)).2))), J, O) H locs := by (rw [show sr (sr I 49 (g1)) 40 (uS o n ((sk (I 48) n ((p1, v1)).1, ((p1, v1)).2))) = sr (sr (sr I 40 (r1)) 49 (g1)) 40 (uS o n ((sk (I 48) n ((p1, v1)).1, ((p1, v1)).2))) from by funext a; simp +decide only [sr]; (repeat' split) <;> first | rfl | (exfalso; omega) | (subst_vars; rfl)]; exact hB)
            refine j_eqi (y := nx (I 48) n ((p1, v1)).1) hr_91 ?_
            refine lv_bipush (v := (-4 : Int32)) hx hb dX8_takesPrison_94 (by decide) ?_
            refine lv_icmp_ne (tgt := 103) hx hb dX8_takesPrison_96 (by decide) (fun c_96 => ?_) (fun c_96 => ?_)
            · refine lv_iconst (v := nI 0) hx hb dX8_takesPrison_103 (by decide) ?_
              exact j_zret hC hB dX8_takesPrison_104 (by decide) (⟨by rw [rP3, hP2]; dsimp only; rw [if_pos c_87]; show _ = b2 (decide _); rw [decide_eq_false c_96]; rfl, by rw [rP3, hP2]; dsimp only; rw [if_pos c_87]; rw [sr_sw (show (49 : Nat) ≠ 40 by decide)]⟩)
            · refine lv_iconst (v := nI 1) hx hb dX8_takesPrison_99 (by decide) ?_
              refine lv_goto (tgt := 104) hx hb dX8_takesPrison_100 (by decide) ?_
              exact j_zret hC hB dX8_takesPrison_104 (by decide) (⟨by rw [rP3, hP2]; dsimp only; rw [if_pos c_87]; show _ = b2 (decide _); rw [decide_eq_true c_96]; rfl, by rw [rP3, hP2]; dsimp only; rw [if_pos c_87]; rw [sr_sw (show (49 : Nat) ≠ 40 by decide)]⟩)
        · exact absurd (c_38.symm.trans c_6) (by decide)
      · refine lv_aload_n hx hb dX8_takesPrison_9 rfl (lv_at hl 1 rfl) ?_
        refine j_get (20, 0, 0) 14 (v := .ref (G.2.2.1 (21, 49, 0))) hC hB in_X8 lk_41 dX8_takesPrison_10 jk20 rfl rfl (by decide) rfl ?_
        refine lv_iconst (v := nI 0) hx hb dX8_takesPrison_13 (by decide) ?_
        refine j_iLd 49 0 hC hB dX8_takesPrison_14 (by decide) rfl (by simp only [lenI_49]; omega) ?_
        refine j_eqi (x := (sr (sr I 40 (r1)) 49 (g1)) 49 0) (y := nI (10 - f1)) (sr_sj.trans (hg1 c_6)) ?_
        refine lv_bipush (v := nI 10) hx hb dX8_takesPrison_15 (by decide) ?_
        refine jn_icmp_ge (tgt := 37) hx hb dX8_takesPrison_17 (by decide) (by omega) (by omega) (fun c_17 => ?_) (fun c_17 => ?_)
        · have hP1 : rP1 (I 48) n q (I 49) = (g1, (p1, v1), is1) := by rw [← hit1, show f1 = 0 by omega]; rfl
          refine lv_iload_n hx hb dX8_takesPrison_37 rfl (lv_at hl 0 rfl) ?_
          refine jb_if_eq (tgt := 86) hx hb dX8_takesPrison_38 (by decide) (fun c_38 => ?_) (fun c_38 => ?_)
          · exact absurd (c_38.symm.trans c_6) (by decide)
          · refine lv_aload_n hx hb dX8_takesPrison_41 rfl (lv_at hl 1 rfl) ?_
            refine lv_bipush (v := nI 59) hx hb dX8_takesPrison_42 (by decide) ?_
            refine j_cvi (20, 0, 0) [.int (nI 59)] hC hB hl.1 (c_X8_isNext l_ G (sr (sr I 40 (r1)) 49 (g1)) J O (nI 59) (by decide) (hn) (hp1) ((sr_ne (show (40 : Nat) ≠ 49 by decide)).trans (sr_self.trans (hr1)))) (cwV 1 hts gX8_takesPrison_X8_isNext rfl rfl rfl (by decide +kernel) ⟨by decide, by decide⟩) dX8_takesPrison_44 jk20 rfl rfl rfl rfl (Nat.le_of_ble_eq_true rfl) (fun r_44 u_44 H locs hp_44 hB => ?_)
            obtain ⟨hr_44, rfl⟩ := hp_44
            try simp only [show (sr (sr I 40 (r1)) 49 (g1)) 48 = I 48 from (sr_ne (show (48 : Nat) ≠ 49 by omega)).trans ((sr_ne (show (48 : Nat) ≠ 40 by omega)))] at hr_44
            have hl_44 : ((rNx (I 48) n (nI 59) ((p1, v1))).2).1 ≤ n := rNx_le (by decide) (hp1)
            try simp only [show (sr (sr I 40 (r1)) 49 (g1)) 48 = I 48 from (sr_ne (show (48 : Nat) ≠ 49 by omega)).trans ((sr_ne (show (48 : Nat) ≠ 40 by omega)))] at hB
            have hB : jB G A s_.heap (sr (sr I 49 (g1)) 40 (uS o n ((rNx (I 48) n (nI 59) ((p1, v1))).2)), J, O) H locs := by (rw [show sr (sr I 49 (g1)) 40 (uS o n ((rNx (I 48) n (nI 59) ((p1, v1))).2)) = sr (sr (sr I 40 (r1)) 49 (g1)) 40 (uS o n ((rNx (I 48) n (nI 59) ((p1, v1))).2)) from by funext a; simp +decide only [sr]; (repeat' split) <;> first | rfl | (exfalso; omega) | (subst_vars; rfl)]; exact hB)
            refine j_eqi (y := b2 ((rNx (I 48) n (nI 59) ((p1, v1))).1)) hr_44 ?_
            refine jb_if_eq (tgt := 86) hx hb dX8_takesPrison_47 (by decide) (fun c_47 => ?_) (fun c_47 => ?_)
            · have hP2 : rP2 (I 48) n q (I 49) = (g1, ((rNx (I 48) n (nI 59) ((p1, v1))).2), is1) := by rw [rP2, hP1]; dsimp only; rw [if_pos c_38, if_neg (by rw [c_47]; decide)]
              refine lv_iload_n hx hb dX8_takesPrison_86 rfl (lv_at hl 0 rfl) ?_
              refine jb_if_eq (tgt := 103) hx hb dX8_takesPrison_87 (by decide) (fun c_87 => ?_) (fun c_87 => ?_)
              · refine lv_iconst (v := nI 0) hx hb dX8_takesPrison_103 (by decide) ?_
                exact j_zret hC hB dX8_takesPrison_104 (by decide) (⟨by rw [rP3, hP2]; dsimp only; rw [if_neg (by rw [c_87]; decide)]; rfl, by rw [rP3, hP2]; dsimp only; rw [if_neg (by rw [c_87]; decide)]; rw [sr_sw (show (49 : Nat) ≠ 40 by decide)]⟩)
              · refine lv_aload_n hx hb dX8_takesPrison_90 rfl (lv_at hl 1 rfl) ?_
                refine j_cvi (20, 0, 0) [] hC hB hl.1 (c_X8_next l_ G (sr (sr I 49 (g1)) 40 (uS o n ((rNx (I 48) n (nI 59) ((p1, v1))).2))) J O  (hn) (rNx_le (by decide) (hp1)) (sr_self)) (cwV 0 hts gX8_takesPrison_X8_next rfl rfl rfl (by decide +kernel) ⟨by decide, by decide⟩) dX8_takesPrison_91 jk20 rfl rfl rfl rfl (Nat.le_of_ble_eq_true rfl) (fun r_91 u_91 H locs hp_91 hB => ?_)
                obtain ⟨hr_91, rfl⟩ := hp_91
                try simp only [show (sr (sr I 49 (g1)) 40 (uS o n ((rNx (I 48) n (nI 59) ((p1, v1))).2))) 48 = I 48 from (sr_ne (show (48 : Nat) ≠ 40 by omega)).trans ((sr_ne (show (48 : Nat) ≠ 49 by omega)))] at hr_91
                have hl_91 : ((sk (I 48) n (((rNx (I 48) n (nI 59) ((p1, v1))).2)).1, (((rNx (I 48) n (nI 59) ((p1, v1))).2)).2)).1 ≤ n := (sk_le (rNx_le (by decide) (hp1))).2
                try simp only [show (sr (sr I 49 (g1)) 40 (uS o n ((rNx (I 48) n (nI 59) ((p1, v1))).2))) 48 = I 48 from (sr_ne (show (48 : Nat) ≠ 40 by omega)).trans ((sr_ne (show (48 : Nat) ≠ 49 by omega)))] at hB
                have hB : jB G A s_.heap (sr (sr I 49 (g1)) 40 (uS o n ((sk (I 48) n (((rNx (I 48) n (nI 59) ((p1, v1))).2)).1, (((rNx (I 48) n (nI 59) ((p1, v1))).2)).2))), J, O) H locs := by (rw [show sr (sr I 49 (g1)) 40 (uS o n ((sk (I 48) n (((rNx (I 48) n (nI 59) ((p1, v1))).2)).1, (((rNx (I 48) n (nI 59) ((p1, v1))).2)).2))) = sr (sr (sr I 49 (g1)) 40 (uS o n ((rNx (I 48) n (nI 59) ((p1, v1))).2))) 40 (uS o n ((sk (I 48) n (((rNx (I 48) n (nI 59) ((p1, v1))).2)).1, (((rNx (I 48) n (nI 59) ((p1, v1))).2)).2))) from by funext a; simp +decide only [sr]; (repeat' split) <;> first | rfl | (exfalso; omega) | (subst_vars; rfl)]; exact hB)
                refine j_eqi (y := nx (I 48) n (((rNx (I 48) n (nI 59) ((p1, v1))).2)).1) hr_91 ?_
                refine lv_bipush (v := (-4 : Int32)) hx hb dX8_takesPrison_94 (by decide) ?_
                refine lv_icmp_ne (tgt := 103) hx hb dX8_takesPrison_96 (by decide) (fun c_96 => ?_) (fun c_96 => ?_)
                · refine lv_iconst (v := nI 0) hx hb dX8_takesPrison_103 (by decide) ?_
                  exact j_zret hC hB dX8_takesPrison_104 (by decide) (⟨by rw [rP3, hP2]; dsimp only; rw [if_pos c_87]; show _ = b2 (decide _); rw [decide_eq_false c_96]; rfl, by rw [rP3, hP2]; dsimp only; rw [if_pos c_87]; rw [sr_sw (show (49 : Nat) ≠ 40 by decide)]⟩)
                · refine lv_iconst (v := nI 1) hx hb dX8_takesPrison_99 (by decide) ?_
                  refine lv_goto (tgt := 104) hx hb dX8_takesPrison_100 (by decide) ?_
                  exact j_zret hC hB dX8_takesPrison_104 (by decide) (⟨by rw [rP3, hP2]; dsimp only; rw [if_pos c_87]; show _ = b2 (decide _); rw [decide_eq_true c_96]; rfl, by rw [rP3, hP2]; dsimp only; rw [if_pos c_87]; rw [sr_sw (show (49 : Nat) ≠ 40 by decide)]⟩)
            · refine lv_aload_n hx hb dX8_takesPrison_50 rfl (lv_at hl 1 rfl) ?_
              refine j_cvi (20, 0, 0) [] hC hB hl.1 (c_X8_takesMan l_ G (sr (sr I 49 (g1)) 40 (uS o n ((rNx (I 48) n (nI 59) ((p1, v1))).2))) J O  (by omega) ((sr_nj (show (49 : Nat) ≠ 40 by omega)).trans (sr_sj.trans (hm1))) (hn) (rNx_le (by decide) (hp1)) (sr_self)) (cwV 0 hts gX8_takesPrison_X8_takesMan rfl rfl rfl (by decide +kernel) ⟨by decide, by decide⟩) dX8_takesPrison_51 jk20 rfl rfl rfl rfl (Nat.le_of_ble_eq_true rfl) (fun r_51 u_51 H locs hp_51 hB => ?_)
              obtain ⟨hr_51, rfl⟩ := hp_51
              try simp only [show (sr (sr I 49 (g1)) 40 (uS o n ((rNx (I 48) n (nI 59) ((p1, v1))).2))) 48 = I 48 from (sr_ne (show (48 : Nat) ≠ 40 by omega)).trans ((sr_ne (show (48 : Nat) ≠ 49 by omega))), show (sr (sr I 49 (g1)) 40 (uS o n ((rNx (I 48) n (nI 59) ((p1, v1))).2))) 49 = g1 from (sr_ne (show (49 : Nat) ≠ 40 by omega)).trans (sr_self)] at hr_51
              have hl_51 : ((rMa (I 48) n (((rNx (I 48) n (nI 59) ((p1, v1))).2))).2).1 ≤ n := rMa_le (rNx_le (by decide) (hp1))
              try simp only [show (sr (sr I 49 (g1)) 40 (uS o n ((rNx (I 48) n (nI 59) ((p1, v1))).2))) 48 = I 48 from (sr_ne (show (48 : Nat) ≠ 40 by omega)).trans ((sr_ne (show (48 : Nat) ≠ 49 by omega))), show (sr (sr I 49 (g1)) 40 (uS o n ((rNx (I 48) n (nI 59) ((p1, v1))).2))) 49 = g1 from (sr_ne (show (49 : Nat) ≠ 40 by omega)).trans (sr_self)] at hB
              have hB : jB G A s_.heap (sr (sr I 40 (uS o n ((rMa (I 48) n (((rNx (I 48) n (nI 59) ((p1, v1))).2))).2))) 49 (rMaR (I 48) n (((rNx (I 48) n (nI 59) ((p1, v1))).2)) (g1)), J, O) H locs := by (rw [show sr (sr I 40 (uS o n ((rMa (I 48) n (((rNx (I 48) n (nI 59) ((p1, v1))).2))).2))) 49 (rMaR (I 48) n (((rNx (I 48) n (nI 59) ((p1, v1))).2)) (g1)) = sr (sr (sr (sr I 49 (g1)) 40 (uS o n ((rNx (I 48) n (nI 59) ((p1, v1))).2))) 40 (uS o n ((rMa (I 48) n (((rNx (I 48) n (nI 59) ((p1, v1))).2))).2))) 49 (rMaR (I 48) n (((rNx (I 48) n (nI 59) ((p1, v1))).2)) (g1)) from by funext a; simp +decide only [sr]; (repeat' split) <;> first | rfl | (exfalso; omega) | (subst_vars; rfl)]; exact hB)
              refine j_eqi (y := b2 ((rMa (I 48) n (((rNx (I 48) n (nI 59) ((p1, v1))).2))).1)) hr_51 ?_
              refine lv_istore_n (lv' := [(1, .int (b2 ((rMa (I 48) n (((rNx (I 48) n (nI 59) ((p1, v1))).2))).1))), (0, .ref (G.2.2.1 (20, 0, 0)))]) hx hb dX8_takesPrison_54 rfl hl (by decide) rfl (fun ls hl => ?_)
              have lp_55 : ∀ (fu : Nat) (r2 : Nat → Int32) (g2 : Nat → Int32) (p2 : Nat) (v2 : Int32) (is2 : Bool) (f2 : Nat), f2 < fu → (r2 = uS o n (p2, v2)) → (p2 ≤ n) → (f2 ≤ 3) → (is2 = true → g2 1 = nI (4 - f2)) → (rMs (I 48) n f2 (g2, (p2, v2), is2) = rMs (I 48) n 3 (rMaR (I 48) n (rNx (I 48) n (nI 59) (p1, v1)).2 g1, (rMa (I 48) n (rNx (I 48) n (nI 59) (p1, v1)).2).2, (rMa (I 48) n (rNx (I 48) n (nI 59) (p1, v1)).2).1)) → ∀ H locs ls, jB G A s_.heap (sr (sr I 40 (r2)) 49 (g2), J, O) H locs → lv_has ls 2 [(1, .int (b2 is2)), (0, .ref (G.2.2.1 (20, 0, 0)))] → W pg_ l_ ev_ ({ frames := 3, cells := 0, slots := 0, locals := 71 }) s_ mi_ ([.ref (G.2.2.1 (20, 0, 0))]).toArray below meth cd_ H locs 0 0 (jQi G A below [.ref (G.2.2.1 (20, 0, 0))] s_ (fun r u => r = b2 ((rP3 (I 48) n q (I 49)).1) ∧ u = (sr (sr I 40 (uS o n ((rP3 (I 48) n q (I 49)).2))) 49 ((rP2 (I 48) n q (I 49)).1), J, O))) (F0 mi_ 55 ls []) := by
                intro fu
                induction fu with
                | zero => intro r2 g2 p2 v2 is2 f2 hf; exact absurd hf (Nat.not_lt_zero _)
                | succ fu ih_55 =>
                  intro r2 g2 p2 v2 is2 f2 hf_55 hr2 hp2 hf2 hg2 hit2 H locs ls hB hl
                  refine lv_iload_n hx hb dX8_takesPrison_55 rfl (lv_at hl 0 rfl) ?_
                  refine jb_if_eq (tgt := 86) hx hb dX8_takesPrison_56 (by decide) (fun c_56 => ?_) (fun c_56 => ?_)
                  · have hP2 : rP2 (I 48) n q (I 49) = (g2, (p2, v2), is2) := by rw [rP2, hP1]; dsimp only; rw [if_pos c_38, if_pos c_47]; exact (hit2.symm).trans (rMs_stop _ _ c_56)
                    refine lv_iload_n hx hb dX8_takesPrison_86 rfl (lv_at hl 0 rfl) ?_
                    refine jb_if_eq (tgt := 103) hx hb dX8_takesPrison_87 (by decide) (fun c_87 => ?_) (fun c_87 => ?_)
                    · refine lv_iconst (v := nI 0) hx hb dX8_takesPrison_103 (by decide) ?_
                      exact j_zret hC hB dX8_takesPrison_104 (by decide) (⟨by rw [rP3, hP2]; dsimp only; rw [if_neg (by rw [c_87]; decide)]; rfl, by rw [rP3, hP2]; dsimp only; rw [if_neg (by rw [c_87]; decide)]; rw [hr2]⟩)
                    · refine lv_aload_n hx hb dX8_takesPrison_90 rfl (lv_at hl 1 rfl) ?_
                      refine j_cvi (20, 0, 0) [] hC hB hl.1 (c_X8_next l_ G (sr (sr I 40 (r2)) 49 (g2)) J O  (hn) (hp2) ((sr_ne (show (40 : Nat) ≠ 49 by decide)).trans (sr_self.trans (hr2)))) (cwV 0 hts gX8_takesPrison_X8_next rfl rfl rfl (by decide +kernel) ⟨by decide, by decide⟩) dX8_takesPrison_91 jk20 rfl rfl rfl rfl (Nat.le_of_ble_eq_true rfl) (fun r_91 u_91 H locs hp_91 hB => ?_)
                      obtain ⟨hr_91, rfl⟩ := hp_91
                      try simp only [show (sr (sr I 40 (r2)) 49 (g2)) 48 = I 48 from (sr_ne (show (48 : Nat) ≠ 49 by omega)).trans ((sr_ne (show (48 : Nat) ≠ 40 by omega)))] at hr_91
                      have hl_91 : ((sk (I 48) n ((p2, v2)).1, ((p2, v2)).2)).1 ≤ n := (sk_le (hp2)).2
                      try simp only [show (sr (sr I 40 (r2)) 49 (g2)) 48 = I 48 from (sr_ne (show (48 : Nat) ≠ 49 by omega)).trans ((sr_ne (show (48 : Nat) ≠ 40 by omega)))] at hB
                      have hB : jB G A s_.heap (sr (sr I 49 (g2)) 40 (uS o n ((sk (I 48) n ((p2, v2)).1, ((p2, v2)).2))), J, O) H locs := by (rw [show sr (sr I 49 (g2)) 40 (uS o n ((sk (I 48) n ((p2, v2)).1, ((p2, v2)).2))) = sr (sr (sr I 40 (r2)) 49 (g2)) 40 (uS o n ((sk (I 48) n ((p2, v2)).1, ((p2, v2)).2))) from by funext a; simp +decide only [sr]; (repeat' split) <;> first | rfl | (exfalso; omega) | (subst_vars; rfl)]; exact hB)
                      refine j_eqi (y := nx (I 48) n ((p2, v2)).1) hr_91 ?_
                      refine lv_bipush (v := (-4 : Int32)) hx hb dX8_takesPrison_94 (by decide) ?_
                      refine lv_icmp_ne (tgt := 103) hx hb dX8_takesPrison_96 (by decide) (fun c_96 => ?_) (fun c_96 => ?_)
                      · refine lv_iconst (v := nI 0) hx hb dX8_takesPrison_103 (by decide) ?_
                        exact j_zret hC hB dX8_takesPrison_104 (by decide) (⟨by rw [rP3, hP2]; dsimp only; rw [if_pos c_87]; show _ = b2 (decide _); rw [decide_eq_false c_96]; rfl, by rw [rP3, hP2]; dsimp only; rw [if_pos c_87]; rw [sr_sw (show (49 : Nat) ≠ 40 by decide)]⟩)
                      · refine lv_iconst (v := nI 1) hx hb dX8_takesPrison_99 (by decide) ?_
                        refine lv_goto (tgt := 104) hx hb dX8_takesPrison_100 (by decide) ?_
                        exact j_zret hC hB dX8_takesPrison_104 (by decide) (⟨by rw [rP3, hP2]; dsimp only; rw [if_pos c_87]; show _ = b2 (decide _); rw [decide_eq_true c_96]; rfl, by rw [rP3, hP2]; dsimp only; rw [if_pos c_87]; rw [sr_sw (show (49 : Nat) ≠ 40 by decide)]⟩)
                  · refine lv_aload_n hx hb dX8_takesPrison_59 rfl (lv_at hl 1 rfl) ?_
                    refine j_get (20, 0, 0) 14 (v := .ref (G.2.2.1 (21, 49, 0))) hC hB in_X8 lk_41 dX8_takesPrison_60 jk20 rfl rfl (by decide) rfl ?_
                    refine lv_iconst (v := nI 1) hx hb dX8_takesPrison_63 (by decide) ?_
                    refine j_iLd 49 1 hC hB dX8_takesPrison_64 (by decide) rfl (by simp only [lenI_49]; omega) ?_
                    refine j_eqi (x := (sr (sr I 40 (r2)) 49 (g2)) 49 1) (y := nI (4 - f2)) (sr_sj.trans (hg2 c_56)) ?_
                    refine lv_iconst (v := nI 4) hx hb dX8_takesPrison_65 (by decide) ?_
                    refine jn_icmp_ge (tgt := 86) hx hb dX8_takesPrison_66 (by decide) (by omega) (by omega) (fun c_66 => ?_) (fun c_66 => ?_)
                    · have hP2 : rP2 (I 48) n q (I 49) = (g2, (p2, v2), is2) := by rw [rP2, hP1]; dsimp only; rw [if_pos c_38, if_pos c_47]; refine (hit2.symm).trans ?_; rw [show f2 = 0 by omega]; rfl
                      refine lv_iload_n hx hb dX8_takesPrison_86 rfl (lv_at hl 0 rfl) ?_
                      refine jb_if_eq (tgt := 103) hx hb dX8_takesPrison_87 (by decide) (fun c_87 => ?_) (fun c_87 => ?_)
                      · refine lv_iconst (v := nI 0) hx hb dX8_takesPrison_103 (by decide) ?_
                        exact j_zret hC hB dX8_takesPrison_104 (by decide) (⟨by rw [rP3, hP2]; dsimp only; rw [if_neg (by rw [c_87]; decide)]; rfl, by rw [rP3, hP2]; dsimp only; rw [if_neg (by rw [c_87]; decide)]; rw [hr2]⟩)
                      · refine lv_aload_n hx hb dX8_takesPrison_90 rfl (lv_at hl 1 rfl) ?_
                        refine j_cvi (20, 0, 0) [] hC hB hl.1 (c_X8_next l_ G (sr (sr I 40 (r2)) 49 (g2)) J O  (hn) (hp2) ((sr_ne (show (40 : Nat) ≠ 49 by decide)).trans (sr_self.trans (hr2)))) (cwV 0 hts gX8_takesPrison_X8_next rfl rfl rfl (by decide +kernel) ⟨by decide, by decide⟩) dX8_takesPrison_91 jk20 rfl rfl rfl rfl (Nat.le_of_ble_eq_true rfl) (fun r_91 u_91 H locs hp_91 hB => ?_)
                        obtain ⟨hr_91, rfl⟩ := hp_91
                        try simp only [show (sr (sr I 40 (r2)) 49 (g2)) 48 = I 48 from (sr_ne (show (48 : Nat) ≠ 49 by omega)).trans ((sr_ne (show (48 : Nat) ≠ 40 by omega)))] at hr_91
                        have hl_91 : ((sk (I 48) n ((p2, v2)).1, ((p2, v2)).2)).1 ≤ n := (sk_le (hp2)).2
                        try simp only [show (sr (sr I 40 (r2)) 49 (g2)) 48 = I 48 from (sr_ne (show (48 : Nat) ≠ 49 by omega)).trans ((sr_ne (show (48 : Nat) ≠ 40 by omega)))] at hB
                        have hB : jB G A s_.heap (sr (sr I 49 (g2)) 40 (uS o n ((sk (I 48) n ((p2, v2)).1, ((p2, v2)).2))), J, O) H locs := by (rw [show sr (sr I 49 (g2)) 40 (uS o n ((sk (I 48) n ((p2, v2)).1, ((p2, v2)).2))) = sr (sr (sr I 40 (r2)) 49 (g2)) 40 (uS o n ((sk (I 48) n ((p2, v2)).1, ((p2, v2)).2))) from by funext a; simp +decide only [sr]; (repeat' split) <;> first | rfl | (exfalso; omega) | (subst_vars; rfl)]; exact hB)
                        refine j_eqi (y := nx (I 48) n ((p2, v2)).1) hr_91 ?_
                        refine lv_bipush (v := (-4 : Int32)) hx hb dX8_takesPrison_94 (by decide) ?_
                        refine lv_icmp_ne (tgt := 103) hx hb dX8_takesPrison_96 (by decide) (fun c_96 => ?_) (fun c_96 => ?_)
                        · refine lv_iconst (v := nI 0) hx hb dX8_takesPrison_103 (by decide) ?_
                          exact j_zret hC hB dX8_takesPrison_104 (by decide) (⟨by rw [rP3, hP2]; dsimp only; rw [if_pos c_87]; show _ = b2 (decide _); rw [decide_eq_false c_96]; rfl, by rw [rP3, hP2]; dsimp only; rw [if_pos c_87]; rw [sr_sw (show (49 : Nat) ≠ 40 by decide)]⟩)
                        · refine lv_iconst (v := nI 1) hx hb dX8_takesPrison_99 (by decide) ?_
                          refine lv_goto (tgt := 104) hx hb dX8_takesPrison_100 (by decide) ?_
                          exact j_zret hC hB dX8_takesPrison_104 (by decide) (⟨by rw [rP3, hP2]; dsimp only; rw [if_pos c_87]; show _ = b2 (decide _); rw [decide_eq_true c_96]; rfl, by rw [rP3, hP2]; dsimp only; rw [if_pos c_87]; rw [sr_sw (show (49 : Nat) ≠ 40 by decide)]⟩)
                    · refine lv_aload_n hx hb dX8_takesPrison_69 rfl (lv_at hl 1 rfl) ?_
                      refine lv_bipush (v := nI 44) hx hb dX8_takesPrison_70 (by decide) ?_
                      refine j_cvi (20, 0, 0) [.int (nI 44)] hC hB hl.1 (c_X8_isNext l_ G (sr (sr I 40 (r2)) 49 (g2)) J O (nI 44) (by decide) (hn) (hp2) ((sr_ne (show (40 : Nat) ≠ 49 by decide)).trans (sr_self.trans (hr2)))) (cwV 1 hts gX8_takesPrison_X8_isNext rfl rfl rfl (by decide +kernel) ⟨by decide, by decide⟩) dX8_takesPrison_72 jk20 rfl rfl rfl rfl (Nat.le_of_ble_eq_true rfl) (fun r_72 u_72 H locs hp_72 hB => ?_)
                      obtain ⟨hr_72, rfl⟩ := hp_72
                      try simp only [show (sr (sr I 40 (r2)) 49 (g2)) 48 = I 48 from (sr_ne (show (48 : Nat) ≠ 49 by omega)).trans ((sr_ne (show (48 : Nat) ≠ 40 by omega)))] at hr_72
                      have hl_72 : ((rNx (I 48) n (nI 44) ((p2, v2))).2).1 ≤ n := rNx_le (by decide) (hp2)
                      try simp only [show (sr (sr I 40 (r2)) 49 (g2)) 48 = I 48 from (sr_ne (show (48 : Nat) ≠ 49 by omega)).trans ((sr_ne (show (48 : Nat) ≠ 40 by omega)))] at hB
                      have hB : jB G A s_.heap (sr (sr I 49 (g2)) 40 (uS o n ((rNx (I 48) n (nI 44) ((p2, v2))).2)), J, O) H locs := by (rw [show sr (sr I 49 (g2)) 40 (uS o n ((rNx (I 48) n (nI 44) ((p2, v2))).2)) = sr (sr (sr I 40 (r2)) 49 (g2)) 40 (uS o n ((rNx (I 48) n (nI 44) ((p2, v2))).2)) from by funext a; simp +decide only [sr]; (repeat' split) <;> first | rfl | (exfalso; omega) | (subst_vars; rfl)]; exact hB)
                      refine j_eqi (y := b2 ((rNx (I 48) n (nI 44) ((p2, v2))).1)) hr_72 ?_
                      refine jb_if_eq (tgt := 86) hx hb dX8_takesPrison_75 (by decide) (fun c_75 => ?_) (fun c_75 => ?_)
                      · have hP2 : rP2 (I 48) n q (I 49) = (g2, ((rNx (I 48) n (nI 44) ((p2, v2))).2), is2) := by rw [rP2, hP1]; dsimp only; rw [if_pos c_38, if_pos c_47]; exact (hit2.symm).trans (rMs_no (by omega) c_56 c_75)
                        refine lv_iload_n hx hb dX8_takesPrison_86 rfl (lv_at hl 0 rfl) ?_
                        refine jb_if_eq (tgt := 103) hx hb dX8_takesPrison_87 (by decide) (fun c_87 => ?_) (fun c_87 => ?_)
                        · refine lv_iconst (v := nI 0) hx hb dX8_takesPrison_103 (by decide) ?_
                          exact j_zret hC hB dX8_takesPrison_104 (by decide) (⟨by rw [rP3, hP2]; dsimp only; rw [if_neg (by rw [c_87]; decide)]; rfl, by rw [rP3, hP2]; dsimp only; rw [if_neg (by rw [c_87]; decide)]; rw [sr_sw (show (49 : Nat) ≠ 40 by decide)]⟩)
                        · refine lv_aload_n hx hb dX8_takesPrison_90 rfl (lv_at hl 1 rfl) ?_
                          refine j_cvi (20, 0, 0) [] hC hB hl.1 (c_X8_next l_ G (sr (sr I 49 (g2)) 40 (uS o n ((rNx (I 48) n (nI 44) ((p2, v2))).2))) J O  (hn) (rNx_le (by decide) (hp2)) (sr_self)) (cwV 0 hts gX8_takesPrison_X8_next rfl rfl rfl (by decide +kernel) ⟨by decide, by decide⟩) dX8_takesPrison_91 jk20 rfl rfl rfl rfl (Nat.le_of_ble_eq_true rfl) (fun r_91 u_91 H locs hp_91 hB => ?_)
                          obtain ⟨hr_91, rfl⟩ := hp_91
                          try simp only [show (sr (sr I 49 (g2)) 40 (uS o n ((rNx (I 48) n (nI 44) ((p2, v2))).2))) 48 = I 48 from (sr_ne (show (48 : Nat) ≠ 40 by omega)).trans ((sr_ne (show (48 : Nat) ≠ 49 by omega)))] at hr_91
                          have hl_91 : ((sk (I 48) n (((rNx (I 48) n (nI 44) ((p2, v2))).2)).1, (((rNx (I 48) n (nI 44) ((p2, v2))).2)).2)).1 ≤ n := (sk_le (rNx_le (by decide) (hp2))).2
                          try simp only [show (sr (sr I 49 (g2)) 40 (uS o n ((rNx (I 48) n (nI 44) ((p2, v2))).2))) 48 = I 48 from (sr_ne (show (48 : Nat) ≠ 40 by omega)).trans ((sr_ne (show (48 : Nat) ≠ 49 by omega)))] at hB
                          have hB : jB G A s_.heap (sr (sr I 49 (g2)) 40 (uS o n ((sk (I 48) n (((rNx (I 48) n (nI 44) ((p2, v2))).2)).1, (((rNx (I 48) n (nI 44) ((p2, v2))).2)).2))), J, O) H locs := by (rw [show sr (sr I 49 (g2)) 40 (uS o n ((sk (I 48) n (((rNx (I 48) n (nI 44) ((p2, v2))).2)).1, (((rNx (I 48) n (nI 44) ((p2, v2))).2)).2))) = sr (sr (sr I 49 (g2)) 40 (uS o n ((rNx (I 48) n (nI 44) ((p2, v2))).2))) 40 (uS o n ((sk (I 48) n (((rNx (I 48) n (nI 44) ((p2, v2))).2)).1, (((rNx (I 48) n (nI 44) ((p2, v2))).2)).2))) from by funext a; simp +decide only [sr]; (repeat' split) <;> first | rfl | (exfalso; omega) | (subst_vars; rfl)]; exact hB)
                          refine j_eqi (y := nx (I 48) n (((rNx (I 48) n (nI 44) ((p2, v2))).2)).1) hr_91 ?_
                          refine lv_bipush (v := (-4 : Int32)) hx hb dX8_takesPrison_94 (by decide) ?_
                          refine lv_icmp_ne (tgt := 103) hx hb dX8_takesPrison_96 (by decide) (fun c_96 => ?_) (fun c_96 => ?_)
                          · refine lv_iconst (v := nI 0) hx hb dX8_takesPrison_103 (by decide) ?_
                            exact j_zret hC hB dX8_takesPrison_104 (by decide) (⟨by rw [rP3, hP2]; dsimp only; rw [if_pos c_87]; show _ = b2 (decide _); rw [decide_eq_false c_96]; rfl, by rw [rP3, hP2]; dsimp only; rw [if_pos c_87]; rw [sr_sw (show (49 : Nat) ≠ 40 by decide)]⟩)
                          · refine lv_iconst (v := nI 1) hx hb dX8_takesPrison_99 (by decide) ?_
                            refine lv_goto (tgt := 104) hx hb dX8_takesPrison_100 (by decide) ?_
                            exact j_zret hC hB dX8_takesPrison_104 (by decide) (⟨by rw [rP3, hP2]; dsimp only; rw [if_pos c_87]; show _ = b2 (decide _); rw [decide_eq_true c_96]; rfl, by rw [rP3, hP2]; dsimp only; rw [if_pos c_87]; rw [sr_sw (show (49 : Nat) ≠ 40 by decide)]⟩)
                      · refine lv_aload_n hx hb dX8_takesPrison_78 rfl (lv_at hl 1 rfl) ?_
                        refine j_cvi (20, 0, 0) [] hC hB hl.1 (c_X8_takesMan l_ G (sr (sr I 49 (g2)) 40 (uS o n ((rNx (I 48) n (nI 44) ((p2, v2))).2))) J O  (by omega) ((sr_nj (show (49 : Nat) ≠ 40 by omega)).trans (sr_sj.trans (hg2 c_56))) (hn) (rNx_le (by decide) (hp2)) (sr_self)) (cwV 0 hts gX8_takesPrison_X8_takesMan rfl rfl rfl (by decide +kernel) ⟨by decide, by decide⟩) dX8_takesPrison_79 jk20 rfl rfl rfl rfl (Nat.le_of_ble_eq_true rfl) (fun r_79 u_79 H locs hp_79 hB => ?_)
                        obtain ⟨hr_79, rfl⟩ := hp_79
                        try simp only [show (sr (sr I 49 (g2)) 40 (uS o n ((rNx (I 48) n (nI 44) ((p2, v2))).2))) 48 = I 48 from (sr_ne (show (48 : Nat) ≠ 40 by omega)).trans ((sr_ne (show (48 : Nat) ≠ 49 by omega))), show (sr (sr I 49 (g2)) 40 (uS o n ((rNx (I 48) n (nI 44) ((p2, v2))).2))) 49 = g2 from (sr_ne (show (49 : Nat) ≠ 40 by omega)).trans (sr_self)] at hr_79
                        have hl_79 : ((rMa (I 48) n (((rNx (I 48) n (nI 44) ((p2, v2))).2))).2).1 ≤ n := rMa_le (rNx_le (by decide) (hp2))
                        try simp only [show (sr (sr I 49 (g2)) 40 (uS o n ((rNx (I 48) n (nI 44) ((p2, v2))).2))) 48 = I 48 from (sr_ne (show (48 : Nat) ≠ 40 by omega)).trans ((sr_ne (show (48 : Nat) ≠ 49 by omega))), show (sr (sr I 49 (g2)) 40 (uS o n ((rNx (I 48) n (nI 44) ((p2, v2))).2))) 49 = g2 from (sr_ne (show (49 : Nat) ≠ 40 by omega)).trans (sr_self)] at hB
                        have hB : jB G A s_.heap (sr (sr I 40 (uS o n ((rMa (I 48) n (((rNx (I 48) n (nI 44) ((p2, v2))).2))).2))) 49 (rMaR (I 48) n (((rNx (I 48) n (nI 44) ((p2, v2))).2)) (g2)), J, O) H locs := by (rw [show sr (sr I 40 (uS o n ((rMa (I 48) n (((rNx (I 48) n (nI 44) ((p2, v2))).2))).2))) 49 (rMaR (I 48) n (((rNx (I 48) n (nI 44) ((p2, v2))).2)) (g2)) = sr (sr (sr (sr I 49 (g2)) 40 (uS o n ((rNx (I 48) n (nI 44) ((p2, v2))).2))) 40 (uS o n ((rMa (I 48) n (((rNx (I 48) n (nI 44) ((p2, v2))).2))).2))) 49 (rMaR (I 48) n (((rNx (I 48) n (nI 44) ((p2, v2))).2)) (g2)) from by funext a; simp +decide only [sr]; (repeat' split) <;> first | rfl | (exfalso; omega) | (subst_vars; rfl)]; exact hB)
                        refine j_eqi (y := b2 ((rMa (I 48) n (((rNx (I 48) n (nI 44) ((p2, v2))).2))).1)) hr_79 ?_
                        refine lv_istore_n (lv' := [(1, .int (b2 ((rMa (I 48) n (((rNx (I 48) n (nI 44) ((p2, v2))).2))).1))), (0, .ref (G.2.2.1 (20, 0, 0)))]) hx hb dX8_takesPrison_82 rfl hl (by decide) rfl (fun ls hl => ?_)
                        refine lv_goto (tgt := 55) hx hb dX8_takesPrison_83 (by decide) ?_
                        exact ih_55 (uS o n ((rMa (I 48) n (((rNx (I 48) n (nI 44) ((p2, v2))).2))).2)) (rMaR (I 48) n (((rNx (I 48) n (nI 44) ((p2, v2))).2)) (g2)) (((rMa (I 48) n (((rNx (I 48) n (nI 44) ((p2, v2))).2))).2).1) (((rMa (I 48) n (((rNx (I 48) n (nI 44) ((p2, v2))).2))).2).2) ((rMa (I 48) n (((rNx (I 48) n (nI 44) ((p2, v2))).2))).1) (f2 - 1) (by omega) (rfl) (rMa_le (rNx_le (by decide) (hp2))) (by omega) (fun h => by rw [show 4 - (f2 - 1) = (4 - f2) + 1 by omega]; exact (rMaR_1 (by omega) (hg2 c_56)).1 h) (by rw [← hit2, rMs_on (s := (g2, (p2, v2), is2)) (by omega) c_56 c_75]) _ _ _ hB (lv_sub hl [0, 1] rfl)
              exact lp_55 _ (uS o n ((rMa (I 48) n (((rNx (I 48) n (nI 59) ((p1, v1))).2))).2)) (rMaR (I 48) n (((rNx (I 48) n (nI 59) ((p1, v1))).2)) (g1)) (((rMa (I 48) n (((rNx (I 48) n (nI 59) ((p1, v1))).2))).2).1) (((rMa (I 48) n (((rNx (I 48) n (nI 59) ((p1, v1))).2))).2).2) ((rMa (I 48) n (((rNx (I 48) n (nI 59) ((p1, v1))).2))).1) 3 (Nat.lt_succ_self _) (rfl) (rMa_le (rNx_le (by decide) (hp1))) (by omega) ((rMaR_1 (by omega) hm1).1) (rMs_eta) _ _ _ hB (lv_sub hl [0, 1] rfl)
        · refine lv_aload_n hx hb dX8_takesPrison_20 rfl (lv_at hl 1 rfl) ?_
          refine lv_bipush (v := nI 44) hx hb dX8_takesPrison_21 (by decide) ?_
          refine j_cvi (20, 0, 0) [.int (nI 44)] hC hB hl.1 (c_X8_isNext l_ G (sr (sr I 40 (r1)) 49 (g1)) J O (nI 44) (by decide) (hn) (hp1) ((sr_ne (show (40 : Nat) ≠ 49 by decide)).trans (sr_self.trans (hr1)))) (cwV 1 hts gX8_takesPrison_X8_isNext rfl rfl rfl (by decide +kernel) ⟨by decide, by decide⟩) dX8_takesPrison_23 jk20 rfl rfl rfl rfl (Nat.le_of_ble_eq_true rfl) (fun r_23 u_23 H locs hp_23 hB => ?_)
          obtain ⟨hr_23, rfl⟩ := hp_23
          try simp only [show (sr (sr I 40 (r1)) 49 (g1)) 48 = I 48 from (sr_ne (show (48 : Nat) ≠ 49 by omega)).trans ((sr_ne (show (48 : Nat) ≠ 40 by omega)))] at hr_23
          have hl_23 : ((rNx (I 48) n (nI 44) ((p1, v1))).2).1 ≤ n := rNx_le (by decide) (hp1)
          try simp only [show (sr (sr I 40 (r1)) 49 (g1)) 48 = I 48 from (sr_ne (show (48 : Nat) ≠ 49 by omega)).trans ((sr_ne (show (48 : Nat) ≠ 40 by omega)))] at hB
          have hB : jB G A s_.heap (sr (sr I 49 (g1)) 40 (uS o n ((rNx (I 48) n (nI 44) ((p1, v1))).2)), J, O) H locs := by (rw [show sr (sr I 49 (g1)) 40 (uS o n ((rNx (I 48) n (nI 44) ((p1, v1))).2)) = sr (sr (sr I 40 (r1)) 49 (g1)) 40 (uS o n ((rNx (I 48) n (nI 44) ((p1, v1))).2)) from by funext a; simp +decide only [sr]; (repeat' split) <;> first | rfl | (exfalso; omega) | (subst_vars; rfl)]; exact hB)
          refine j_eqi (y := b2 ((rNx (I 48) n (nI 44) ((p1, v1))).1)) hr_23 ?_
          refine jb_if_eq (tgt := 37) hx hb dX8_takesPrison_26 (by decide) (fun c_26 => ?_) (fun c_26 => ?_)
          · have hP1 : rP1 (I 48) n q (I 49) = (g1, ((rNx (I 48) n (nI 44) ((p1, v1))).2), is1) := by rw [← hit1]; exact rDs_no (by omega) c_6 c_26
            refine lv_iload_n hx hb dX8_takesPrison_37 rfl (lv_at hl 0 rfl) ?_
            refine jb_if_eq (tgt := 86) hx hb dX8_takesPrison_38 (by decide) (fun c_38 => ?_) (fun c_38 => ?_)
            · exact absurd (c_38.symm.trans c_6) (by decide)
            · refine lv_aload_n hx hb dX8_takesPrison_41 rfl (lv_at hl 1 rfl) ?_
              refine lv_bipush (v := nI 59) hx hb dX8_takesPrison_42 (by decide) ?_
              refine j_cvi (20, 0, 0) [.int (nI 59)] hC hB hl.1 (c_X8_isNext l_ G (sr (sr I 49 (g1)) 40 (uS o n ((rNx (I 48) n (nI 44) ((p1, v1))).2))) J O (nI 59) (by decide) (hn) (rNx_le (by decide) (hp1)) (sr_self)) (cwV 1 hts gX8_takesPrison_X8_isNext rfl rfl rfl (by decide +kernel) ⟨by decide, by decide⟩) dX8_takesPrison_44 jk20 rfl rfl rfl rfl (Nat.le_of_ble_eq_true rfl) (fun r_44 u_44 H locs hp_44 hB => ?_)
              obtain ⟨hr_44, rfl⟩ := hp_44
              try simp only [show (sr (sr I 49 (g1)) 40 (uS o n ((rNx (I 48) n (nI 44) ((p1, v1))).2))) 48 = I 48 from (sr_ne (show (48 : Nat) ≠ 40 by omega)).trans ((sr_ne (show (48 : Nat) ≠ 49 by omega)))] at hr_44
              have hl_44 : ((rNx (I 48) n (nI 59) (((rNx (I 48) n (nI 44) ((p1, v1))).2))).2).1 ≤ n := rNx_le (by decide) (rNx_le (by decide) (hp1))
              try simp only [show (sr (sr I 49 (g1)) 40 (uS o n ((rNx (I 48) n (nI 44) ((p1, v1))).2))) 48 = I 48 from (sr_ne (show (48 : Nat) ≠ 40 by omega)).trans ((sr_ne (show (48 : Nat) ≠ 49 by omega)))] at hB
              have hB : jB G A s_.heap (sr (sr I 49 (g1)) 40 (uS o n ((rNx (I 48) n (nI 59) (((rNx (I 48) n (nI 44) ((p1, v1))).2))).2)), J, O) H locs := by (rw [show sr (sr I 49 (g1)) 40 (uS o n ((rNx (I 48) n (nI 59) (((rNx (I 48) n (nI 44) ((p1, v1))).2))).2)) = sr (sr (sr I 49 (g1)) 40 (uS o n ((rNx (I 48) n (nI 44) ((p1, v1))).2))) 40 (uS o n ((rNx (I 48) n (nI 59) (((rNx (I 48) n (nI 44) ((p1, v1))).2))).2)) from by funext a; simp +decide only [sr]; (repeat' split) <;> first | rfl | (exfalso; omega) | (subst_vars; rfl)]; exact hB)
              refine j_eqi (y := b2 ((rNx (I 48) n (nI 59) (((rNx (I 48) n (nI 44) ((p1, v1))).2))).1)) hr_44 ?_
              refine jb_if_eq (tgt := 86) hx hb dX8_takesPrison_47 (by decide) (fun c_47 => ?_) (fun c_47 => ?_)
              · have hP2 : rP2 (I 48) n q (I 49) = (g1, ((rNx (I 48) n (nI 59) (((rNx (I 48) n (nI 44) ((p1, v1))).2))).2), is1) := by rw [rP2, hP1]; dsimp only; rw [if_pos c_38, if_neg (by rw [c_47]; decide)]
                refine lv_iload_n hx hb dX8_takesPrison_86 rfl (lv_at hl 0 rfl) ?_
                refine jb_if_eq (tgt := 103) hx hb dX8_takesPrison_87 (by decide) (fun c_87 => ?_) (fun c_87 => ?_)
                · refine lv_iconst (v := nI 0) hx hb dX8_takesPrison_103 (by decide) ?_
                  exact j_zret hC hB dX8_takesPrison_104 (by decide) (⟨by rw [rP3, hP2]; dsimp only; rw [if_neg (by rw [c_87]; decide)]; rfl, by rw [rP3, hP2]; dsimp only; rw [if_neg (by rw [c_87]; decide)]; rw [sr_sw (show (49 : Nat) ≠ 40 by decide)]⟩)
                · refine lv_aload_n hx hb dX8_takesPrison_90 rfl (lv_at hl 1 rfl) ?_
                  refine j_cvi (20, 0, 0) [] hC hB hl.1 (c_X8_next l_ G (sr (sr I 49 (g1)) 40 (uS o n ((rNx (I 48) n (nI 59) (((rNx (I 48) n (nI 44) ((p1, v1))).2))).2))) J O  (hn) (rNx_le (by decide) (rNx_le (by decide) (hp1))) (sr_self)) (cwV 0 hts gX8_takesPrison_X8_next rfl rfl rfl (by decide +kernel) ⟨by decide, by decide⟩) dX8_takesPrison_91 jk20 rfl rfl rfl rfl (Nat.le_of_ble_eq_true rfl) (fun r_91 u_91 H locs hp_91 hB => ?_)
                  obtain ⟨hr_91, rfl⟩ := hp_91
                  try simp only [show (sr (sr I 49 (g1)) 40 (uS o n ((rNx (I 48) n (nI 59) (((rNx (I 48) n (nI 44) ((p1, v1))).2))).2))) 48 = I 48 from (sr_ne (show (48 : Nat) ≠ 40 by omega)).trans ((sr_ne (show (48 : Nat) ≠ 49 by omega)))] at hr_91
                  have hl_91 : ((sk (I 48) n (((rNx (I 48) n (nI 59) (((rNx (I 48) n (nI 44) ((p1, v1))).2))).2)).1, (((rNx (I 48) n (nI 59) (((rNx (I 48) n (nI 44) ((p1, v1))).2))).2)).2)).1 ≤ n := (sk_le (rNx_le (by decide) (rNx_le (by decide) (hp1)))).2
                  try simp only [show (sr (sr I 49 (g1)) 40 (uS o n ((rNx (I 48) n (nI 59) (((rNx (I 48) n (nI 44) ((p1, v1))).2))).2))) 48 = I 48 from (sr_ne (show (48 : Nat) ≠ 40 by omega)).trans ((sr_ne (show (48 : Nat) ≠ 49 by omega)))] at hB
                  have hB : jB G A s_.heap (sr (sr I 49 (g1)) 40 (uS o n ((sk (I 48) n (((rNx (I 48) n (nI 59) (((rNx (I 48) n (nI 44) ((p1, v1))).2))).2)).1, (((rNx (I 48) n (nI 59) (((rNx (I 48) n (nI 44) ((p1, v1))).2))).2)).2))), J, O) H locs := by (rw [show sr (sr I 49 (g1)) 40 (uS o n ((sk (I 48) n (((rNx (I 48) n (nI 59) (((rNx (I 48) n (nI 44) ((p1, v1))).2))).2)).1, (((rNx (I 48) n (nI 59) (((rNx (I 48) n (nI 44) ((p1, v1))).2))).2)).2))) = sr (sr (sr I 49 (g1)) 40 (uS o n ((rNx (I 48) n (nI 59) (((rNx (I 48) n (nI 44) ((p1, v1))).2))).2))) 40 (uS o n ((sk (I 48) n (((rNx (I 48) n (nI 59) (((rNx (I 48) n (nI 44) ((p1, v1))).2))).2)).1, (((rNx (I 48) n (nI 59) (((rNx (I 48) n (nI 44) ((p1, v1))).2))).2)).2))) from by funext a; simp +decide only [sr]; (repeat' split) <;> first | rfl | (exfalso; omega) | (subst_vars; rfl)]; exact hB)
                  refine j_eqi (y := nx (I 48) n (((rNx (I 48) n (nI 59) (((rNx (I 48) n (nI 44) ((p1, v1))).2))).2)).1) hr_91 ?_
                  refine lv_bipush (v := (-4 : Int32)) hx hb dX8_takesPrison_94 (by decide) ?_
                  refine lv_icmp_ne (tgt := 103) hx hb dX8_takesPrison_96 (by decide) (fun c_96 => ?_) (fun c_96 => ?_)
                  · refine lv_iconst (v := nI 0) hx hb dX8_takesPrison_103 (by decide) ?_
                    exact j_zret hC hB dX8_takesPrison_104 (by decide) (⟨by rw [rP3, hP2]; dsimp only; rw [if_pos c_87]; show _ = b2 (decide _); rw [decide_eq_false c_96]; rfl, by rw [rP3, hP2]; dsimp only; rw [if_pos c_87]; rw [sr_sw (show (49 : Nat) ≠ 40 by decide)]⟩)
                  · refine lv_iconst (v := nI 1) hx hb dX8_takesPrison_99 (by decide) ?_
                    refine lv_goto (tgt := 104) hx hb dX8_takesPrison_100 (by decide) ?_
                    exact j_zret hC hB dX8_takesPrison_104 (by decide) (⟨by rw [rP3, hP2]; dsimp only; rw [if_pos c_87]; show _ = b2 (decide _); rw [decide_eq_true c_96]; rfl, by rw [rP3, hP2]; dsimp only; rw [if_pos c_87]; rw [sr_sw (show (49 : Nat) ≠ 40 by decide)]⟩)
              · refine lv_aload_n hx hb dX8_takesPrison_50 rfl (lv_at hl 1 rfl) ?_
                refine j_cvi (20, 0, 0) [] hC hB hl.1 (c_X8_takesMan l_ G (sr (sr I 49 (g1)) 40 (uS o n ((rNx (I 48) n (nI 59) (((rNx (I 48) n (nI 44) ((p1, v1))).2))).2))) J O  (by omega) ((sr_nj (show (49 : Nat) ≠ 40 by omega)).trans (sr_sj.trans (hm1))) (hn) (rNx_le (by decide) (rNx_le (by decide) (hp1))) (sr_self)) (cwV 0 hts gX8_takesPrison_X8_takesMan rfl rfl rfl (by decide +kernel) ⟨by decide, by decide⟩) dX8_takesPrison_51 jk20 rfl rfl rfl rfl (Nat.le_of_ble_eq_true rfl) (fun r_51 u_51 H locs hp_51 hB => ?_)
                obtain ⟨hr_51, rfl⟩ := hp_51
                try simp only [show (sr (sr I 49 (g1)) 40 (uS o n ((rNx (I 48) n (nI 59) (((rNx (I 48) n (nI 44) ((p1, v1))).2))).2))) 48 = I 48 from (sr_ne (show (48 : Nat) ≠ 40 by omega)).trans ((sr_ne (show (48 : Nat) ≠ 49 by omega))), show (sr (sr I 49 (g1)) 40 (uS o n ((rNx (I 48) n (nI 59) (((rNx (I 48) n (nI 44) ((p1, v1))).2))).2))) 49 = g1 from (sr_ne (show (49 : Nat) ≠ 40 by omega)).trans (sr_self)] at hr_51
                have hl_51 : ((rMa (I 48) n (((rNx (I 48) n (nI 59) (((rNx (I 48) n (nI 44) ((p1, v1))).2))).2))).2).1 ≤ n := rMa_le (rNx_le (by decide) (rNx_le (by decide) (hp1)))
                try simp only [show (sr (sr I 49 (g1)) 40 (uS o n ((rNx (I 48) n (nI 59) (((rNx (I 48) n (nI 44) ((p1, v1))).2))).2))) 48 = I 48 from (sr_ne (show (48 : Nat) ≠ 40 by omega)).trans ((sr_ne (show (48 : Nat) ≠ 49 by omega))), show (sr (sr I 49 (g1)) 40 (uS o n ((rNx (I 48) n (nI 59) (((rNx (I 48) n (nI 44) ((p1, v1))).2))).2))) 49 = g1 from (sr_ne (show (49 : Nat) ≠ 40 by omega)).trans (sr_self)] at hB
                have hB : jB G A s_.heap (sr (sr I 40 (uS o n ((rMa (I 48) n (((rNx (I 48) n (nI 59) (((rNx (I 48) n (nI 44) ((p1, v1))).2))).2))).2))) 49 (rMaR (I 48) n (((rNx (I 48) n (nI 59) (((rNx (I 48) n (nI 44) ((p1, v1))).2))).2)) (g1)), J, O) H locs := by (rw [show sr (sr I 40 (uS o n ((rMa (I 48) n (((rNx (I 48) n (nI 59) (((rNx (I 48) n (nI 44) ((p1, v1))).2))).2))).2))) 49 (rMaR (I 48) n (((rNx (I 48) n (nI 59) (((rNx (I 48) n (nI 44) ((p1, v1))).2))).2)) (g1)) = sr (sr (sr (sr I 49 (g1)) 40 (uS o n ((rNx (I 48) n (nI 59) (((rNx (I 48) n (nI 44) ((p1, v1))).2))).2))) 40 (uS o n ((rMa (I 48) n (((rNx (I 48) n (nI 59) (((rNx (I 48) n (nI 44) ((p1, v1))).2))).2))).2))) 49 (rMaR (I 48) n (((rNx (I 48) n (nI 59) (((rNx (I 48) n (nI 44) ((p1, v1))).2))).2)) (g1)) from by funext a; simp +decide only [sr]; (repeat' split) <;> first | rfl | (exfalso; omega) | (subst_vars; rfl)]; exact hB)
                refine j_eqi (y := b2 ((rMa (I 48) n (((rNx (I 48) n (nI 59) (((rNx (I 48) n (nI 44) ((p1, v1))).2))).2))).1)) hr_51 ?_
                refine lv_istore_n (lv' := [(1, .int (b2 ((rMa (I 48) n (((rNx (I 48) n (nI 59) (((rNx (I 48) n (nI 44) ((p1, v1))).2))).2))).1))), (0, .ref (G.2.2.1 (20, 0, 0)))]) hx hb dX8_takesPrison_54 rfl hl (by decide) rfl (fun ls hl => ?_)
                have lp_55 : ∀ (fu : Nat) (r2 : Nat → Int32) (g2 : Nat → Int32) (p2 : Nat) (v2 : Int32) (is2 : Bool) (f2 : Nat), f2 < fu → (r2 = uS o n (p2, v2)) → (p2 ≤ n) → (f2 ≤ 3) → (is2 = true → g2 1 = nI (4 - f2)) → (rMs (I 48) n f2 (g2, (p2, v2), is2) = rMs (I 48) n 3 (rMaR (I 48) n (rNx (I 48) n (nI 59) ((rNx (I 48) n (nI 44) ((p1, v1))).2)).2 g1, (rMa (I 48) n (rNx (I 48) n (nI 59) ((rNx (I 48) n (nI 44) ((p1, v1))).2)).2).2, (rMa (I 48) n (rNx (I 48) n (nI 59) ((rNx (I 48) n (nI 44) ((p1, v1))).2)).2).1)) → ∀ H locs ls, jB G A s_.heap (sr (sr I 40 (r2)) 49 (g2), J, O) H locs → lv_has ls 2 [(1, .int (b2 is2)), (0, .ref (G.2.2.1 (20, 0, 0)))] → W pg_ l_ ev_ ({ frames := 3, cells := 0, slots := 0, locals := 71 }) s_ mi_ ([.ref (G.2.2.1 (20, 0, 0))]).toArray below meth cd_ H locs 0 0 (jQi G A below [.ref (G.2.2.1 (20, 0, 0))] s_ (fun r u => r = b2 ((rP3 (I 48) n q (I 49)).1) ∧ u = (sr (sr I 40 (uS o n ((rP3 (I 48) n q (I 49)).2))) 49 ((rP2 (I 48) n q (I 49)).1), J, O))) (F0 mi_ 55 ls []) := by
                  intro fu
                  induction fu with
                  | zero => intro r2 g2 p2 v2 is2 f2 hf; exact absurd hf (Nat.not_lt_zero _)
                  | succ fu ih_55 =>
                    intro r2 g2 p2 v2 is2 f2 hf_55 hr2 hp2 hf2 hg2 hit2 H locs ls hB hl
                    refine lv_iload_n hx hb dX8_takesPrison_55 rfl (lv_at hl 0 rfl) ?_
                    refine jb_if_eq (tgt := 86) hx hb dX8_takesPrison_56 (by decide) (fun c_56 => ?_) (fun c_56 => ?_)
                    · have hP2 : rP2 (I 48) n q (I 49) = (g2, (p2, v2), is2) := by rw [rP2, hP1]; dsimp only; rw [if_pos c_38, if_pos c_47]; exact (hit2.symm).trans (rMs_stop _ _ c_56)
                      refine lv_iload_n hx hb dX8_takesPrison_86 rfl (lv_at hl 0 rfl) ?_
                      refine jb_if_eq (tgt := 103) hx hb dX8_takesPrison_87 (by decide) (fun c_87 => ?_) (fun c_87 => ?_)
                      · refine lv_iconst (v := nI 0) hx hb dX8_takesPrison_103 (by decide) ?_
                        exact j_zret hC hB dX8_takesPrison_104 (by decide) (⟨by rw [rP3, hP2]; dsimp only; rw [if_neg (by rw [c_87]; decide)]; rfl, by rw [rP3, hP2]; dsimp only; rw [if_neg (by rw [c_87]; decide)]; rw [hr2]⟩)
                      · refine lv_aload_n hx hb dX8_takesPrison_90 rfl (lv_at hl 1 rfl) ?_
                        refine j_cvi (20, 0, 0) [] hC hB hl.1 (c_X8_next l_ G (sr (sr I 40 (r2)) 49 (g2)) J O  (hn) (hp2) ((sr_ne (show (40 : Nat) ≠ 49 by decide)).trans (sr_self.trans (hr2)))) (cwV 0 hts gX8_takesPrison_X8_next rfl rfl rfl (by decide +kernel) ⟨by decide, by decide⟩) dX8_takesPrison_91 jk20 rfl rfl rfl rfl (Nat.le_of_ble_eq_true rfl) (fun r_91 u_91 H locs hp_91 hB => ?_)
                        obtain ⟨hr_91, rfl⟩ := hp_91
                        try simp only [show (sr (sr I 40 (r2)) 49 (g2)) 48 = I 48 from (sr_ne (show (48 : Nat) ≠ 49 by omega)).trans ((sr_ne (show (48 : Nat) ≠ 40 by omega)))] at hr_91
                        have hl_91 : ((sk (I 48) n ((p2, v2)).1, ((p2, v2)).2)).1 ≤ n := (sk_le (hp2)).2
                        try simp only [show (sr (sr I 40 (r2)) 49 (g2)) 48 = I 48 from (sr_ne (show (48 : Nat) ≠ 49 by omega)).trans ((sr_ne (show (48 : Nat) ≠ 40 by omega)))] at hB
                        have hB : jB G A s_.heap (sr (sr I 49 (g2)) 40 (uS o n ((sk (I 48) n ((p2, v2)).1, ((p2, v2)).2))), J, O) H locs := by (rw [show sr (sr I 49 (g2)) 40 (uS o n ((sk (I 48) n ((p2, v2)).1, ((p2, v2)).2))) = sr (sr (sr I 40 (r2)) 49 (g2)) 40 (uS o n ((sk (I 48) n ((p2, v2)).1, ((p2, v2)).2))) from by funext a; simp +decide only [sr]; (repeat' split) <;> first | rfl | (exfalso; omega) | (subst_vars; rfl)]; exact hB)
                        refine j_eqi (y := nx (I 48) n ((p2, v2)).1) hr_91 ?_
                        refine lv_bipush (v := (-4 : Int32)) hx hb dX8_takesPrison_94 (by decide) ?_
                        refine lv_icmp_ne (tgt := 103) hx hb dX8_takesPrison_96 (by decide) (fun c_96 => ?_) (fun c_96 => ?_)
                        · refine lv_iconst (v := nI 0) hx hb dX8_takesPrison_103 (by decide) ?_
                          exact j_zret hC hB dX8_takesPrison_104 (by decide) (⟨by rw [rP3, hP2]; dsimp only; rw [if_pos c_87]; show _ = b2 (decide _); rw [decide_eq_false c_96]; rfl, by rw [rP3, hP2]; dsimp only; rw [if_pos c_87]; rw [sr_sw (show (49 : Nat) ≠ 40 by decide)]⟩)
                        · refine lv_iconst (v := nI 1) hx hb dX8_takesPrison_99 (by decide) ?_
                          refine lv_goto (tgt := 104) hx hb dX8_takesPrison_100 (by decide) ?_
                          exact j_zret hC hB dX8_takesPrison_104 (by decide) (⟨by rw [rP3, hP2]; dsimp only; rw [if_pos c_87]; show _ = b2 (decide _); rw [decide_eq_true c_96]; rfl, by rw [rP3, hP2]; dsimp only; rw [if_pos c_87]; rw [sr_sw (show (49 : Nat) ≠ 40 by decide)]⟩)
                    · refine lv_aload_n hx hb dX8_takesPrison_59 rfl (lv_at hl 1 rfl) ?_
                      refine j_get (20, 0, 0) 14 (v := .ref (G.2.2.1 (21, 49, 0))) hC hB in_X8 lk_41 dX8_takesPrison_60 jk20 rfl rfl (by decide) rfl ?_
                      refine lv_iconst (v := nI 1) hx hb dX8_takesPrison_63 (by decide) ?_
                      refine j_iLd 49 1 hC hB dX8_takesPrison_64 (by decide) rfl (by simp only [lenI_49]; omega) ?_
                      refine j_eqi (x := (sr (sr I 40 (r2)) 49 (g2)) 49 1) (y := nI (4 - f2)) (sr_sj.trans (hg2 c_56)) ?_
                      refine lv_iconst (v := nI 4) hx hb dX8_takesPrison_65 (by decide) ?_
                      refine jn_icmp_ge (tgt := 86) hx hb dX8_takesPrison_66 (by decide) (by omega) (by omega) (fun c_66 => ?_) (fun c_66 => ?_)
                      · have hP2 : rP2 (I 48) n q (I 49) = (g2, (p2, v2), is2) := by rw [rP2, hP1]; dsimp only; rw [if_pos c_38, if_pos c_47]; refine (hit2.symm).trans ?_; rw [show f2 = 0 by omega]; rfl
                        refine lv_iload_n hx hb dX8_takesPrison_86 rfl (lv_at hl 0 rfl) ?_
                        refine jb_if_eq (tgt := 103) hx hb dX8_takesPrison_87 (by decide) (fun c_87 => ?_) (fun c_87 => ?_)
                        · refine lv_iconst (v := nI 0) hx hb dX8_takesPrison_103 (by decide) ?_
                          exact j_zret hC hB dX8_takesPrison_104 (by decide) (⟨by rw [rP3, hP2]; dsimp only; rw [if_neg (by rw [c_87]; decide)]; rfl, by rw [rP3, hP2]; dsimp only; rw [if_neg (by rw [c_87]; decide)]; rw [hr2]⟩)
                        · refine lv_aload_n hx hb dX8_takesPrison_90 rfl (lv_at hl 1 rfl) ?_
                          refine j_cvi (20, 0, 0) [] hC hB hl.1 (c_X8_next l_ G (sr (sr I 40 (r2)) 49 (g2)) J O  (hn) (hp2) ((sr_ne (show (40 : Nat) ≠ 49 by decide)).trans (sr_self.trans (hr2)))) (cwV 0 hts gX8_takesPrison_X8_next rfl rfl rfl (by decide +kernel) ⟨by decide, by decide⟩) dX8_takesPrison_91 jk20 rfl rfl rfl rfl (Nat.le_of_ble_eq_true rfl) (fun r_91 u_91 H locs hp_91 hB => ?_)
                          obtain ⟨hr_91, rfl⟩ := hp_91
                          try simp only [show (sr (sr I 40 (r2)) 49 (g2)) 48 = I 48 from (sr_ne (show (48 : Nat) ≠ 49 by omega)).trans ((sr_ne (show (48 : Nat) ≠ 40 by omega)))] at hr_91
                          have hl_91 : ((sk (I 48) n ((p2, v2)).1, ((p2, v2)).2)).1 ≤ n := (sk_le (hp2)).2
                          try simp only [show (sr (sr I 40 (r2)) 49 (g2)) 48 = I 48 from (sr_ne (show (48 : Nat) ≠ 49 by omega)).trans ((sr_ne (show (48 : Nat) ≠ 40 by omega)))] at hB
                          have hB : jB G A s_.heap (sr (sr I 49 (g2)) 40 (uS o n ((sk (I 48) n ((p2, v2)).1, ((p2, v2)).2))), J, O) H locs := by (rw [show sr (sr I 49 (g2)) 40 (uS o n ((sk (I 48) n ((p2, v2)).1, ((p2, v2)).2))) = sr (sr (sr I 40 (r2)) 49 (g2)) 40 (uS o n ((sk (I 48) n ((p2, v2)).1, ((p2, v2)).2))) from by funext a; simp +decide only [sr]; (repeat' split) <;> first | rfl | (exfalso; omega) | (subst_vars; rfl)]; exact hB)
                          refine j_eqi (y := nx (I 48) n ((p2, v2)).1) hr_91 ?_
                          refine lv_bipush (v := (-4 : Int32)) hx hb dX8_takesPrison_94 (by decide) ?_
                          refine lv_icmp_ne (tgt := 103) hx hb dX8_takesPrison_96 (by decide) (fun c_96 => ?_) (fun c_96 => ?_)
                          · refine lv_iconst (v := nI 0) hx hb dX8_takesPrison_103 (by decide) ?_
                            exact j_zret hC hB dX8_takesPrison_104 (by decide) (⟨by rw [rP3, hP2]; dsimp only; rw [if_pos c_87]; show _ = b2 (decide _); rw [decide_eq_false c_96]; rfl, by rw [rP3, hP2]; dsimp only; rw [if_pos c_87]; rw [sr_sw (show (49 : Nat) ≠ 40 by decide)]⟩)
                          · refine lv_iconst (v := nI 1) hx hb dX8_takesPrison_99 (by decide) ?_
                            refine lv_goto (tgt := 104) hx hb dX8_takesPrison_100 (by decide) ?_
                            exact j_zret hC hB dX8_takesPrison_104 (by decide) (⟨by rw [rP3, hP2]; dsimp only; rw [if_pos c_87]; show _ = b2 (decide _); rw [decide_eq_true c_96]; rfl, by rw [rP3, hP2]; dsimp only; rw [if_pos c_87]; rw [sr_sw (show (49 : Nat) ≠ 40 by decide)]⟩)
                      · refine lv_aload_n hx hb dX8_takesPrison_69 rfl (lv_at hl 1 rfl) ?_
                        refine lv_bipush (v := nI 44) hx hb dX8_takesPrison_70 (by decide) ?_
                        refine j_cvi (20, 0, 0) [.int (nI 44)] hC hB hl.1 (c_X8_isNext l_ G (sr (sr I 40 (r2)) 49 (g2)) J O (nI 44) (by decide) (hn) (hp2) ((sr_ne (show (40 : Nat) ≠ 49 by decide)).trans (sr_self.trans (hr2)))) (cwV 1 hts gX8_takesPrison_X8_isNext rfl rfl rfl (by decide +kernel) ⟨by decide, by decide⟩) dX8_takesPrison_72 jk20 rfl rfl rfl rfl (Nat.le_of_ble_eq_true rfl) (fun r_72 u_72 H locs hp_72 hB => ?_)
                        obtain ⟨hr_72, rfl⟩ := hp_72
                        try simp only [show (sr (sr I 40 (r2)) 49 (g2)) 48 = I 48 from (sr_ne (show (48 : Nat) ≠ 49 by omega)).trans ((sr_ne (show (48 : Nat) ≠ 40 by omega)))] at hr_72
                        have hl_72 : ((rNx (I 48) n (nI 44) ((p2, v2))).2).1 ≤ n := rNx_le (by decide) (hp2)
                        try simp only [show (sr (sr I 40 (r2)) 49 (g2)) 48 = I 48 from (sr_ne (show (48 : Nat) ≠ 49 by omega)).trans ((sr_ne (show (48 : Nat) ≠ 40 by omega)))] at hB
                        have hB : jB G A s_.heap (sr (sr I 49 (g2)) 40 (uS o n ((rNx (I 48) n (nI 44) ((p2, v2))).2)), J, O) H locs := by (rw [show sr (sr I 49 (g2)) 40 (uS o n ((rNx (I 48) n (nI 44) ((p2, v2))).2)) = sr (sr (sr I 40 (r2)) 49 (g2)) 40 (uS o n ((rNx (I 48) n (nI 44) ((p2, v2))).2)) from by funext a; simp +decide only [sr]; (repeat' split) <;> first | rfl | (exfalso; omega) | (subst_vars; rfl)]; exact hB)
                        refine j_eqi (y := b2 ((rNx (I 48) n (nI 44) ((p2, v2))).1)) hr_72 ?_
                        refine jb_if_eq (tgt := 86) hx hb dX8_takesPrison_75 (by decide) (fun c_75 => ?_) (fun c_75 => ?_)
                        · have hP2 : rP2 (I 48) n q (I 49) = (g2, ((rNx (I 48) n (nI 44) ((p2, v2))).2), is2) := by rw [rP2, hP1]; dsimp only; rw [if_pos c_38, if_pos c_47]; exact (hit2.symm).trans (rMs_no (by omega) c_56 c_75)
                          refine lv_iload_n hx hb dX8_takesPrison_86 rfl (lv_at hl 0 rfl) ?_
                          refine jb_if_eq (tgt := 103) hx hb dX8_takesPrison_87 (by decide) (fun c_87 => ?_) (fun c_87 => ?_)
                          · refine lv_iconst (v := nI 0) hx hb dX8_takesPrison_103 (by decide) ?_
                            exact j_zret hC hB dX8_takesPrison_104 (by decide) (⟨by rw [rP3, hP2]; dsimp only; rw [if_neg (by rw [c_87]; decide)]; rfl, by rw [rP3, hP2]; dsimp only; rw [if_neg (by rw [c_87]; decide)]; rw [sr_sw (show (49 : Nat) ≠ 40 by decide)]⟩)
                          · refine lv_aload_n hx hb dX8_takesPrison_90 rfl (lv_at hl 1 rfl) ?_
                            refine j_cvi (20, 0, 0) [] hC hB hl.1 (c_X8_next l_ G (sr (sr I 49 (g2)) 40 (uS o n ((rNx (I 48) n (nI 44) ((p2, v2))).2))) J O  (hn) (rNx_le (by decide) (hp2)) (sr_self)) (cwV 0 hts gX8_takesPrison_X8_next rfl rfl rfl (by decide +kernel) ⟨by decide, by decide⟩) dX8_takesPrison_91 jk20 rfl rfl rfl rfl (Nat.le_of_ble_eq_true rfl) (fun r_91 u_91 H locs hp_91 hB => ?_)
                            obtain ⟨hr_91, rfl⟩ := hp_91
                            try simp only [show (sr (sr I 49 (g2)) 40 (uS o n ((rNx (I 48) n (nI 44) ((p2, v2))).2))) 48 = I 48 from (sr_ne (show (48 : Nat) ≠ 40 by omega)).trans ((sr_ne (show (48 : Nat) ≠ 49 by omega)))] at hr_91
                            have hl_91 : ((sk (I 48) n (((rNx (I 48) n (nI 44) ((p2, v2))).2)).1, (((rNx (I 48) n (nI 44) ((p2, v2))).2)).2)).1 ≤ n := (sk_le (rNx_le (by decide) (hp2))).2
                            try simp only [show (sr (sr I 49 (g2)) 40 (uS o n ((rNx (I 48) n (nI 44) ((p2, v2))).2))) 48 = I 48 from (sr_ne (show (48 : Nat) ≠ 40 by omega)).trans ((sr_ne (show (48 : Nat) ≠ 49 by omega)))] at hB
                            have hB : jB G A s_.heap (sr (sr I 49 (g2)) 40 (uS o n ((sk (I 48) n (((rNx (I 48) n (nI 44) ((p2, v2))).2)).1, (((rNx (I 48) n (nI 44) ((p2, v2))).2)).2))), J, O) H locs := by (rw [show sr (sr I 49 (g2)) 40 (uS o n ((sk (I 48) n (((rNx (I 48) n (nI 44) ((p2, v2))).2)).1, (((rNx (I 48) n (nI 44) ((p2, v2))).2)).2))) = sr (sr (sr I 49 (g2)) 40 (uS o n ((rNx (I 48) n (nI 44) ((p2, v2))).2))) 40 (uS o n ((sk (I 48) n (((rNx (I 48) n (nI 44) ((p2, v2))).2)).1, (((rNx (I 48) n (nI 44) ((p2, v2))).2)).2))) from by funext a; simp +decide only [sr]; (repeat' split) <;> first | rfl | (exfalso; omega) | (subst_vars; rfl)]; exact hB)
                            refine j_eqi (y := nx (I 48) n (((rNx (I 48) n (nI 44) ((p2, v2))).2)).1) hr_91 ?_
                            refine lv_bipush (v := (-4 : Int32)) hx hb dX8_takesPrison_94 (by decide) ?_
                            refine lv_icmp_ne (tgt := 103) hx hb dX8_takesPrison_96 (by decide) (fun c_96 => ?_) (fun c_96 => ?_)
                            · refine lv_iconst (v := nI 0) hx hb dX8_takesPrison_103 (by decide) ?_
                              exact j_zret hC hB dX8_takesPrison_104 (by decide) (⟨by rw [rP3, hP2]; dsimp only; rw [if_pos c_87]; show _ = b2 (decide _); rw [decide_eq_false c_96]; rfl, by rw [rP3, hP2]; dsimp only; rw [if_pos c_87]; rw [sr_sw (show (49 : Nat) ≠ 40 by decide)]⟩)
                            · refine lv_iconst (v := nI 1) hx hb dX8_takesPrison_99 (by decide) ?_
                              refine lv_goto (tgt := 104) hx hb dX8_takesPrison_100 (by decide) ?_
                              exact j_zret hC hB dX8_takesPrison_104 (by decide) (⟨by rw [rP3, hP2]; dsimp only; rw [if_pos c_87]; show _ = b2 (decide _); rw [decide_eq_true c_96]; rfl, by rw [rP3, hP2]; dsimp only; rw [if_pos c_87]; rw [sr_sw (show (49 : Nat) ≠ 40 by decide)]⟩)
                        · refine lv_aload_n hx hb dX8_takesPrison_78 rfl (lv_at hl 1 rfl) ?_
                          refine j_cvi (20, 0, 0) [] hC hB hl.1 (c_X8_takesMan l_ G (sr (sr I 49 (g2)) 40 (uS o n ((rNx (I 48) n (nI 44) ((p2, v2))).2))) J O  (by omega) ((sr_nj (show (49 : Nat) ≠ 40 by omega)).trans (sr_sj.trans (hg2 c_56))) (hn) (rNx_le (by decide) (hp2)) (sr_self)) (cwV 0 hts gX8_takesPrison_X8_takesMan rfl rfl rfl (by decide +kernel) ⟨by decide, by decide⟩) dX8_takesPrison_79 jk20 rfl rfl rfl rfl (Nat.le_of_ble_eq_true rfl) (fun r_79 u_79 H locs hp_79 hB => ?_)
                          obtain ⟨hr_79, rfl⟩ := hp_79
                          try simp only [show (sr (sr I 49 (g2)) 40 (uS o n ((rNx (I 48) n (nI 44) ((p2, v2))).2))) 48 = I 48 from (sr_ne (show (48 : Nat) ≠ 40 by omega)).trans ((sr_ne (show (48 : Nat) ≠ 49 by omega))), show (sr (sr I 49 (g2)) 40 (uS o n ((rNx (I 48) n (nI 44) ((p2, v2))).2))) 49 = g2 from (sr_ne (show (49 : Nat) ≠ 40 by omega)).trans (sr_self)] at hr_79
                          have hl_79 : ((rMa (I 48) n (((rNx (I 48) n (nI 44) ((p2, v2))).2))).2).1 ≤ n := rMa_le (rNx_le (by decide) (hp2))
                          try simp only [show (sr (sr I 49 (g2)) 40 (uS o n ((rNx (I 48) n (nI 44) ((p2, v2))).2))) 48 = I 48 from (sr_ne (show (48 : Nat) ≠ 40 by omega)).trans ((sr_ne (show (48 : Nat) ≠ 49 by omega))), show (sr (sr I 49 (g2)) 40 (uS o n ((rNx (I 48) n (nI 44) ((p2, v2))).2))) 49 = g2 from (sr_ne (show (49 : Nat) ≠ 40 by omega)).trans (sr_self)] at hB
                          have hB : jB G A s_.heap (sr (sr I 40 (uS o n ((rMa (I 48) n (((rNx (I 48) n (nI 44) ((p2, v2))).2))).2))) 49 (rMaR (I 48) n (((rNx (I 48) n (nI 44) ((p2, v2))).2)) (g2)), J, O) H locs := by (rw [show sr (sr I 40 (uS o n ((rMa (I 48) n (((rNx (I 48) n (nI 44) ((p2, v2))).2))).2))) 49 (rMaR (I 48) n (((rNx (I 48) n (nI 44) ((p2, v2))).2)) (g2)) = sr (sr (sr (sr I 49 (g2)) 40 (uS o n ((rNx (I 48) n (nI 44) ((p2, v2))).2))) 40 (uS o n ((rMa (I 48) n (((rNx (I 48) n (nI 44) ((p2, v2))).2))).2))) 49 (rMaR (I 48) n (((rNx (I 48) n (nI 44) ((p2, v2))).2)) (g2)) from by funext a; simp +decide only [sr]; (repeat' split) <;> first | rfl | (exfalso; omega) | (subst_vars; rfl)]; exact hB)
                          refine j_eqi (y := b2 ((rMa (I 48) n (((rNx (I 48) n (nI 44) ((p2, v2))).2))).1)) hr_79 ?_
                          refine lv_istore_n (lv' := [(1, .int (b2 ((rMa (I 48) n (((rNx (I 48) n (nI 44) ((p2, v2))).2))).1))), (0, .ref (G.2.2.1 (20, 0, 0)))]) hx hb dX8_takesPrison_82 rfl hl (by decide) rfl (fun ls hl => ?_)
                          refine lv_goto (tgt := 55) hx hb dX8_takesPrison_83 (by decide) ?_
                          exact ih_55 (uS o n ((rMa (I 48) n (((rNx (I 48) n (nI 44) ((p2, v2))).2))).2)) (rMaR (I 48) n (((rNx (I 48) n (nI 44) ((p2, v2))).2)) (g2)) (((rMa (I 48) n (((rNx (I 48) n (nI 44) ((p2, v2))).2))).2).1) (((rMa (I 48) n (((rNx (I 48) n (nI 44) ((p2, v2))).2))).2).2) ((rMa (I 48) n (((rNx (I 48) n (nI 44) ((p2, v2))).2))).1) (f2 - 1) (by omega) (rfl) (rMa_le (rNx_le (by decide) (hp2))) (by omega) (fun h => by rw [show 4 - (f2 - 1) = (4 - f2) + 1 by omega]; exact (rMaR_1 (by omega) (hg2 c_56)).1 h) (by rw [← hit2, rMs_on (s := (g2, (p2, v2), is2)) (by omega) c_56 c_75]) _ _ _ hB (lv_sub hl [0, 1] rfl)
                exact lp_55 _ (uS o n ((rMa (I 48) n (((rNx (I 48) n (nI 59) (((rNx (I 48) n (nI 44) ((p1, v1))).2))).2))).2)) (rMaR (I 48) n (((rNx (I 48) n (nI 59) (((rNx (I 48) n (nI 44) ((p1, v1))).2))).2)) (g1)) (((rMa (I 48) n (((rNx (I 48) n (nI 59) (((rNx (I 48) n (nI 44) ((p1, v1))).2))).2))).2).1) (((rMa (I 48) n (((rNx (I 48) n (nI 59) (((rNx (I 48) n (nI 44) ((p1, v1))).2))).2))).2).2) ((rMa (I 48) n (((rNx (I 48) n (nI 59) (((rNx (I 48) n (nI 44) ((p1, v1))).2))).2))).1) 3 (Nat.lt_succ_self _) (rfl) (rMa_le (rNx_le (by decide) (rNx_le (by decide) (hp1)))) (by omega) ((rMaR_1 (by omega) hm1).1) (rMs_eta) _ _ _ hB (lv_sub hl [0, 1] rfl)
          · refine lv_aload_n hx hb dX8_takesPrison_29 rfl (lv_at hl 1 rfl) ?_
            refine j_cvi (20, 0, 0) [] hC hB hl.1 (c_X8_takesDoor l_ G (sr (sr I 49 (g1)) 40 (uS o n ((rNx (I 48) n (nI 44) ((p1, v1))).2))) J O  (by omega) ((sr_nj (show (49 : Nat) ≠ 40 by omega)).trans (sr_sj.trans (hg1 c_6))) (hn) (rNx_le (by decide) (hp1)) (sr_self)) (cwV 0 hts gX8_takesPrison_X8_takesDoor rfl rfl rfl (by decide +kernel) ⟨by decide, by decide⟩) dX8_takesPrison_30 jk20 rfl rfl rfl rfl (Nat.le_of_ble_eq_true rfl) (fun r_30 u_30 H locs hp_30 hB => ?_)
            obtain ⟨hr_30, rfl⟩ := hp_30
            try simp only [show (sr (sr I 49 (g1)) 40 (uS o n ((rNx (I 48) n (nI 44) ((p1, v1))).2))) 48 = I 48 from (sr_ne (show (48 : Nat) ≠ 40 by omega)).trans ((sr_ne (show (48 : Nat) ≠ 49 by omega))), show (sr (sr I 49 (g1)) 40 (uS o n ((rNx (I 48) n (nI 44) ((p1, v1))).2))) 49 = g1 from (sr_ne (show (49 : Nat) ≠ 40 by omega)).trans (sr_self)] at hr_30
            have hl_30 : ((rDo (I 48) n (((rNx (I 48) n (nI 44) ((p1, v1))).2))).2).1 ≤ n := rDo_le (rNx_le (by decide) (hp1))
            try simp only [show (sr (sr I 49 (g1)) 40 (uS o n ((rNx (I 48) n (nI 44) ((p1, v1))).2))) 48 = I 48 from (sr_ne (show (48 : Nat) ≠ 40 by omega)).trans ((sr_ne (show (48 : Nat) ≠ 49 by omega))), show (sr (sr I 49 (g1)) 40 (uS o n ((rNx (I 48) n (nI 44) ((p1, v1))).2))) 49 = g1 from (sr_ne (show (49 : Nat) ≠ 40 by omega)).trans (sr_self)] at hB
            have hB : jB G A s_.heap (sr (sr I 40 (uS o n ((rDo (I 48) n (((rNx (I 48) n (nI 44) ((p1, v1))).2))).2))) 49 (rDoR (I 48) n (((rNx (I 48) n (nI 44) ((p1, v1))).2)) (g1)), J, O) H locs := by (rw [show sr (sr I 40 (uS o n ((rDo (I 48) n (((rNx (I 48) n (nI 44) ((p1, v1))).2))).2))) 49 (rDoR (I 48) n (((rNx (I 48) n (nI 44) ((p1, v1))).2)) (g1)) = sr (sr (sr (sr I 49 (g1)) 40 (uS o n ((rNx (I 48) n (nI 44) ((p1, v1))).2))) 40 (uS o n ((rDo (I 48) n (((rNx (I 48) n (nI 44) ((p1, v1))).2))).2))) 49 (rDoR (I 48) n (((rNx (I 48) n (nI 44) ((p1, v1))).2)) (g1)) from by funext a; simp +decide only [sr]; (repeat' split) <;> first | rfl | (exfalso; omega) | (subst_vars; rfl)]; exact hB)
            refine j_eqi (y := b2 ((rDo (I 48) n (((rNx (I 48) n (nI 44) ((p1, v1))).2))).1)) hr_30 ?_
            refine lv_istore_n (lv' := [(1, .int (b2 ((rDo (I 48) n (((rNx (I 48) n (nI 44) ((p1, v1))).2))).1))), (0, .ref (G.2.2.1 (20, 0, 0)))]) hx hb dX8_takesPrison_33 rfl hl (by decide) rfl (fun ls hl => ?_)
            refine lv_goto (tgt := 5) hx hb dX8_takesPrison_34 (by decide) ?_
            exact ih_5 (uS o n ((rDo (I 48) n (((rNx (I 48) n (nI 44) ((p1, v1))).2))).2)) (rDoR (I 48) n (((rNx (I 48) n (nI 44) ((p1, v1))).2)) (g1)) (((rDo (I 48) n (((rNx (I 48) n (nI 44) ((p1, v1))).2))).2).1) (((rDo (I 48) n (((rNx (I 48) n (nI 44) ((p1, v1))).2))).2).2) ((rDo (I 48) n (((rNx (I 48) n (nI 44) ((p1, v1))).2))).1) (f1 - 1) (by omega) (rfl) (rDo_le (rNx_le (by decide) (hp1))) (by omega) (((rDoR_0 (by omega) (hg1 c_6)).2).trans hm1) (fun h => by rw [show 10 - (f1 - 1) = (10 - f1) + 1 by omega]; exact (rDoR_0 (by omega) (hg1 c_6)).1 h) (by rw [← hit1, rDs_on (s := (g1, (p1, v1), is1)) (by omega) c_6 c_26]) _ _ _ hB (lv_sub hl [0, 1] rfl)
  exact lp_5 _ (uS o n ((rDo (I 48) n q).2)) (rDoR (I 48) n q (I 49)) (((rDo (I 48) n q).2).1) (((rDo (I 48) n q).2).2) ((rDo (I 48) n q).1) 9 (Nat.lt_succ_self _) (rfl) (rDo_le (hq)) (by omega) (((rDoR_0 (by omega) hD0).2).trans hM0) ((rDoR_0 (by omega) hD0).1) (by unfold rP1; exact rDs_eta) _ _ _ hB (lv_sub hl [0, 1] rfl)

set_option maxHeartbeats 4000000 in
set_option maxRecDepth 100000 in
theorem c_X8_read (l_ : Launch) (G : jG) (I : Nat → Nat → Int32) (J : Nat → Nat → Int64) (O : Nat → Nat → Nat) {o : Nat → Int32} {n : Nat} {q : Nat × Int32} (hn : n ≤ 90) (hU : I 40 = uS o n q) : jMi l_ G yX8_read wsX8_read ({ frames := 4, cells := 0, slots := 0, locals := 92 }) [.ref (G.2.2.1 (20, 0, 0))] (I, J, O) (fun r u => r = rdAn (I 48) n q.2 (I 49) ∧ ∃ q2 x49, u = (if (rP3 (I 48) n (0, q.2) (a000 (I 49))).1 = true then sr (sr (sr I 40 (uS o 0 q2)) 49 x49) 41 (cp67 (rP2 (I 48) n (0, q.2) (a000 (I 49))).1 (I 41) 364) else sr (sr I 40 (uS o 0 q2)) 49 x49, J, O)) := by
  refine jMi_of (cc := cX8_read) (maxL := 4) (ret := (some .int)) (lv0 := [(0, .ref (G.2.2.1 (20, 0, 0)))]) (by decide) rfl (Nat.le_of_ble_eq_true rfl) rfl ?_
  intro pg_ ev_ s_ mi_ below meth cd_ A ls hC hB hl
  obtain ⟨hx, hb, hr, hml, hown, hts, hlocks, hK, hA⟩ := id hC
  have lk_203 := hts (.fieldLink RX8 203 "RiddlePrisonModel" "place" "I") (by decide +kernel)
  have lk_41 := hts (.fieldLink RX8 41 "RiddlePrisonModel" "anew" "[I") (by decide +kernel)
  have lk_200 := hts (.fieldLink RX8 200 "RiddlePrisonModel" "tapeLong" "I") (by decide +kernel)
  have lk_7 := hts (.fieldLink RX8 7 "RiddlePrisonModel" "now" "[I") (by decide +kernel)
  have in_X8 := (fun w h => List.mem_cons_of_mem _ (List.mem_append_right _ h) : ∀ w ∈ wsX80, w ∈ wsX8_read)
  have hU2 : I 40 2 = nI n := by rw [hU]; exact uS_2
  have hU3 : I 40 3 = nI q.1 := by rw [hU]; exact uS_3
  have hU4 : I 40 4 = q.2 := by rw [hU]; exact uS_4
  refine lv_aload_n hx hb dX8_read_0 rfl (lv_at hl 0 rfl) ?_
  refine lv_iconst (v := nI 0) hx hb dX8_read_1 (by decide) ?_
  refine j_put (20, 0, 0) 13 (u2 I 40 3 (nI 0), J, O) (ty := .int) hC hB in_X8 tyX8_ok nmX8 lk_203 dX8_read_2 jk20 rfl rfl (by decide) rfl (by decide +kernel) rfl rfl (Nat.le_of_ble_eq_true rfl) (fun z hz hne => jw_fr z hz hne) (rfl) (fun H locs hB => ?_)
  have hB : jB G A s_.heap (sr I 40 (upd (I 40) 3 (nI 0)), J, O) H locs := by rw [show sr I 40 (upd (I 40) 3 (nI 0)) = u2 I 40 3 (nI 0) from (u2_eq _ _ _ _).symm]; exact hB
  have hB : jB G A s_.heap (sr I 40 (uS o n (0, q.2)), J, O) H locs := by rw [← show upd (I 40) 3 (nI 0) = uS o n (0, q.2) from by rw [hU]; exact uS_p]; exact hB
  refine lv_aload_n hx hb dX8_read_5 rfl (lv_at hl 0 rfl) ?_
  refine j_get (20, 0, 0) 14 (v := .ref (G.2.2.1 (21, 49, 0))) hC hB in_X8 lk_41 dX8_read_6 jk20 rfl rfl (by decide) rfl ?_
  refine lv_iconst (v := nI 0) hx hb dX8_read_9 (by decide) ?_
  refine lv_iconst (v := nI 0) hx hb dX8_read_10 (by decide) ?_
  refine j_iSt 49 0 hC hB dX8_read_11 (by decide) rfl (by simp only [lenI_49]; omega) (fun H locs hB => ?_)
  have hB : jB G A s_.heap (sr (sr I 40 (uS o n (0, q.2))) 49 (upd (I 49) 0 (nI 0)), J, O) H locs := by rw [show sr (sr I 40 (uS o n (0, q.2))) 49 (upd (I 49) 0 (nI 0)) = u2 (sr I 40 (uS o n (0, q.2))) 49 0 (nI 0) from (u2_sr1 (show (49 : Nat) ≠ 40 by omega)).symm]; exact hB
  refine lv_aload_n hx hb dX8_read_12 rfl (lv_at hl 0 rfl) ?_
  refine j_get (20, 0, 0) 14 (v := .ref (G.2.2.1 (21, 49, 0))) hC hB in_X8 lk_41 dX8_read_13 jk20 rfl rfl (by decide) rfl ?_
  refine lv_iconst (v := nI 1) hx hb dX8_read_16 (by decide) ?_
  refine lv_iconst (v := nI 0) hx hb dX8_read_17 (by decide) ?_
  refine j_iSt 49 1 hC hB dX8_read_18 (by decide) rfl (by simp only [lenI_49]; omega) (fun H locs hB => ?_)
  have hB : jB G A s_.heap (sr (sr I 40 (uS o n (0, q.2))) 49 (upd (upd (I 49) 0 (nI 0)) 1 (nI 0)), J, O) H locs := by rw [show sr (sr I 40 (uS o n (0, q.2))) 49 (upd (upd (I 49) 0 (nI 0)) 1 (nI 0)) = u2 (sr (sr I 40 (uS o n (0, q.2))) 49 (upd (I 49) 0 (nI 0))) 49 1 (nI 0) from (u2_sr _ _ _ _ _).symm]; exact hB
  refine lv_aload_n hx hb dX8_read_19 rfl (lv_at hl 0 rfl) ?_
  refine j_get (20, 0, 0) 14 (v := .ref (G.2.2.1 (21, 49, 0))) hC hB in_X8 lk_41 dX8_read_20 jk20 rfl rfl (by decide) rfl ?_
  refine lv_iconst (v := nI 2) hx hb dX8_read_23 (by decide) ?_
  refine lv_iconst (v := nI 0) hx hb dX8_read_24 (by decide) ?_
  refine j_iSt 49 2 hC hB dX8_read_25 (by decide) rfl (by simp only [lenI_49]; omega) (fun H locs hB => ?_)
  have hB : jB G A s_.heap (sr (sr I 40 (uS o n (0, q.2))) 49 (upd (upd (upd (I 49) 0 (nI 0)) 1 (nI 0)) 2 (nI 0)), J, O) H locs := by rw [show sr (sr I 40 (uS o n (0, q.2))) 49 (upd (upd (upd (I 49) 0 (nI 0)) 1 (nI 0)) 2 (nI 0)) = u2 (sr (sr I 40 (uS o n (0, q.2))) 49 (upd (upd (I 49) 0 (nI 0)) 1 (nI 0))) 49 2 (nI 0) from (u2_sr _ _ _ _ _).symm]; exact hB
  have hB : jB G A s_.heap (sr (sr I 40 (uS o n (0, q.2))) 49 (a000 (I 49)), J, O) H locs := by rw [← show upd (upd (upd (I 49) 0 (nI 0)) 1 (nI 0)) 2 (nI 0) = a000 (I 49) from rfl]; exact hB
  refine lv_aload_n hx hb dX8_read_26 rfl (lv_at hl 0 rfl) ?_
  refine j_cvi (20, 0, 0) [] hC hB hl.1 (c_X8_takesPrison l_ G (sr (sr I 40 (uS o n (0, q.2))) 49 (a000 (I 49))) J O  (sr_sj.trans (a000_0)) (sr_sj.trans (a000_1)) (hn) (Nat.zero_le _) ((sr_ne (show (40 : Nat) ≠ 49 by decide)).trans (sr_self))) (cwV 0 hts gX8_read_X8_takesPrison rfl rfl rfl (by decide +kernel) ⟨by decide, by decide⟩) dX8_read_27 jk20 rfl rfl rfl rfl (Nat.le_of_ble_eq_true rfl) (fun r_27 u_27 H locs hp_27 hB => ?_)
  obtain ⟨hr_27, rfl⟩ := hp_27
  try simp only [show (sr (sr I 40 (uS o n (0, q.2))) 49 (a000 (I 49))) 48 = I 48 from (sr_ne (show (48 : Nat) ≠ 49 by omega)).trans ((sr_ne (show (48 : Nat) ≠ 40 by omega))), show (sr (sr I 40 (uS o n (0, q.2))) 49 (a000 (I 49))) 49 = a000 (I 49) from sr_self] at hr_27
  have hl_27 : ((rP3 (I 48) n ((0, q.2)) (a000 (I 49))).2).1 ≤ n := rP3_le (Nat.zero_le _)
  try simp only [show (sr (sr I 40 (uS o n (0, q.2))) 49 (a000 (I 49))) 48 = I 48 from (sr_ne (show (48 : Nat) ≠ 49 by omega)).trans ((sr_ne (show (48 : Nat) ≠ 40 by omega))), show (sr (sr I 40 (uS o n (0, q.2))) 49 (a000 (I 49))) 49 = a000 (I 49) from sr_self] at hB
  have hB : jB G A s_.heap (sr (sr I 40 (uS o n ((rP3 (I 48) n ((0, q.2)) (a000 (I 49))).2))) 49 ((rP2 (I 48) n ((0, q.2)) (a000 (I 49))).1), J, O) H locs := by (rw [show sr (sr I 40 (uS o n ((rP3 (I 48) n ((0, q.2)) (a000 (I 49))).2))) 49 ((rP2 (I 48) n ((0, q.2)) (a000 (I 49))).1) = sr (sr (sr (sr I 40 (uS o n (0, q.2))) 49 (a000 (I 49))) 40 (uS o n ((rP3 (I 48) n ((0, q.2)) (a000 (I 49))).2))) 49 ((rP2 (I 48) n ((0, q.2)) (a000 (I 49))).1) from by funext a; simp +decide only [sr]; (repeat' split) <;> first | rfl | (exfalso; omega) | (subst_vars; rfl)]; exact hB)
  refine j_eqi (y := b2 ((rP3 (I 48) n ((0, q.2)) (a000 (I 49))).1)) hr_27 ?_
  refine lv_istore_n (lv' := [(1, .int (b2 ((rP3 (I 48) n ((0, q.2)) (a000 (I 49))).1))), (0, .ref (G.2.2.1 (20, 0, 0)))]) hx hb dX8_read_30 rfl hl (by decide) rfl (fun ls hl => ?_)
  refine lv_aload_n hx hb dX8_read_31 rfl (lv_at hl 1 rfl) ?_
  refine j_cvi (20, 0, 0) [] hC hB hl.1 (c_X8_next l_ G (sr (sr I 40 (uS o n ((rP3 (I 48) n ((0, q.2)) (a000 (I 49))).2))) 49 ((rP2 (I 48) n ((0, q.2)) (a000 (I 49))).1)) J O  (hn) (rP3_le (Nat.zero_le _)) ((sr_ne (show (40 : Nat) ≠ 49 by decide)).trans (sr_self))) (cwV 0 hts gX8_read_X8_next rfl rfl rfl (by decide +kernel) ⟨by decide, by decide⟩) dX8_read_32 jk20 rfl rfl rfl rfl (Nat.le_of_ble_eq_true rfl) (fun r_32 u_32 H locs hp_32 hB => ?_)
  obtain ⟨hr_32, rfl⟩ := hp_32
  try simp only [show (sr (sr I 40 (uS o n ((rP3 (I 48) n ((0, q.2)) (a000 (I 49))).2))) 49 ((rP2 (I 48) n ((0, q.2)) (a000 (I 49))).1)) 48 = I 48 from (sr_ne (show (48 : Nat) ≠ 49 by omega)).trans ((sr_ne (show (48 : Nat) ≠ 40 by omega)))] at hr_32
  have hl_32 : ((sk (I 48) n (((rP3 (I 48) n ((0, q.2)) (a000 (I 49))).2)).1, (((rP3 (I 48) n ((0, q.2)) (a000 (I 49))).2)).2)).1 ≤ n := (sk_le (rP3_le (Nat.zero_le _))).2
  try simp only [show (sr (sr I 40 (uS o n ((rP3 (I 48) n ((0, q.2)) (a000 (I 49))).2))) 49 ((rP2 (I 48) n ((0, q.2)) (a000 (I 49))).1)) 48 = I 48 from (sr_ne (show (48 : Nat) ≠ 49 by omega)).trans ((sr_ne (show (48 : Nat) ≠ 40 by omega)))] at hB
  have hB : jB G A s_.heap (sr (sr I 49 ((rP2 (I 48) n ((0, q.2)) (a000 (I 49))).1)) 40 (uS o n ((sk (I 48) n (((rP3 (I 48) n ((0, q.2)) (a000 (I 49))).2)).1, (((rP3 (I 48) n ((0, q.2)) (a000 (I 49))).2)).2))), J, O) H locs := by (rw [show sr (sr I 49 ((rP2 (I 48) n ((0, q.2)) (a000 (I 49))).1)) 40 (uS o n ((sk (I 48) n (((rP3 (I 48) n ((0, q.2)) (a000 (I 49))).2)).1, (((rP3 (I 48) n ((0, q.2)) (a000 (I 49))).2)).2))) = sr (sr (sr I 40 (uS o n ((rP3 (I 48) n ((0, q.2)) (a000 (I 49))).2))) 49 ((rP2 (I 48) n ((0, q.2)) (a000 (I 49))).1)) 40 (uS o n ((sk (I 48) n (((rP3 (I 48) n ((0, q.2)) (a000 (I 49))).2)).1, (((rP3 (I 48) n ((0, q.2)) (a000 (I 49))).2)).2))) from by funext a; simp +decide only [sr]; (repeat' split) <;> first | rfl | (exfalso; omega) | (subst_vars; rfl)]; exact hB)
  refine j_eqi (y := nx (I 48) n (((rP3 (I 48) n ((0, q.2)) (a000 (I 49))).2)).1) hr_32 ?_
  refine lv_bipush (v := (-4 : Int32)) hx hb dX8_read_35 (by decide) ?_
  refine lv_icmp_ne (tgt := 47) hx hb dX8_read_37 (by decide) (fun c_37 => ?_) (fun c_37 => ?_)
  · refine lv_aload_n hx hb dX8_read_47 rfl (lv_at hl 1 rfl) ?_
    refine j_get (20, 0, 0) 13 (v := .int ((sr (sr I 49 ((rP2 (I 48) n ((0, q.2)) (a000 (I 49))).1)) 40 (uS o n ((sk (I 48) n (((rP3 (I 48) n ((0, q.2)) (a000 (I 49))).2)).1, (((rP3 (I 48) n ((0, q.2)) (a000 (I 49))).2)).2)))) 40 3)) hC hB in_X8 lk_203 dX8_read_48 jk20 rfl rfl (by decide) rfl ?_
    refine j_eqi (x := (sr (sr I 49 ((rP2 (I 48) n ((0, q.2)) (a000 (I 49))).1)) 40 (uS o n ((sk (I 48) n (((rP3 (I 48) n ((0, q.2)) (a000 (I 49))).2)).1, (((rP3 (I 48) n ((0, q.2)) (a000 (I 49))).2)).2)))) 40 3) (y := nI (((sk (I 48) n (((rP3 (I 48) n ((0, q.2)) (a000 (I 49))).2)).1, (((rP3 (I 48) n ((0, q.2)) (a000 (I 49))).2)).2)).1)) (sr_sj.trans (uS_3)) ?_
    have hft : rdFt (I 48) n q.2 (I 49) = ((sk (I 48) n (((rP3 (I 48) n ((0, q.2)) (a000 (I 49))).2)).1, (((rP3 (I 48) n ((0, q.2)) (a000 (I 49))).2)).2)).1 := by rw [rdFt, if_neg c_37]
    refine j_eqi (y := nI (rdFt (I 48) n q.2 (I 49))) (by rw [hft]) ?_
    refine lv_istore_n (lv' := [(2, .int (nI (rdFt (I 48) n q.2 (I 49)))), (1, .int (b2 ((rP3 (I 48) n ((0, q.2)) (a000 (I 49))).1))), (0, .ref (G.2.2.1 (20, 0, 0)))]) hx hb dX8_read_51 rfl hl (by decide) rfl (fun ls hl => ?_)
    refine lv_aload_n hx hb dX8_read_52 rfl (lv_at hl 2 rfl) ?_
    refine lv_iconst (v := nI 0) hx hb dX8_read_53 (by decide) ?_
    refine j_put (20, 0, 0) 12 (u2 (sr (sr I 49 ((rP2 (I 48) n ((0, q.2)) (a000 (I 49))).1)) 40 (uS o n ((sk (I 48) n (((rP3 (I 48) n ((0, q.2)) (a000 (I 49))).2)).1, (((rP3 (I 48) n ((0, q.2)) (a000 (I 49))).2)).2)))) 40 2 (nI 0), J, O) (ty := .int) hC hB in_X8 tyX8_ok nmX8 lk_200 dX8_read_54 jk20 rfl rfl (by decide) rfl (by decide +kernel) rfl rfl (Nat.le_of_ble_eq_true rfl) (fun z hz hne => jw_fr z hz hne) (rfl) (fun H locs hB => ?_)
    have hB : jB G A s_.heap (sr (sr I 49 ((rP2 (I 48) n ((0, q.2)) (a000 (I 49))).1)) 40 (upd (uS o n ((sk (I 48) n (((rP3 (I 48) n ((0, q.2)) (a000 (I 49))).2)).1, (((rP3 (I 48) n ((0, q.2)) (a000 (I 49))).2)).2))) 2 (nI 0)), J, O) H locs := by rw [show sr (sr I 49 ((rP2 (I 48) n ((0, q.2)) (a000 (I 49))).1)) 40 (upd (uS o n ((sk (I 48) n (((rP3 (I 48) n ((0, q.2)) (a000 (I 49))).2)).1, (((rP3 (I 48) n ((0, q.2)) (a000 (I 49))).2)).2))) 2 (nI 0)) = u2 (sr (sr I 49 ((rP2 (I 48) n ((0, q.2)) (a000 (I 49))).1)) 40 (uS o n ((sk (I 48) n (((rP3 (I 48) n ((0, q.2)) (a000 (I 49))).2)).1, (((rP3 (I 48) n ((0, q.2)) (a000 (I 49))).2)).2)))) 40 2 (nI 0) from (u2_sr _ _ _ _ _).symm]; exact hB
    have hB : jB G A s_.heap (sr (sr I 49 ((rP2 (I 48) n ((0, q.2)) (a000 (I 49))).1)) 40 (uS o 0 ((sk (I 48) n (((rP3 (I 48) n ((0, q.2)) (a000 (I 49))).2)).1, (((rP3 (I 48) n ((0, q.2)) (a000 (I 49))).2)).2))), J, O) H locs := by rw [← show upd (uS o n ((sk (I 48) n (((rP3 (I 48) n ((0, q.2)) (a000 (I 49))).2)).1, (((rP3 (I 48) n ((0, q.2)) (a000 (I 49))).2)).2))) 2 (nI 0) = uS o 0 ((sk (I 48) n (((rP3 (I 48) n ((0, q.2)) (a000 (I 49))).2)).1, (((rP3 (I 48) n ((0, q.2)) (a000 (I 49))).2)).2)) from uS_n]; exact hB
    refine lv_iload_n hx hb dX8_read_57 rfl (lv_at hl 1 rfl) ?_
    refine jb_if_ne (tgt := 66) hx hb dX8_read_58 (by decide) (fun c_58 => ?_) (fun c_58 => ?_)
    · refine lv_iconst (v := nI 0) hx hb dX8_read_66 (by decide) ?_
      refine lv_istore_n (lv' := [(3, .int (nI 0)), (2, .int (nI (rdFt (I 48) n q.2 (I 49)))), (1, .int (b2 ((rP3 (I 48) n ((0, q.2)) (a000 (I 49))).1))), (0, .ref (G.2.2.1 (20, 0, 0)))]) hx hb dX8_read_67 rfl hl (by decide) rfl (fun ls hl => ?_)
      have lp_68 : ∀ (fu : Nat) (f : Nat → Int32) (k : Nat), 364 - k < fu → (k ≤ 364) → (f = cp67 (rP2 (I 48) n (0, q.2) (a000 (I 49))).1 (I 41) k) → ∀ H locs ls, jB G A s_.heap (sr (sr (sr I 49 ((rP2 (I 48) n ((0, q.2)) (a000 (I 49))).1)) 40 (uS o 0 ((sk (I 48) n (((rP3 (I 48) n ((0, q.2)) (a000 (I 49))).2)).1, (((rP3 (I 48) n ((0, q.2)) (a000 (I 49))).2)).2)))) 41 (f), J, O) H locs → lv_has ls 4 [(3, .int (nI k)), (2, .int (nI (rdFt (I 48) n q.2 (I 49)))), (1, .int (b2 ((rP3 (I 48) n ((0, q.2)) (a000 (I 49))).1))), (0, .ref (G.2.2.1 (20, 0, 0)))] → W pg_ l_ ev_ ({ frames := 4, cells := 0, slots := 0, locals := 92 }) s_ mi_ ([.ref (G.2.2.1 (20, 0, 0))]).toArray below meth cd_ H locs 0 0 (jQi G A below [.ref (G.2.2.1 (20, 0, 0))] s_ (fun r u => r = rdAn (I 48) n q.2 (I 49) ∧ ∃ q2 x49, u = (if (rP3 (I 48) n (0, q.2) (a000 (I 49))).1 = true then sr (sr (sr I 40 (uS o 0 q2)) 49 x49) 41 (cp67 (rP2 (I 48) n (0, q.2) (a000 (I 49))).1 (I 41) 364) else sr (sr I 40 (uS o 0 q2)) 49 x49, J, O))) (F0 mi_ 68 ls []) := by
        intro fu
        induction fu with
        | zero => intro f k hf; exact absurd hf (Nat.not_lt_zero _)
        | succ fu ih_68 =>
          intro f k hf_68 hk hf H locs ls hB hl
          refine lv_iload_n hx hb dX8_read_68 rfl (lv_at hl 0 rfl) ?_
          refine lv_sipush (v := nI 364) hx hb dX8_read_69 (by decide) ?_
          refine jn_icmp_ge (tgt := 108) hx hb dX8_read_72 (by decide) (by omega) (by omega) (fun c_72 => ?_) (fun c_72 => ?_)
          · refine lv_aload_n hx hb dX8_read_108 rfl (lv_at hl 3 rfl) ?_
            refine j_get (20, 0, 0) 0 (v := .ref (G.2.2.1 (21, 41, 0))) hC hB in_X8 lk_7 dX8_read_109 jk20 rfl rfl (by decide) rfl ?_
            refine lv_iconst (v := nI 0) hx hb dX8_read_112 (by decide) ?_
            refine j_iLd 41 0 hC hB dX8_read_113 (by decide) rfl (by simp only [lenI_41]; omega) ?_
            refine j_eqi (x := (sr (sr (sr I 49 ((rP2 (I 48) n ((0, q.2)) (a000 (I 49))).1)) 40 (uS o 0 ((sk (I 48) n (((rP3 (I 48) n ((0, q.2)) (a000 (I 49))).2)).1, (((rP3 (I 48) n ((0, q.2)) (a000 (I 49))).2)).2)))) 41 (f)) 41 0) (y := f 0) (sr_sj) ?_
            exact j_iret hC hB dX8_read_114 (⟨by rw [rdAn, if_pos c_58, hf, show k = 364 by omega]; rfl, _, _, by rw [if_pos c_58, hf, show k = 364 by omega]; rw [sr_sw (show (49 : Nat) ≠ 40 by decide)]⟩)
          · refine lv_aload_n hx hb dX8_read_75 rfl (lv_at hl 3 rfl) ?_
            refine j_get (20, 0, 0) 0 (v := .ref (G.2.2.1 (21, 41, 0))) hC hB in_X8 lk_7 dX8_read_76 jk20 rfl rfl (by decide) rfl ?_
            refine lv_iload_n hx hb dX8_read_79 rfl (lv_at hl 0 rfl) ?_
            refine lv_iload_n hx hb dX8_read_80 rfl (lv_at hl 0 rfl) ?_
            refine lv_bipush (v := nI 67) hx hb dX8_read_81 (by decide) ?_
            refine jn_icmp_ne (tgt := 95) hx hb dX8_read_83 (by decide) (by omega) (by omega) (fun c_83 => ?_) (fun c_83 => ?_)
            · refine lv_aload_n hx hb dX8_read_95 rfl (lv_at hl 3 rfl) ?_
              refine j_get (20, 0, 0) 14 (v := .ref (G.2.2.1 (21, 49, 0))) hC hB in_X8 lk_41 dX8_read_96 jk20 rfl rfl (by decide) rfl ?_
              refine lv_iload_n hx hb dX8_read_99 rfl (lv_at hl 0 rfl) ?_
              refine j_iLd 49 k hC hB dX8_read_100 (by decide) rfl (by simp only [lenI_49]; omega) ?_
              refine j_eqi (x := (sr (sr (sr I 49 ((rP2 (I 48) n ((0, q.2)) (a000 (I 49))).1)) 40 (uS o 0 ((sk (I 48) n (((rP3 (I 48) n ((0, q.2)) (a000 (I 49))).2)).1, (((rP3 (I 48) n ((0, q.2)) (a000 (I 49))).2)).2)))) 41 (f)) 49 k) (y := ((rP2 (I 48) n ((0, q.2)) (a000 (I 49))).1) k) ((sr_nj (show (49 : Nat) ≠ 41 by omega)).trans ((sr_nj (show (49 : Nat) ≠ 40 by omega)).trans (sr_sj))) ?_
              refine j_iSt 41 k hC hB dX8_read_101 (by decide) rfl (by simp only [lenI_41]; omega) (fun H locs hB => ?_)
              have hB : jB G A s_.heap (sr (sr (sr I 49 ((rP2 (I 48) n ((0, q.2)) (a000 (I 49))).1)) 40 (uS o 0 ((sk (I 48) n (((rP3 (I 48) n ((0, q.2)) (a000 (I 49))).2)).1, (((rP3 (I 48) n ((0, q.2)) (a000 (I 49))).2)).2)))) 41 (upd (f) k (((rP2 (I 48) n ((0, q.2)) (a000 (I 49))).1) k)), J, O) H locs := by rw [show sr (sr (sr I 49 ((rP2 (I 48) n ((0, q.2)) (a000 (I 49))).1)) 40 (uS o 0 ((sk (I 48) n (((rP3 (I 48) n ((0, q.2)) (a000 (I 49))).2)).1, (((rP3 (I 48) n ((0, q.2)) (a000 (I 49))).2)).2)))) 41 (upd (f) k (((rP2 (I 48) n ((0, q.2)) (a000 (I 49))).1) k)) = u2 (sr (sr (sr I 49 ((rP2 (I 48) n ((0, q.2)) (a000 (I 49))).1)) 40 (uS o 0 ((sk (I 48) n (((rP3 (I 48) n ((0, q.2)) (a000 (I 49))).2)).1, (((rP3 (I 48) n ((0, q.2)) (a000 (I 49))).2)).2)))) 41 (f)) 41 k (((rP2 (I 48) n ((0, q.2)) (a000 (I 49))).1) k) from (u2_sr _ _ _ _ _).symm]; exact hB
              refine lv_iinc (v := nI (k + 1)) (lv' := [(3, .int (nI (k + 1))), (2, .int (nI (rdFt (I 48) n q.2 (I 49)))), (1, .int (b2 ((rP3 (I 48) n ((0, q.2)) (a000 (I 49))).1))), (0, .ref (G.2.2.1 (20, 0, 0)))]) hx hb dX8_read_102 hl (k := 0) rfl (jn_inc _ 1) (by decide) rfl (fun ls hl => ?_)
              refine lv_goto (tgt := 68) hx hb dX8_read_105 (by decide) ?_
              exact ih_68 (upd (f) k (((rP2 (I 48) n ((0, q.2)) (a000 (I 49))).1) k)) (k + 1) (by omega) (by omega) (by rw [hf, ← cp67_step]; rw [if_neg (show ¬ k = 67 by omega)]) _ _ _ hB (lv_sub hl [0, 1, 2, 3] rfl)
            · refine lv_aload_n hx hb dX8_read_86 rfl (lv_at hl 3 rfl) ?_
              refine j_get (20, 0, 0) 0 (v := .ref (G.2.2.1 (21, 41, 0))) hC hB in_X8 lk_7 dX8_read_87 jk20 rfl rfl (by decide) rfl ?_
              refine lv_iload_n hx hb dX8_read_90 rfl (lv_at hl 0 rfl) ?_
              refine j_iLd 41 k hC hB dX8_read_91 (by decide) rfl (by simp only [lenI_41]; omega) ?_
              refine j_eqi (x := (sr (sr (sr I 49 ((rP2 (I 48) n ((0, q.2)) (a000 (I 49))).1)) 40 (uS o 0 ((sk (I 48) n (((rP3 (I 48) n ((0, q.2)) (a000 (I 49))).2)).1, (((rP3 (I 48) n ((0, q.2)) (a000 (I 49))).2)).2)))) 41 (f)) 41 k) (y := f k) (sr_sj) ?_
              refine lv_goto (tgt := 101) hx hb dX8_read_92 (by decide) ?_
              refine j_iSt 41 k hC hB dX8_read_101 (by decide) rfl (by simp only [lenI_41]; omega) (fun H locs hB => ?_)
              have hB : jB G A s_.heap (sr (sr (sr I 49 ((rP2 (I 48) n ((0, q.2)) (a000 (I 49))).1)) 40 (uS o 0 ((sk (I 48) n (((rP3 (I 48) n ((0, q.2)) (a000 (I 49))).2)).1, (((rP3 (I 48) n ((0, q.2)) (a000 (I 49))).2)).2)))) 41 (upd (f) k (f k)), J, O) H locs := by rw [show sr (sr (sr I 49 ((rP2 (I 48) n ((0, q.2)) (a000 (I 49))).1)) 40 (uS o 0 ((sk (I 48) n (((rP3 (I 48) n ((0, q.2)) (a000 (I 49))).2)).1, (((rP3 (I 48) n ((0, q.2)) (a000 (I 49))).2)).2)))) 41 (upd (f) k (f k)) = u2 (sr (sr (sr I 49 ((rP2 (I 48) n ((0, q.2)) (a000 (I 49))).1)) 40 (uS o 0 ((sk (I 48) n (((rP3 (I 48) n ((0, q.2)) (a000 (I 49))).2)).1, (((rP3 (I 48) n ((0, q.2)) (a000 (I 49))).2)).2)))) 41 (f)) 41 k (f k) from (u2_sr _ _ _ _ _).symm]; exact hB
              refine lv_iinc (v := nI (k + 1)) (lv' := [(3, .int (nI (k + 1))), (2, .int (nI (rdFt (I 48) n q.2 (I 49)))), (1, .int (b2 ((rP3 (I 48) n ((0, q.2)) (a000 (I 49))).1))), (0, .ref (G.2.2.1 (20, 0, 0)))]) hx hb dX8_read_102 hl (k := 0) rfl (jn_inc _ 1) (by decide) rfl (fun ls hl => ?_)
              refine lv_goto (tgt := 68) hx hb dX8_read_105 (by decide) ?_
              exact ih_68 (upd (f) k (f k)) (k + 1) (by omega) (by omega) (by rw [hf, ← cp67_step]; rw [if_pos (show k = 67 by omega)]) _ _ _ hB (lv_sub hl [0, 1, 2, 3] rfl)
      exact lp_68 _ (I 41) 0 (Nat.lt_succ_self _) (by omega) ((cp67_0 _ _).symm) _ _ _ (jB_cast2 hB (by first | exact (sr_id _ _).symm | (funext a_; simp +decide only [sr]; (repeat' split) <;> first | rfl | (exfalso; omega) | (subst_vars; rfl))) rfl) (lv_sub hl [0, 1, 2, 3] rfl)
    · refine lv_bipush (v := (-20 : Int32)) hx hb dX8_read_61 (by decide) ?_
      refine lv_iload_n hx hb dX8_read_63 rfl (lv_at hl 0 rfl) ?_
      refine lv_isub hx hb dX8_read_64 ?_
      exact j_iret hC hB dX8_read_65 (⟨by rw [rdAn, if_neg (by rw [c_58]; decide)], _, _, by rw [if_neg (by rw [c_58]; decide)]; rw [sr_sw (show (49 : Nat) ≠ 40 by decide)]⟩)
  · refine lv_aload_n hx hb dX8_read_40 rfl (lv_at hl 1 rfl) ?_
    refine j_get (20, 0, 0) 12 (v := .int ((sr (sr I 49 ((rP2 (I 48) n ((0, q.2)) (a000 (I 49))).1)) 40 (uS o n ((sk (I 48) n (((rP3 (I 48) n ((0, q.2)) (a000 (I 49))).2)).1, (((rP3 (I 48) n ((0, q.2)) (a000 (I 49))).2)).2)))) 40 2)) hC hB in_X8 lk_200 dX8_read_41 jk20 rfl rfl (by decide) rfl ?_
    refine j_eqi (x := (sr (sr I 49 ((rP2 (I 48) n ((0, q.2)) (a000 (I 49))).1)) 40 (uS o n ((sk (I 48) n (((rP3 (I 48) n ((0, q.2)) (a000 (I 49))).2)).1, (((rP3 (I 48) n ((0, q.2)) (a000 (I 49))).2)).2)))) 40 2) (y := nI n) (sr_sj.trans (uS_2)) ?_
    refine lv_goto (tgt := 51) hx hb dX8_read_44 (by decide) ?_
    have hft : rdFt (I 48) n q.2 (I 49) = n := by rw [rdFt, if_pos c_37]
    refine j_eqi (y := nI (rdFt (I 48) n q.2 (I 49))) (by rw [hft]) ?_
    refine lv_istore_n (lv' := [(2, .int (nI (rdFt (I 48) n q.2 (I 49)))), (1, .int (b2 ((rP3 (I 48) n ((0, q.2)) (a000 (I 49))).1))), (0, .ref (G.2.2.1 (20, 0, 0)))]) hx hb dX8_read_51 rfl hl (by decide) rfl (fun ls hl => ?_)
    refine lv_aload_n hx hb dX8_read_52 rfl (lv_at hl 2 rfl) ?_
    refine lv_iconst (v := nI 0) hx hb dX8_read_53 (by decide) ?_
    refine j_put (20, 0, 0) 12 (u2 (sr (sr I 49 ((rP2 (I 48) n ((0, q.2)) (a000 (I 49))).1)) 40 (uS o n ((sk (I 48) n (((rP3 (I 48) n ((0, q.2)) (a000 (I 49))).2)).1, (((rP3 (I 48) n ((0, q.2)) (a000 (I 49))).2)).2)))) 40 2 (nI 0), J, O) (ty := .int) hC hB in_X8 tyX8_ok nmX8 lk_200 dX8_read_54 jk20 rfl rfl (by decide) rfl (by decide +kernel) rfl rfl (Nat.le_of_ble_eq_true rfl) (fun z hz hne => jw_fr z hz hne) (rfl) (fun H locs hB => ?_)
    have hB : jB G A s_.heap (sr (sr I 49 ((rP2 (I 48) n ((0, q.2)) (a000 (I 49))).1)) 40 (upd (uS o n ((sk (I 48) n (((rP3 (I 48) n ((0, q.2)) (a000 (I 49))).2)).1, (((rP3 (I 48) n ((0, q.2)) (a000 (I 49))).2)).2))) 2 (nI 0)), J, O) H locs := by rw [show sr (sr I 49 ((rP2 (I 48) n ((0, q.2)) (a000 (I 49))).1)) 40 (upd (uS o n ((sk (I 48) n (((rP3 (I 48) n ((0, q.2)) (a000 (I 49))).2)).1, (((rP3 (I 48) n ((0, q.2)) (a000 (I 49))).2)).2))) 2 (nI 0)) = u2 (sr (sr I 49 ((rP2 (I 48) n ((0, q.2)) (a000 (I 49))).1)) 40 (uS o n ((sk (I 48) n (((rP3 (I 48) n ((0, q.2)) (a000 (I 49))).2)).1, (((rP3 (I 48) n ((0, q.2)) (a000 (I 49))).2)).2)))) 40 2 (nI 0) from (u2_sr _ _ _ _ _).symm]; exact hB
    have hB : jB G A s_.heap (sr (sr I 49 ((rP2 (I 48) n ((0, q.2)) (a000 (I 49))).1)) 40 (uS o 0 ((sk (I 48) n (((rP3 (I 48) n ((0, q.2)) (a000 (I 49))).2)).1, (((rP3 (I 48) n ((0, q.2)) (a000 (I 49))).2)).2))), J, O) H locs := by rw [← show upd (uS o n ((sk (I 48) n (((rP3 (I 48) n ((0, q.2)) (a000 (I 49))).2)).1, (((rP3 (I 48) n ((0, q.2)) (a000 (I 49))).2)).2))) 2 (nI 0) = uS o 0 ((sk (I 48) n (((rP3 (I 48) n ((0, q.2)) (a000 (I 49))).2)).1, (((rP3 (I 48) n ((0, q.2)) (a000 (I 49))).2)).2)) from uS_n]; exact hB
    refine lv_iload_n hx hb dX8_read_57 rfl (lv_at hl 1 rfl) ?_
    refine jb_if_ne (tgt := 66) hx hb dX8_read_58 (by decide) (fun c_58 => ?_) (fun c_58 => ?_)
    · refine lv_iconst (v := nI 0) hx hb dX8_read_66 (by decide) ?_
      refine lv_istore_n (lv' := [(3, .int (nI 0)), (2, .int (nI (rdFt (I 48) n q.2 (I 49)))), (1, .int (b2 ((rP3 (I 48) n ((0, q.2)) (a000 (I 49))).1))), (0, .ref (G.2.2.1 (20, 0, 0)))]) hx hb dX8_read_67 rfl hl (by decide) rfl (fun ls hl => ?_)
      have lp_68 : ∀ (fu : Nat) (f : Nat → Int32) (k : Nat), 364 - k < fu → (k ≤ 364) → (f = cp67 (rP2 (I 48) n (0, q.2) (a000 (I 49))).1 (I 41) k) → ∀ H locs ls, jB G A s_.heap (sr (sr (sr I 49 ((rP2 (I 48) n ((0, q.2)) (a000 (I 49))).1)) 40 (uS o 0 ((sk (I 48) n (((rP3 (I 48) n ((0, q.2)) (a000 (I 49))).2)).1, (((rP3 (I 48) n ((0, q.2)) (a000 (I 49))).2)).2)))) 41 (f), J, O) H locs → lv_has ls 4 [(3, .int (nI k)), (2, .int (nI (rdFt (I 48) n q.2 (I 49)))), (1, .int (b2 ((rP3 (I 48) n ((0, q.2)) (a000 (I 49))).1))), (0, .ref (G.2.2.1 (20, 0, 0)))] → W pg_ l_ ev_ ({ frames := 4, cells := 0, slots := 0, locals := 92 }) s_ mi_ ([.ref (G.2.2.1 (20, 0, 0))]).toArray below meth cd_ H locs 0 0 (jQi G A below [.ref (G.2.2.1 (20, 0, 0))] s_ (fun r u => r = rdAn (I 48) n q.2 (I 49) ∧ ∃ q2 x49, u = (if (rP3 (I 48) n (0, q.2) (a000 (I 49))).1 = true then sr (sr (sr I 40 (uS o 0 q2)) 49 x49) 41 (cp67 (rP2 (I 48) n (0, q.2) (a000 (I 49))).1 (I 41) 364) else sr (sr I 40 (uS o 0 q2)) 49 x49, J, O))) (F0 mi_ 68 ls []) := by
        intro fu
        induction fu with
        | zero => intro f k hf; exact absurd hf (Nat.not_lt_zero _)
        | succ fu ih_68 =>
          intro f k hf_68 hk hf H locs ls hB hl
          refine lv_iload_n hx hb dX8_read_68 rfl (lv_at hl 0 rfl) ?_
          refine lv_sipush (v := nI 364) hx hb dX8_read_69 (by decide) ?_
          refine jn_icmp_ge (tgt := 108) hx hb dX8_read_72 (by decide) (by omega) (by omega) (fun c_72 => ?_) (fun c_72 => ?_)
          · refine lv_aload_n hx hb dX8_read_108 rfl (lv_at hl 3 rfl) ?_
            refine j_get (20, 0, 0) 0 (v := .ref (G.2.2.1 (21, 41, 0))) hC hB in_X8 lk_7 dX8_read_109 jk20 rfl rfl (by decide) rfl ?_
            refine lv_iconst (v := nI 0) hx hb dX8_read_112 (by decide) ?_
            refine j_iLd 41 0 hC hB dX8_read_113 (by decide) rfl (by simp only [lenI_41]; omega) ?_
            refine j_eqi (x := (sr (sr (sr I 49 ((rP2 (I 48) n ((0, q.2)) (a000 (I 49))).1)) 40 (uS o 0 ((sk (I 48) n (((rP3 (I 48) n ((0, q.2)) (a000 (I 49))).2)).1, (((rP3 (I 48) n ((0, q.2)) (a000 (I 49))).2)).2)))) 41 (f)) 41 0) (y := f 0) (sr_sj) ?_
            exact j_iret hC hB dX8_read_114 (⟨by rw [rdAn, if_pos c_58, hf, show k = 364 by omega]; rfl, _, _, by rw [if_pos c_58, hf, show k = 364 by omega]; rw [sr_sw (show (49 : Nat) ≠ 40 by decide)]⟩)
          · refine lv_aload_n hx hb dX8_read_75 rfl (lv_at hl 3 rfl) ?_
            refine j_get (20, 0, 0) 0 (v := .ref (G.2.2.1 (21, 41, 0))) hC hB in_X8 lk_7 dX8_read_76 jk20 rfl rfl (by decide) rfl ?_
            refine lv_iload_n hx hb dX8_read_79 rfl (lv_at hl 0 rfl) ?_
            refine lv_iload_n hx hb dX8_read_80 rfl (lv_at hl 0 rfl) ?_
            refine lv_bipush (v := nI 67) hx hb dX8_read_81 (by decide) ?_
            refine jn_icmp_ne (tgt := 95) hx hb dX8_read_83 (by decide) (by omega) (by omega) (fun c_83 => ?_) (fun c_83 => ?_)
            · refine lv_aload_n hx hb dX8_read_95 rfl (lv_at hl 3 rfl) ?_
              refine j_get (20, 0, 0) 14 (v := .ref (G.2.2.1 (21, 49, 0))) hC hB in_X8 lk_41 dX8_read_96 jk20 rfl rfl (by decide) rfl ?_
              refine lv_iload_n hx hb dX8_read_99 rfl (lv_at hl 0 rfl) ?_
              refine j_iLd 49 k hC hB dX8_read_100 (by decide) rfl (by simp only [lenI_49]; omega) ?_
              refine j_eqi (x := (sr (sr (sr I 49 ((rP2 (I 48) n ((0, q.2)) (a000 (I 49))).1)) 40 (uS o 0 ((sk (I 48) n (((rP3 (I 48) n ((0, q.2)) (a000 (I 49))).2)).1, (((rP3 (I 48) n ((0, q.2)) (a000 (I 49))).2)).2)))) 41 (f)) 49 k) (y := ((rP2 (I 48) n ((0, q.2)) (a000 (I 49))).1) k) ((sr_nj (show (49 : Nat) ≠ 41 by omega)).trans ((sr_nj (show (49 : Nat) ≠ 40 by omega)).trans (sr_sj))) ?_
              refine j_iSt 41 k hC hB dX8_read_101 (by decide) rfl (by simp only [lenI_41]; omega) (fun H locs hB => ?_)
              have hB : jB G A s_.heap (sr (sr (sr I 49 ((rP2 (I 48) n ((0, q.2)) (a000 (I 49))).1)) 40 (uS o 0 ((sk (I 48) n (((rP3 (I 48) n ((0, q.2)) (a000 (I 49))).2)).1, (((rP3 (I 48) n ((0, q.2)) (a000 (I 49))).2)).2)))) 41 (upd (f) k (((rP2 (I 48) n ((0, q.2)) (a000 (I 49))).1) k)), J, O) H locs := by rw [show sr (sr (sr I 49 ((rP2 (I 48) n ((0, q.2)) (a000 (I 49))).1)) 40 (uS o 0 ((sk (I 48) n (((rP3 (I 48) n ((0, q.2)) (a000 (I 49))).2)).1, (((rP3 (I 48) n ((0, q.2)) (a000 (I 49))).2)).2)))) 41 (upd (f) k (((rP2 (I 48) n ((0, q.2)) (a000 (I 49))).1) k)) = u2 (sr (sr (sr I 49 ((rP2 (I 48) n ((0, q.2)) (a000 (I 49))).1)) 40 (uS o 0 ((sk (I 48) n (((rP3 (I 48) n ((0, q.2)) (a000 (I 49))).2)).1, (((rP3 (I 48) n ((0, q.2)) (a000 (I 49))).2)).2)))) 41 (f)) 41 k (((rP2 (I 48) n ((0, q.2)) (a000 (I 49))).1) k) from (u2_sr _ _ _ _ _).symm]; exact hB
              refine lv_iinc (v := nI (k + 1)) (lv' := [(3, .int (nI (k + 1))), (2, .int (nI (rdFt (I 48) n q.2 (I 49)))), (1, .int (b2 ((rP3 (I 48) n ((0, q.2)) (a000 (I 49))).1))), (0, .ref (G.2.2.1 (20, 0, 0)))]) hx hb dX8_read_102 hl (k := 0) rfl (jn_inc _ 1) (by decide) rfl (fun ls hl => ?_)
              refine lv_goto (tgt := 68) hx hb dX8_read_105 (by decide) ?_
              exact ih_68 (upd (f) k (((rP2 (I 48) n ((0, q.2)) (a000 (I 49))).1) k)) (k + 1) (by omega) (by omega) (by rw [hf, ← cp67_step]; rw [if_neg (show ¬ k = 67 by omega)]) _ _ _ hB (lv_sub hl [0, 1, 2, 3] rfl)
            · refine lv_aload_n hx hb dX8_read_86 rfl (lv_at hl 3 rfl) ?_
              refine j_get (20, 0, 0) 0 (v := .ref (G.2.2.1 (21, 41, 0))) hC hB in_X8 lk_7 dX8_read_87 jk20 rfl rfl (by decide) rfl ?_
              refine lv_iload_n hx hb dX8_read_90 rfl (lv_at hl 0 rfl) ?_
              refine j_iLd 41 k hC hB dX8_read_91 (by decide) rfl (by simp only [lenI_41]; omega) ?_
              refine j_eqi (x := (sr (sr (sr I 49 ((rP2 (I 48) n ((0, q.2)) (a000 (I 49))).1)) 40 (uS o 0 ((sk (I 48) n (((rP3 (I 48) n ((0, q.2)) (a000 (I 49))).2)).1, (((rP3 (I 48) n ((0, q.2)) (a000 (I 49))).2)).2)))) 41 (f)) 41 k) (y := f k) (sr_sj) ?_
              refine lv_goto (tgt := 101) hx hb dX8_read_92 (by decide) ?_
              refine j_iSt 41 k hC hB dX8_read_101 (by decide) rfl (by simp only [lenI_41]; omega) (fun H locs hB => ?_)
              have hB : jB G A s_.heap (sr (sr (sr I 49 ((rP2 (I 48) n ((0, q.2)) (a000 (I 49))).1)) 40 (uS o 0 ((sk (I 48) n (((rP3 (I 48) n ((0, q.2)) (a000 (I 49))).2)).1, (((rP3 (I 48) n ((0, q.2)) (a000 (I 49))).2)).2)))) 41 (upd (f) k (f k)), J, O) H locs := by rw [show sr (sr (sr I 49 ((rP2 (I 48) n ((0, q.2)) (a000 (I 49))).1)) 40 (uS o 0 ((sk (I 48) n (((rP3 (I 48) n ((0, q.2)) (a000 (I 49))).2)).1, (((rP3 (I 48) n ((0, q.2)) (a000 (I 49))).2)).2)))) 41 (upd (f) k (f k)) = u2 (sr (sr (sr I 49 ((rP2 (I 48) n ((0, q.2)) (a000 (I 49))).1)) 40 (uS o 0 ((sk (I 48) n (((rP3 (I 48) n ((0, q.2)) (a000 (I 49))).2)).1, (((rP3 (I 48) n ((0, q.2)) (a000 (I 49))).2)).2)))) 41 (f)) 41 k (f k) from (u2_sr _ _ _ _ _).symm]; exact hB
              refine lv_iinc (v := nI (k + 1)) (lv' := [(3, .int (nI (k + 1))), (2, .int (nI (rdFt (I 48) n q.2 (I 49)))), (1, .int (b2 ((rP3 (I 48) n ((0, q.2)) (a000 (I 49))).1))), (0, .ref (G.2.2.1 (20, 0, 0)))]) hx hb dX8_read_102 hl (k := 0) rfl (jn_inc _ 1) (by decide) rfl (fun ls hl => ?_)
              refine lv_goto (tgt := 68) hx hb dX8_read_105 (by decide) ?_
              exact ih_68 (upd (f) k (f k)) (k + 1) (by omega) (by omega) (by rw [hf, ← cp67_step]; rw [if_pos (show k = 67 by omega)]) _ _ _ hB (lv_sub hl [0, 1, 2, 3] rfl)
      exact lp_68 _ (I 41) 0 (Nat.lt_succ_self _) (by omega) ((cp67_0 _ _).symm) _ _ _ (jB_cast2 hB (by first | exact (sr_id _ _).symm | (funext a_; simp +decide only [sr]; (repeat' split) <;> first | rfl | (exfalso; omega) | (subst_vars; rfl))) rfl) (lv_sub hl [0, 1, 2, 3] rfl)
    · refine lv_bipush (v := (-20 : Int32)) hx hb dX8_read_61 (by decide) ?_
      refine lv_iload_n hx hb dX8_read_63 rfl (lv_at hl 0 rfl) ?_
      refine lv_isub hx hb dX8_read_64 ?_
      exact j_iret hC hB dX8_read_65 (⟨by rw [rdAn, if_neg (by rw [c_58]; decide)], _, _, by rw [if_neg (by rw [c_58]; decide)]; rw [sr_sw (show (49 : Nat) ≠ 40 by decide)]⟩)
