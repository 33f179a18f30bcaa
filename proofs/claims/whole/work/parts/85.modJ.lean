set_option maxHeartbeats 4000000 in
set_option maxRecDepth 100000 in
theorem c_X8_next (l_ : Launch) (G : jG) (I : Nat → Nat → Int32) (J : Nat → Nat → Int64) (O : Nat → Nat → Nat)  {o : Nat → Int32} {n : Nat} {q : Nat × Int32} (hn : n ≤ 90) (hq : q.1 ≤ n) (hU : I 40 = uS o n q) : jMi l_ G yX8_next wsX8_next ({ frames := 0, cells := 0, slots := 0, locals := 0 }) [.ref (G.2.2.1 (20, 0, 0))] (I, J, O) (fun r u => r = nx (I 48) n q.1 ∧ u = (sr I 40 (uS o n ((sk (I 48) n q.1, q.2))), J, O)) := by
  refine jMi_of (cc := cX8_next) (maxL := 1) (ret := (some .int)) (lv0 := [(0, .ref (G.2.2.1 (20, 0, 0)))]) (by decide) rfl (Nat.le_of_ble_eq_true rfl) rfl ?_
  intro pg_ ev_ s_ mi_ below meth cd_ A ls hC hB hl
  obtain ⟨hx, hb, hr, hml, hown, hts, hlocks, hK, hA⟩ := id hC
  have lk_203 := hts (.fieldLink RX8 203 "RiddlePrisonModel" "place" "I") (by decide +kernel)
  have lk_200 := hts (.fieldLink RX8 200 "RiddlePrisonModel" "tapeLong" "I") (by decide +kernel)
  have lk_38 := hts (.fieldLink RX8 38 "RiddlePrisonModel" "tape" "[I") (by decide +kernel)
  have in_X8 := (fun w h => List.mem_cons_of_mem _ (List.mem_append_right _ h) : ∀ w ∈ wsX80, w ∈ wsX8_next)
  have hU2 : I 40 2 = nI n := by rw [hU]; exact uS_2
  have hU3 : I 40 3 = nI q.1 := by rw [hU]; exact uS_3
  have hU4 : I 40 4 = q.2 := by rw [hU]; exact uS_4
  have lp_0 : ∀ (fu : Nat) (r : Nat → Int32) (p : Nat), n - p < fu → (r = uS o n (p, q.2)) → (p ≤ n) → (sk (I 48) n p = sk (I 48) n q.1) → ∀ H locs ls, jB G A s_.heap (sr I 40 (r), J, O) H locs → lv_has ls 1 [(0, .ref (G.2.2.1 (20, 0, 0)))] → W pg_ l_ ev_ ({ frames := 0, cells := 0, slots := 0, locals := 0 }) s_ mi_ ([.ref (G.2.2.1 (20, 0, 0))]).toArray below meth cd_ H locs 0 0 (jQi G A below [.ref (G.2.2.1 (20, 0, 0))] s_ (fun r u => r = nx (I 48) n q.1 ∧ u = (sr I 40 (uS o n ((sk (I 48) n q.1, q.2))), J, O))) (F0 mi_ 0 ls []) := by
    intro fu
    induction fu with
    | zero => intro r p hf; exact absurd hf (Nat.not_lt_zero _)
    | succ fu ih_0 =>
      intro r p hf_0 hr hp hs H locs ls hB hl
      refine lv_aload_n hx hb dX8_next_0 rfl (lv_at hl 0 rfl) ?_
      refine j_get (20, 0, 0) 13 (v := .int ((sr I 40 (r)) 40 3)) hC hB in_X8 lk_203 dX8_next_1 jk20 rfl rfl (by decide) rfl ?_
      refine j_eqi (x := (sr I 40 (r)) 40 3) (y := nI p) (sr_sj.trans (by rw [hr]; exact uS_3)) ?_
      refine lv_aload_n hx hb dX8_next_4 rfl (lv_at hl 0 rfl) ?_
      refine j_get (20, 0, 0) 12 (v := .int ((sr I 40 (r)) 40 2)) hC hB in_X8 lk_200 dX8_next_5 jk20 rfl rfl (by decide) rfl ?_
      refine j_eqi (x := (sr I 40 (r)) 40 2) (y := nI n) (sr_sj.trans (by rw [hr]; exact uS_2)) ?_
      refine jn_icmp_ge (tgt := 38) hx hb dX8_next_8 (by decide) (by omega) (by omega) (fun c_8 => ?_) (fun c_8 => ?_)
      · refine lv_aload_n hx hb dX8_next_38 rfl (lv_at hl 0 rfl) ?_
        refine j_get (20, 0, 0) 13 (v := .int ((sr I 40 (r)) 40 3)) hC hB in_X8 lk_203 dX8_next_39 jk20 rfl rfl (by decide) rfl ?_
        refine j_eqi (x := (sr I 40 (r)) 40 3) (y := nI p) (sr_sj.trans (by rw [hr]; exact uS_3)) ?_
        refine lv_aload_n hx hb dX8_next_42 rfl (lv_at hl 0 rfl) ?_
        refine j_get (20, 0, 0) 12 (v := .int ((sr I 40 (r)) 40 2)) hC hB in_X8 lk_200 dX8_next_43 jk20 rfl rfl (by decide) rfl ?_
        refine j_eqi (x := (sr I 40 (r)) 40 2) (y := nI n) (sr_sj.trans (by rw [hr]; exact uS_2)) ?_
        refine jn_icmp_ge (tgt := 61) hx hb dX8_next_46 (by decide) (by omega) (by omega) (fun c_46 => ?_) (fun c_46 => ?_)
        · refine lv_bipush (v := (-4 : Int32)) hx hb dX8_next_61 (by decide) ?_
          exact j_iret hC hB dX8_next_63 (⟨by have esk : sk (I 48) n q.1 = p := (by rw [← hs, sk_ge c_8]); rw [nx, if_neg (show ¬ sk (I 48) n q.1 < n by omega)], by rw [hr, show sk (I 48) n q.1 = p from by rw [← hs, sk_ge c_8]]⟩)
        · exfalso; omega
      · refine lv_aload_n hx hb dX8_next_11 rfl (lv_at hl 0 rfl) ?_
        refine j_get (20, 0, 0) 11 (v := .ref (G.2.2.1 (21, 48, 0))) hC hB in_X8 lk_38 dX8_next_12 jk20 rfl rfl (by decide) rfl ?_
        refine lv_aload_n hx hb dX8_next_15 rfl (lv_at hl 0 rfl) ?_
        refine j_get (20, 0, 0) 13 (v := .int ((sr I 40 (r)) 40 3)) hC hB in_X8 lk_203 dX8_next_16 jk20 rfl rfl (by decide) rfl ?_
        refine j_eqi (x := (sr I 40 (r)) 40 3) (y := nI p) (sr_sj.trans (by rw [hr]; exact uS_3)) ?_
        refine j_iLd 48 p hC hB dX8_next_19 (by decide) rfl (by simp only [lenI_48]; omega) ?_
        refine j_eqi (x := (sr I 40 (r)) 48 p) (y := (I 48) p) ((sr_nj (show (48 : Nat) ≠ 40 by omega))) ?_
        refine lv_bipush (v := nI 32) hx hb dX8_next_20 (by decide) ?_
        refine lv_icmp_ne (tgt := 38) hx hb dX8_next_22 (by decide) (fun c_22 => ?_) (fun c_22 => ?_)
        · refine lv_aload_n hx hb dX8_next_38 rfl (lv_at hl 0 rfl) ?_
          refine j_get (20, 0, 0) 13 (v := .int ((sr I 40 (r)) 40 3)) hC hB in_X8 lk_203 dX8_next_39 jk20 rfl rfl (by decide) rfl ?_
          refine j_eqi (x := (sr I 40 (r)) 40 3) (y := nI p) (sr_sj.trans (by rw [hr]; exact uS_3)) ?_
          refine lv_aload_n hx hb dX8_next_42 rfl (lv_at hl 0 rfl) ?_
          refine j_get (20, 0, 0) 12 (v := .int ((sr I 40 (r)) 40 2)) hC hB in_X8 lk_200 dX8_next_43 jk20 rfl rfl (by decide) rfl ?_
          refine j_eqi (x := (sr I 40 (r)) 40 2) (y := nI n) (sr_sj.trans (by rw [hr]; exact uS_2)) ?_
          refine jn_icmp_ge (tgt := 61) hx hb dX8_next_46 (by decide) (by omega) (by omega) (fun c_46 => ?_) (fun c_46 => ?_)
          · exfalso; omega
          · refine lv_aload_n hx hb dX8_next_49 rfl (lv_at hl 0 rfl) ?_
            refine j_get (20, 0, 0) 11 (v := .ref (G.2.2.1 (21, 48, 0))) hC hB in_X8 lk_38 dX8_next_50 jk20 rfl rfl (by decide) rfl ?_
            refine lv_aload_n hx hb dX8_next_53 rfl (lv_at hl 0 rfl) ?_
            refine j_get (20, 0, 0) 13 (v := .int ((sr I 40 (r)) 40 3)) hC hB in_X8 lk_203 dX8_next_54 jk20 rfl rfl (by decide) rfl ?_
            refine j_eqi (x := (sr I 40 (r)) 40 3) (y := nI p) (sr_sj.trans (by rw [hr]; exact uS_3)) ?_
            refine j_iLd 48 p hC hB dX8_next_57 (by decide) rfl (by simp only [lenI_48]; omega) ?_
            refine j_eqi (x := (sr I 40 (r)) 48 p) (y := (I 48) p) ((sr_nj (show (48 : Nat) ≠ 40 by omega))) ?_
            refine lv_goto (tgt := 63) hx hb dX8_next_58 (by decide) ?_
            exact j_iret hC hB dX8_next_63 (⟨by have esk : sk (I 48) n q.1 = p := (by rw [← hs, sk_end c_22]); rw [nx, if_pos (show sk (I 48) n q.1 < n by omega), esk], by rw [hr, show sk (I 48) n q.1 = p from by rw [← hs, sk_end c_22]]⟩)
        · refine lv_aload_n hx hb dX8_next_25 rfl (lv_at hl 0 rfl) ?_
          refine lv_dup hx hb dX8_next_26 rfl ?_
          refine j_get (20, 0, 0) 13 (v := .int ((sr I 40 (r)) 40 3)) hC hB in_X8 lk_203 dX8_next_27 jk20 rfl rfl (by decide) rfl ?_
          refine j_eqi (x := (sr I 40 (r)) 40 3) (y := nI p) (sr_sj.trans (by rw [hr]; exact uS_3)) ?_
          refine lv_iconst (v := nI 1) hx hb dX8_next_30 (by decide) ?_
          refine jn_iadd hx hb dX8_next_31 ?_
          refine j_put (20, 0, 0) 13 (u2 (sr I 40 (r)) 40 3 (nI (p + 1)), J, O) (ty := .int) hC hB in_X8 tyX8_ok nmX8 lk_203 dX8_next_32 jk20 rfl rfl (by decide) rfl (by decide +kernel) rfl rfl (Nat.le_of_ble_eq_true rfl) (fun z hz hne => jw_fr z hz hne) (rfl) (fun H locs hB => ?_)
          have hB : jB G A s_.heap (sr I 40 (upd (r) 3 (nI (p + 1))), J, O) H locs := by rw [show sr I 40 (upd (r) 3 (nI (p + 1))) = u2 (sr I 40 (r)) 40 3 (nI (p + 1)) from (u2_sr _ _ _ _ _).symm]; exact hB
          refine lv_goto (tgt := 0) hx hb dX8_next_35 (by decide) ?_
          exact ih_0 (upd (r) 3 (nI (p + 1))) (p + 1) (by omega) (by rw [hr]; exact uS_p) (by omega) (by rw [← hs]; exact (sk_on c_8 c_22).symm) _ _ _ hB (lv_sub hl [0] rfl)
  exact lp_0 _ (I 40) q.1 (Nat.lt_succ_self _) (hU) (hq) (rfl) _ _ _ (jB_cast2 hB (by first | exact (sr_id _ _).symm | (funext a_; simp +decide only [sr]; (repeat' split) <;> first | rfl | (exfalso; omega) | (subst_vars; rfl))) rfl) (lv_sub hl [0] rfl)

set_option maxHeartbeats 4000000 in
set_option maxRecDepth 100000 in
theorem c_X8_isNext (l_ : Launch) (G : jG) (I : Nat → Nat → Int32) (J : Nat → Nat → Int64) (O : Nat → Nat → Nat) (c : Int32) (hc : ¬ c = -4) {o : Nat → Int32} {n : Nat} {q : Nat × Int32} (hn : n ≤ 90) (hq : q.1 ≤ n) (hU : I 40 = uS o n q) : jMi l_ G yX8_isNext wsX8_isNext ({ frames := 1, cells := 0, slots := 0, locals := 20 }) [.ref (G.2.2.1 (20, 0, 0)), .int c] (I, J, O) (fun r u => r = b2 ((rNx (I 48) n c q).1) ∧ u = (sr I 40 (uS o n ((rNx (I 48) n c q).2)), J, O)) := by
  refine jMi_of (cc := cX8_isNext) (maxL := 2) (ret := (some .boolean)) (lv0 := [(0, .ref (G.2.2.1 (20, 0, 0))), (1, .int c)]) (by decide) rfl (Nat.le_of_ble_eq_true rfl) rfl ?_
  intro pg_ ev_ s_ mi_ below meth cd_ A ls hC hB hl
  obtain ⟨hx, hb, hr, hml, hown, hts, hlocks, hK, hA⟩ := id hC
  have lk_203 := hts (.fieldLink RX8 203 "RiddlePrisonModel" "place" "I") (by decide +kernel)
  have in_X8 := (fun w h => List.mem_cons_of_mem _ (List.mem_append_right _ h) : ∀ w ∈ wsX80, w ∈ wsX8_isNext)
  have hU2 : I 40 2 = nI n := by rw [hU]; exact uS_2
  have hU3 : I 40 3 = nI q.1 := by rw [hU]; exact uS_3
  have hU4 : I 40 4 = q.2 := by rw [hU]; exact uS_4
  refine lv_aload_n hx hb dX8_isNext_0 rfl (lv_at hl 0 rfl) ?_
  refine j_cvi (20, 0, 0) [] hC hB hl.1 (c_X8_next l_ G I J O  (hn) (hq) (hU)) (cwV 0 hts gX8_isNext_X8_next rfl rfl rfl (by decide +kernel) ⟨by decide, by decide⟩) dX8_isNext_1 jk20 rfl rfl rfl rfl (Nat.le_of_ble_eq_true rfl) (fun r_1 u_1 H locs hp_1 hB => ?_)
  obtain ⟨rfl, rfl⟩ := hp_1
  have hl_1 : ((sk (I 48) n q.1, q.2)).1 ≤ n := (sk_le (hq)).2
  have hB : jB G A s_.heap (sr I 40 (uS o n ((sk (I 48) n q.1, q.2))), J, O) H locs := hB
  refine j_eqi (y := nx (I 48) n q.1) (rfl) ?_
  refine lv_iload_n hx hb dX8_isNext_4 rfl (lv_at hl 1 rfl) ?_
  refine lv_icmp_eq (tgt := 10) hx hb dX8_isNext_5 (by decide) (fun c_5 => ?_) (fun c_5 => ?_)
  · refine lv_aload_n hx hb dX8_isNext_10 rfl (lv_at hl 0 rfl) ?_
    refine lv_dup hx hb dX8_isNext_11 rfl ?_
    refine j_get (20, 0, 0) 13 (v := .int ((sr I 40 (uS o n ((sk (I 48) n q.1, q.2)))) 40 3)) hC hB in_X8 lk_203 dX8_isNext_12 jk20 rfl rfl (by decide) rfl ?_
    refine j_eqi (x := (sr I 40 (uS o n ((sk (I 48) n q.1, q.2)))) 40 3) (y := nI (((sk (I 48) n q.1, q.2)).1)) (sr_sj.trans (uS_3)) ?_
    refine lv_iconst (v := nI 1) hx hb dX8_isNext_15 (by decide) ?_
    refine jn_iadd hx hb dX8_isNext_16 ?_
    refine j_put (20, 0, 0) 13 (u2 (sr I 40 (uS o n ((sk (I 48) n q.1, q.2)))) 40 3 (nI (((sk (I 48) n q.1, q.2)).1 + 1)), J, O) (ty := .int) hC hB in_X8 tyX8_ok nmX8 lk_203 dX8_isNext_17 jk20 rfl rfl (by decide) rfl (by decide +kernel) rfl rfl (Nat.le_of_ble_eq_true rfl) (fun z hz hne => jw_fr z hz hne) (rfl) (fun H locs hB => ?_)
    have hB : jB G A s_.heap (sr I 40 (upd (uS o n ((sk (I 48) n q.1, q.2))) 3 (nI (((sk (I 48) n q.1, q.2)).1 + 1))), J, O) H locs := by rw [show sr I 40 (upd (uS o n ((sk (I 48) n q.1, q.2))) 3 (nI (((sk (I 48) n q.1, q.2)).1 + 1))) = u2 (sr I 40 (uS o n ((sk (I 48) n q.1, q.2)))) 40 3 (nI (((sk (I 48) n q.1, q.2)).1 + 1)) from (u2_sr _ _ _ _ _).symm]; exact hB
    have hB : jB G A s_.heap (sr I 40 (uS o n (sk (I 48) n q.1 + 1, q.2)), J, O) H locs := by rw [← show upd (uS o n ((sk (I 48) n q.1, q.2))) 3 (nI (((sk (I 48) n q.1, q.2)).1 + 1)) = uS o n (sk (I 48) n q.1 + 1, q.2) from uS_p]; exact hB
    refine lv_iconst (v := nI 1) hx hb dX8_isNext_20 (by decide) ?_
    exact j_zret hC hB dX8_isNext_21 (by decide) (⟨by rw [rNx, if_pos c_5]; rfl, by rw [rNx, if_pos c_5]⟩)
  · refine lv_iconst (v := nI 0) hx hb dX8_isNext_8 (by decide) ?_
    exact j_zret hC hB dX8_isNext_9 (by decide) (⟨by rw [rNx, if_neg c_5]; rfl, by rw [rNx, if_neg c_5]⟩)

set_option maxHeartbeats 4000000 in
set_option maxRecDepth 100000 in
theorem c_X8_takesDigit (l_ : Launch) (G : jG) (I : Nat → Nat → Int32) (J : Nat → Nat → Int64) (O : Nat → Nat → Nat) (h : Nat) (hh : h ≤ 9) {o : Nat → Int32} {n : Nat} {q : Nat × Int32} (hn : n ≤ 90) (hq : q.1 ≤ n) (hU : I 40 = uS o n q) : jMi l_ G yX8_takesDigit wsX8_takesDigit ({ frames := 1, cells := 0, slots := 0, locals := 25 }) [.ref (G.2.2.1 (20, 0, 0)), .int (nI h)] (I, J, O) (fun r u => r = b2 ((rDg (I 48) n h q).1) ∧ u = (sr I 40 (uS o n ((rDg (I 48) n h q).2)), J, O)) := by
  refine jMi_of (cc := cX8_takesDigit) (maxL := 3) (ret := (some .boolean)) (lv0 := [(0, .ref (G.2.2.1 (20, 0, 0))), (1, .int (nI h))]) (by decide) rfl (Nat.le_of_ble_eq_true rfl) rfl ?_
  intro pg_ ev_ s_ mi_ below meth cd_ A ls hC hB hl
  obtain ⟨hx, hb, hr, hml, hown, hts, hlocks, hK, hA⟩ := id hC
  have lk_211 := hts (.fieldLink RX8 211 "RiddlePrisonModel" "value" "I") (by decide +kernel)
  have lk_203 := hts (.fieldLink RX8 203 "RiddlePrisonModel" "place" "I") (by decide +kernel)
  have in_X8 := (fun w h => List.mem_cons_of_mem _ (List.mem_append_right _ h) : ∀ w ∈ wsX80, w ∈ wsX8_takesDigit)
  have hU2 : I 40 2 = nI n := by rw [hU]; exact uS_2
  have hU3 : I 40 3 = nI q.1 := by rw [hU]; exact uS_3
  have hU4 : I 40 4 = q.2 := by rw [hU]; exact uS_4
  refine lv_aload_n hx hb dX8_takesDigit_0 rfl (lv_at hl 0 rfl) ?_
  refine j_cvi (20, 0, 0) [] hC hB hl.1 (c_X8_next l_ G I J O  (hn) (hq) (hU)) (cwV 0 hts gX8_takesDigit_X8_next rfl rfl rfl (by decide +kernel) ⟨by decide, by decide⟩) dX8_takesDigit_1 jk20 rfl rfl rfl rfl (Nat.le_of_ble_eq_true rfl) (fun r_1 u_1 H locs hp_1 hB => ?_)
  obtain ⟨rfl, rfl⟩ := hp_1
  have hl_1 : ((sk (I 48) n q.1, q.2)).1 ≤ n := (sk_le (hq)).2
  have hB : jB G A s_.heap (sr I 40 (uS o n ((sk (I 48) n q.1, q.2))), J, O) H locs := hB
  refine j_eqi (y := nx (I 48) n q.1) (rfl) ?_
  refine lv_istore_n (lv' := [(2, .int (nx (I 48) n q.1)), (0, .ref (G.2.2.1 (20, 0, 0))), (1, .int (nI h))]) hx hb dX8_takesDigit_4 rfl hl (by decide) rfl (fun ls hl => ?_)
  refine lv_iload_n hx hb dX8_takesDigit_5 rfl (lv_at hl 0 rfl) ?_
  refine lv_i2l (v := (nx (I 48) n q.1).toInt64) hx hb dX8_takesDigit_6 rfl ?_
  refine lv_ldc2 (v := 48) hx hb hown (hts (.constantLong RX8 209 (48)) (by decide +kernel)) dX8_takesDigit_7 ?_
  refine lv_bipush (v := nI 48) hx hb dX8_takesDigit_10 (by decide) ?_
  refine lv_iload_n hx hb dX8_takesDigit_12 rfl (lv_at hl 2 rfl) ?_
  refine jn_iadd hx hb dX8_takesDigit_13 ?_
  refine lv_i2l (v := (nI (48 + h)).toInt64) hx hb dX8_takesDigit_14 rfl ?_
  refine j_csi [.long ((nx (I 48) n q.1).toInt64), .long ((48 : Int64)), .long ((nI (48 + h)).toInt64)] hC hB hl.1 (c_X8_in l_ G (sr I 40 (uS o n ((sk (I 48) n q.1, q.2)))) J O ((nx (I 48) n q.1).toInt64) ((48 : Int64)) ((nI (48 + h)).toInt64)) (va_cwS 3 hts gX8_takesDigit_X8_in rfl rfl rfl (by decide +kernel) ⟨by decide, by decide⟩) dX8_takesDigit_15 rfl rfl (Nat.le_of_ble_eq_true rfl) (fun r_15 u_15 H locs hp_15 hB => ?_)
  obtain ⟨rfl, rfl⟩ := hp_15
  refine j_eqi (y := b2 (inR ((nx (I 48) n q.1).toInt64) ((48 : Int64)) ((nI (48 + h)).toInt64))) (rfl) ?_
  refine jb_if_ne (tgt := 23) hx hb dX8_takesDigit_18 (by decide) (fun c_18 => ?_) (fun c_18 => ?_)
  · have hk := nx_lt (inR_n4 c_18)
    refine lv_aload_n hx hb dX8_takesDigit_23 rfl (lv_at hl 1 rfl) ?_
    refine lv_iload_n hx hb dX8_takesDigit_24 rfl (lv_at hl 0 rfl) ?_
    refine lv_bipush (v := nI 48) hx hb dX8_takesDigit_25 (by decide) ?_
    refine lv_isub hx hb dX8_takesDigit_27 ?_
    refine j_put (20, 0, 0) 15 (u2 (sr I 40 (uS o n ((sk (I 48) n q.1, q.2)))) 40 4 ((nx (I 48) n q.1) - (nI 48)), J, O) (ty := .int) hC hB in_X8 tyX8_ok nmX8 lk_211 dX8_takesDigit_28 jk20 rfl rfl (by decide) rfl (by decide +kernel) rfl rfl (Nat.le_of_ble_eq_true rfl) (fun z hz hne => jw_fr z hz hne) (rfl) (fun H locs hB => ?_)
    have hB : jB G A s_.heap (sr I 40 (upd (uS o n ((sk (I 48) n q.1, q.2))) 4 ((nx (I 48) n q.1) - (nI 48))), J, O) H locs := by rw [show sr I 40 (upd (uS o n ((sk (I 48) n q.1, q.2))) 4 ((nx (I 48) n q.1) - (nI 48))) = u2 (sr I 40 (uS o n ((sk (I 48) n q.1, q.2)))) 40 4 ((nx (I 48) n q.1) - (nI 48)) from (u2_sr _ _ _ _ _).symm]; exact hB
    have hB : jB G A s_.heap (sr I 40 (uS o n (sk (I 48) n q.1, nx (I 48) n q.1 - nI 48)), J, O) H locs := by rw [← show upd (uS o n ((sk (I 48) n q.1, q.2))) 4 ((nx (I 48) n q.1) - (nI 48)) = uS o n (sk (I 48) n q.1, nx (I 48) n q.1 - nI 48) from uS_v]; exact hB
    refine lv_aload_n hx hb dX8_takesDigit_31 rfl (lv_at hl 1 rfl) ?_
    refine lv_dup hx hb dX8_takesDigit_32 rfl ?_
    refine j_get (20, 0, 0) 13 (v := .int ((sr I 40 (uS o n (sk (I 48) n q.1, nx (I 48) n q.1 - nI 48))) 40 3)) hC hB in_X8 lk_203 dX8_takesDigit_33 jk20 rfl rfl (by decide) rfl ?_
    refine j_eqi (x := (sr I 40 (uS o n (sk (I 48) n q.1, nx (I 48) n q.1 - nI 48))) 40 3) (y := nI ((sk (I 48) n q.1, nx (I 48) n q.1 - nI 48).1)) (sr_sj.trans (uS_3)) ?_
    refine lv_iconst (v := nI 1) hx hb dX8_takesDigit_36 (by decide) ?_
    refine jn_iadd hx hb dX8_takesDigit_37 ?_
    refine j_put (20, 0, 0) 13 (u2 (sr I 40 (uS o n (sk (I 48) n q.1, nx (I 48) n q.1 - nI 48))) 40 3 (nI ((sk (I 48) n q.1, nx (I 48) n q.1 - nI 48).1 + 1)), J, O) (ty := .int) hC hB in_X8 tyX8_ok nmX8 lk_203 dX8_takesDigit_38 jk20 rfl rfl (by decide) rfl (by decide +kernel) rfl rfl (Nat.le_of_ble_eq_true rfl) (fun z hz hne => jw_fr z hz hne) (rfl) (fun H locs hB => ?_)
    have hB : jB G A s_.heap (sr I 40 (upd (uS o n (sk (I 48) n q.1, nx (I 48) n q.1 - nI 48)) 3 (nI ((sk (I 48) n q.1, nx (I 48) n q.1 - nI 48).1 + 1))), J, O) H locs := by rw [show sr I 40 (upd (uS o n (sk (I 48) n q.1, nx (I 48) n q.1 - nI 48)) 3 (nI ((sk (I 48) n q.1, nx (I 48) n q.1 - nI 48).1 + 1))) = u2 (sr I 40 (uS o n (sk (I 48) n q.1, nx (I 48) n q.1 - nI 48))) 40 3 (nI ((sk (I 48) n q.1, nx (I 48) n q.1 - nI 48).1 + 1)) from (u2_sr _ _ _ _ _).symm]; exact hB
    have hB : jB G A s_.heap (sr I 40 (uS o n (sk (I 48) n q.1 + 1, nx (I 48) n q.1 - nI 48)), J, O) H locs := by rw [← show upd (uS o n (sk (I 48) n q.1, nx (I 48) n q.1 - nI 48)) 3 (nI ((sk (I 48) n q.1, nx (I 48) n q.1 - nI 48).1 + 1)) = uS o n (sk (I 48) n q.1 + 1, nx (I 48) n q.1 - nI 48) from uS_p]; exact hB
    refine lv_iconst (v := nI 1) hx hb dX8_takesDigit_41 (by decide) ?_
    exact j_zret hC hB dX8_takesDigit_42 (by decide) (⟨by rw [rDg, if_pos c_18]; rfl, by rw [rDg, if_pos c_18]⟩)
  · refine lv_iconst (v := nI 0) hx hb dX8_takesDigit_21 (by decide) ?_
    exact j_zret hC hB dX8_takesDigit_22 (by decide) (⟨by rw [rDg, if_neg (by rw [c_18]; decide)]; rfl, by rw [rDg, if_neg (by rw [c_18]; decide)]⟩)

set_option maxHeartbeats 4000000 in
set_option maxRecDepth 100000 in
theorem c_X8_takesSort (l_ : Launch) (G : jG) (I : Nat → Nat → Int32) (J : Nat → Nat → Int64) (O : Nat → Nat → Nat)  {o : Nat → Int32} {n : Nat} {q : Nat × Int32} (hn : n ≤ 90) (hq : q.1 ≤ n) (hU : I 40 = uS o n q) : jMi l_ G yX8_takesSort wsX8_takesSort ({ frames := 1, cells := 0, slots := 0, locals := 20 }) [.ref (G.2.2.1 (20, 0, 0))] (I, J, O) (fun r u => r = b2 ((rSo (I 48) n q).1) ∧ u = (sr I 40 (uS o n ((rSo (I 48) n q).2)), J, O)) := by
  refine jMi_of (cc := cX8_takesSort) (maxL := 2) (ret := (some .boolean)) (lv0 := [(0, .ref (G.2.2.1 (20, 0, 0)))]) (by decide) rfl (Nat.le_of_ble_eq_true rfl) rfl ?_
  intro pg_ ev_ s_ mi_ below meth cd_ A ls hC hB hl
  obtain ⟨hx, hb, hr, hml, hown, hts, hlocks, hK, hA⟩ := id hC
  have lk_211 := hts (.fieldLink RX8 211 "RiddlePrisonModel" "value" "I") (by decide +kernel)
  have lk_203 := hts (.fieldLink RX8 203 "RiddlePrisonModel" "place" "I") (by decide +kernel)
  have in_X8 := (fun w h => List.mem_cons_of_mem _ (List.mem_append_right _ h) : ∀ w ∈ wsX80, w ∈ wsX8_takesSort)
  have hU2 : I 40 2 = nI n := by rw [hU]; exact uS_2
  have hU3 : I 40 3 = nI q.1 := by rw [hU]; exact uS_3
  have hU4 : I 40 4 = q.2 := by rw [hU]; exact uS_4
  refine lv_aload_n hx hb dX8_takesSort_0 rfl (lv_at hl 0 rfl) ?_
  refine j_cvi (20, 0, 0) [] hC hB hl.1 (c_X8_next l_ G I J O  (hn) (hq) (hU)) (cwV 0 hts gX8_takesSort_X8_next rfl rfl rfl (by decide +kernel) ⟨by decide, by decide⟩) dX8_takesSort_1 jk20 rfl rfl rfl rfl (Nat.le_of_ble_eq_true rfl) (fun r_1 u_1 H locs hp_1 hB => ?_)
  obtain ⟨rfl, rfl⟩ := hp_1
  have hl_1 : ((sk (I 48) n q.1, q.2)).1 ≤ n := (sk_le (hq)).2
  have hB : jB G A s_.heap (sr I 40 (uS o n ((sk (I 48) n q.1, q.2))), J, O) H locs := hB
  refine j_eqi (y := nx (I 48) n q.1) (rfl) ?_
  refine lv_istore_n (lv' := [(1, .int (nx (I 48) n q.1)), (0, .ref (G.2.2.1 (20, 0, 0)))]) hx hb dX8_takesSort_4 rfl hl (by decide) rfl (fun ls hl => ?_)
  refine lv_aload_n hx hb dX8_takesSort_5 rfl (lv_at hl 1 rfl) ?_
  refine lv_iload_n hx hb dX8_takesSort_6 rfl (lv_at hl 0 rfl) ?_
  refine lv_bipush (v := nI 43) hx hb dX8_takesSort_7 (by decide) ?_
  refine lv_icmp_ne (tgt := 16) hx hb dX8_takesSort_9 (by decide) (fun c_9 => ?_) (fun c_9 => ?_)
  · refine lv_iload_n hx hb dX8_takesSort_16 rfl (lv_at hl 0 rfl) ?_
    refine lv_bipush (v := nI 63) hx hb dX8_takesSort_17 (by decide) ?_
    refine lv_icmp_ne (tgt := 26) hx hb dX8_takesSort_19 (by decide) (fun c_19 => ?_) (fun c_19 => ?_)
    · refine lv_iload_n hx hb dX8_takesSort_26 rfl (lv_at hl 0 rfl) ?_
      refine lv_bipush (v := nI 61) hx hb dX8_takesSort_27 (by decide) ?_
      refine lv_icmp_ne (tgt := 36) hx hb dX8_takesSort_29 (by decide) (fun c_29 => ?_) (fun c_29 => ?_)
      · refine lv_iload_n hx hb dX8_takesSort_36 rfl (lv_at hl 0 rfl) ?_
        refine lv_bipush (v := nI 38) hx hb dX8_takesSort_37 (by decide) ?_
        refine lv_icmp_ne (tgt := 46) hx hb dX8_takesSort_39 (by decide) (fun c_39 => ?_) (fun c_39 => ?_)
        · refine lv_bipush (v := (-4 : Int32)) hx hb dX8_takesSort_46 (by decide) ?_
          have hso : soV (nx (I 48) n q.1) = -4 := by rw [soV, if_neg c_9, if_neg c_19, if_neg c_29, if_neg c_39]
          refine j_put (20, 0, 0) 15 (u2 (sr I 40 (uS o n ((sk (I 48) n q.1, q.2)))) 40 4 ((-4 : Int32)), J, O) (ty := .int) hC hB in_X8 tyX8_ok nmX8 lk_211 dX8_takesSort_48 jk20 rfl rfl (by decide) rfl (by decide +kernel) rfl rfl (Nat.le_of_ble_eq_true rfl) (fun z hz hne => jw_fr z hz hne) (rfl) (fun H locs hB => ?_)
          have hB : jB G A s_.heap (sr I 40 (upd (uS o n ((sk (I 48) n q.1, q.2))) 4 ((-4 : Int32))), J, O) H locs := by rw [show sr I 40 (upd (uS o n ((sk (I 48) n q.1, q.2))) 4 ((-4 : Int32))) = u2 (sr I 40 (uS o n ((sk (I 48) n q.1, q.2)))) 40 4 ((-4 : Int32)) from (u2_sr _ _ _ _ _).symm]; exact hB
          have hB : jB G A s_.heap (sr I 40 (uS o n (sk (I 48) n q.1, (-4 : Int32))), J, O) H locs := by rw [← show upd (uS o n ((sk (I 48) n q.1, q.2))) 4 ((-4 : Int32)) = uS o n (sk (I 48) n q.1, (-4 : Int32)) from uS_v]; exact hB
          refine lv_aload_n hx hb dX8_takesSort_51 rfl (lv_at hl 1 rfl) ?_
          refine lv_dup hx hb dX8_takesSort_52 rfl ?_
          refine j_get (20, 0, 0) 13 (v := .int ((sr I 40 (uS o n (sk (I 48) n q.1, (-4 : Int32)))) 40 3)) hC hB in_X8 lk_203 dX8_takesSort_53 jk20 rfl rfl (by decide) rfl ?_
          refine j_eqi (x := (sr I 40 (uS o n (sk (I 48) n q.1, (-4 : Int32)))) 40 3) (y := nI (sk (I 48) n q.1)) (sr_sj.trans (uS_3)) ?_
          refine lv_aload_n hx hb dX8_takesSort_56 rfl (lv_at hl 1 rfl) ?_
          refine j_get (20, 0, 0) 15 (v := .int ((sr I 40 (uS o n (sk (I 48) n q.1, (-4 : Int32)))) 40 4)) hC hB in_X8 lk_211 dX8_takesSort_57 jk20 rfl rfl (by decide) rfl ?_
          refine j_eqi (x := (sr I 40 (uS o n (sk (I 48) n q.1, (-4 : Int32)))) 40 4) (y := (-4 : Int32)) (sr_sj.trans (uS_4)) ?_
          refine lv_bipush (v := (-4 : Int32)) hx hb dX8_takesSort_60 (by decide) ?_
          refine lv_icmp_ne (tgt := 69) hx hb dX8_takesSort_62 (by decide) (fun c_62 => ?_) (fun c_62 => ?_)
          · exact absurd rfl c_62
          · refine lv_iconst (v := nI 0) hx hb dX8_takesSort_65 (by decide) ?_
            refine lv_goto (tgt := 70) hx hb dX8_takesSort_66 (by decide) ?_
            refine jn_iadd hx hb dX8_takesSort_70 ?_
            refine j_put (20, 0, 0) 13 (u2 (sr I 40 (uS o n (sk (I 48) n q.1, (-4 : Int32)))) 40 3 (nI (sk (I 48) n q.1 + 0)), J, O) (ty := .int) hC hB in_X8 tyX8_ok nmX8 lk_203 dX8_takesSort_71 jk20 rfl rfl (by decide) rfl (by decide +kernel) rfl rfl (Nat.le_of_ble_eq_true rfl) (fun z hz hne => jw_fr z hz hne) (rfl) (fun H locs hB => ?_)
            have hB : jB G A s_.heap (sr I 40 (upd (uS o n (sk (I 48) n q.1, (-4 : Int32))) 3 (nI (sk (I 48) n q.1 + 0))), J, O) H locs := by rw [show sr I 40 (upd (uS o n (sk (I 48) n q.1, (-4 : Int32))) 3 (nI (sk (I 48) n q.1 + 0))) = u2 (sr I 40 (uS o n (sk (I 48) n q.1, (-4 : Int32)))) 40 3 (nI (sk (I 48) n q.1 + 0)) from (u2_sr _ _ _ _ _).symm]; exact hB
            have hB : jB G A s_.heap (sr I 40 (uS o n (sk (I 48) n q.1, (-4 : Int32))), J, O) H locs := by rw [← show upd (uS o n (sk (I 48) n q.1, (-4 : Int32))) 3 (nI (sk (I 48) n q.1 + 0)) = uS o n (sk (I 48) n q.1, (-4 : Int32)) from uS_p]; exact hB
            refine lv_aload_n hx hb dX8_takesSort_74 rfl (lv_at hl 1 rfl) ?_
            refine j_get (20, 0, 0) 15 (v := .int ((sr I 40 (uS o n (sk (I 48) n q.1, (-4 : Int32)))) 40 4)) hC hB in_X8 lk_211 dX8_takesSort_75 jk20 rfl rfl (by decide) rfl ?_
            refine j_eqi (x := (sr I 40 (uS o n (sk (I 48) n q.1, (-4 : Int32)))) 40 4) (y := (-4 : Int32)) (sr_sj.trans (uS_4)) ?_
            refine lv_bipush (v := (-4 : Int32)) hx hb dX8_takesSort_78 (by decide) ?_
            refine lv_icmp_eq (tgt := 87) hx hb dX8_takesSort_80 (by decide) (fun c_80 => ?_) (fun c_80 => ?_)
            · refine lv_iconst (v := nI 0) hx hb dX8_takesSort_87 (by decide) ?_
              exact j_zret hC hB dX8_takesSort_88 (by decide) (⟨by rw [rSo, if_pos hso]; rfl, by rw [rSo, if_pos hso]⟩)
            · exact absurd rfl c_80
        · refine lv_iconst (v := nI 3) hx hb dX8_takesSort_42 (by decide) ?_
          refine lv_goto (tgt := 48) hx hb dX8_takesSort_43 (by decide) ?_
          have hso : soV (nx (I 48) n q.1) = nI 3 := by rw [soV, if_neg c_9, if_neg c_19, if_neg c_29, if_pos c_39]
          refine j_put (20, 0, 0) 15 (u2 (sr I 40 (uS o n ((sk (I 48) n q.1, q.2)))) 40 4 (nI 3), J, O) (ty := .int) hC hB in_X8 tyX8_ok nmX8 lk_211 dX8_takesSort_48 jk20 rfl rfl (by decide) rfl (by decide +kernel) rfl rfl (Nat.le_of_ble_eq_true rfl) (fun z hz hne => jw_fr z hz hne) (rfl) (fun H locs hB => ?_)
          have hB : jB G A s_.heap (sr I 40 (upd (uS o n ((sk (I 48) n q.1, q.2))) 4 (nI 3)), J, O) H locs := by rw [show sr I 40 (upd (uS o n ((sk (I 48) n q.1, q.2))) 4 (nI 3)) = u2 (sr I 40 (uS o n ((sk (I 48) n q.1, q.2)))) 40 4 (nI 3) from (u2_sr _ _ _ _ _).symm]; exact hB
          have hB : jB G A s_.heap (sr I 40 (uS o n (sk (I 48) n q.1, nI 3)), J, O) H locs := by rw [← show upd (uS o n ((sk (I 48) n q.1, q.2))) 4 (nI 3) = uS o n (sk (I 48) n q.1, nI 3) from uS_v]; exact hB
          refine lv_aload_n hx hb dX8_takesSort_51 rfl (lv_at hl 1 rfl) ?_
          refine lv_dup hx hb dX8_takesSort_52 rfl ?_
          refine j_get (20, 0, 0) 13 (v := .int ((sr I 40 (uS o n (sk (I 48) n q.1, nI 3))) 40 3)) hC hB in_X8 lk_203 dX8_takesSort_53 jk20 rfl rfl (by decide) rfl ?_
          refine j_eqi (x := (sr I 40 (uS o n (sk (I 48) n q.1, nI 3))) 40 3) (y := nI (sk (I 48) n q.1)) (sr_sj.trans (uS_3)) ?_
          refine lv_aload_n hx hb dX8_takesSort_56 rfl (lv_at hl 1 rfl) ?_
          refine j_get (20, 0, 0) 15 (v := .int ((sr I 40 (uS o n (sk (I 48) n q.1, nI 3))) 40 4)) hC hB in_X8 lk_211 dX8_takesSort_57 jk20 rfl rfl (by decide) rfl ?_
          refine j_eqi (x := (sr I 40 (uS o n (sk (I 48) n q.1, nI 3))) 40 4) (y := nI 3) (sr_sj.trans (uS_4)) ?_
          refine lv_bipush (v := (-4 : Int32)) hx hb dX8_takesSort_60 (by decide) ?_
          refine lv_icmp_ne (tgt := 69) hx hb dX8_takesSort_62 (by decide) (fun c_62 => ?_) (fun c_62 => ?_)
          · have hk := nx_lt (soV_n4 (by rw [hso]; decide))
            refine lv_iconst (v := nI 1) hx hb dX8_takesSort_69 (by decide) ?_
            refine jn_iadd hx hb dX8_takesSort_70 ?_
            refine j_put (20, 0, 0) 13 (u2 (sr I 40 (uS o n (sk (I 48) n q.1, nI 3))) 40 3 (nI (sk (I 48) n q.1 + 1)), J, O) (ty := .int) hC hB in_X8 tyX8_ok nmX8 lk_203 dX8_takesSort_71 jk20 rfl rfl (by decide) rfl (by decide +kernel) rfl rfl (Nat.le_of_ble_eq_true rfl) (fun z hz hne => jw_fr z hz hne) (rfl) (fun H locs hB => ?_)
            have hB : jB G A s_.heap (sr I 40 (upd (uS o n (sk (I 48) n q.1, nI 3)) 3 (nI (sk (I 48) n q.1 + 1))), J, O) H locs := by rw [show sr I 40 (upd (uS o n (sk (I 48) n q.1, nI 3)) 3 (nI (sk (I 48) n q.1 + 1))) = u2 (sr I 40 (uS o n (sk (I 48) n q.1, nI 3))) 40 3 (nI (sk (I 48) n q.1 + 1)) from (u2_sr _ _ _ _ _).symm]; exact hB
            have hB : jB G A s_.heap (sr I 40 (uS o n (sk (I 48) n q.1 + 1, nI 3)), J, O) H locs := by rw [← show upd (uS o n (sk (I 48) n q.1, nI 3)) 3 (nI (sk (I 48) n q.1 + 1)) = uS o n (sk (I 48) n q.1 + 1, nI 3) from uS_p]; exact hB
            refine lv_aload_n hx hb dX8_takesSort_74 rfl (lv_at hl 1 rfl) ?_
            refine j_get (20, 0, 0) 15 (v := .int ((sr I 40 (uS o n (sk (I 48) n q.1 + 1, nI 3))) 40 4)) hC hB in_X8 lk_211 dX8_takesSort_75 jk20 rfl rfl (by decide) rfl ?_
            refine j_eqi (x := (sr I 40 (uS o n (sk (I 48) n q.1 + 1, nI 3))) 40 4) (y := nI 3) (sr_sj.trans (uS_4)) ?_
            refine lv_bipush (v := (-4 : Int32)) hx hb dX8_takesSort_78 (by decide) ?_
            refine lv_icmp_eq (tgt := 87) hx hb dX8_takesSort_80 (by decide) (fun c_80 => ?_) (fun c_80 => ?_)
            · exact absurd c_80 (by decide)
            · refine lv_iconst (v := nI 1) hx hb dX8_takesSort_83 (by decide) ?_
              refine lv_goto (tgt := 88) hx hb dX8_takesSort_84 (by decide) ?_
              exact j_zret hC hB dX8_takesSort_88 (by decide) (⟨by rw [rSo, if_neg (by rw [hso]; decide)]; rfl, by rw [rSo, if_neg (by rw [hso]; decide), hso]⟩)
          · exact absurd c_62 (by decide)
      · refine lv_iconst (v := nI 2) hx hb dX8_takesSort_32 (by decide) ?_
        refine lv_goto (tgt := 48) hx hb dX8_takesSort_33 (by decide) ?_
        have hso : soV (nx (I 48) n q.1) = nI 2 := by rw [soV, if_neg c_9, if_neg c_19, if_pos c_29]
        refine j_put (20, 0, 0) 15 (u2 (sr I 40 (uS o n ((sk (I 48) n q.1, q.2)))) 40 4 (nI 2), J, O) (ty := .int) hC hB in_X8 tyX8_ok nmX8 lk_211 dX8_takesSort_48 jk20 rfl rfl (by decide) rfl (by decide +kernel) rfl rfl (Nat.le_of_ble_eq_true rfl) (fun z hz hne => jw_fr z hz hne) (rfl) (fun H locs hB => ?_)
        have hB : jB G A s_.heap (sr I 40 (upd (uS o n ((sk (I 48) n q.1, q.2))) 4 (nI 2)), J, O) H locs := by rw [show sr I 40 (upd (uS o n ((sk (I 48) n q.1, q.2))) 4 (nI 2)) = u2 (sr I 40 (uS o n ((sk (I 48) n q.1, q.2)))) 40 4 (nI 2) from (u2_sr _ _ _ _ _).symm]; exact hB
        have hB : jB G A s_.heap (sr I 40 (uS o n (sk (I 48) n q.1, nI 2)), J, O) H locs := by rw [← show upd (uS o n ((sk (I 48) n q.1, q.2))) 4 (nI 2) = uS o n (sk (I 48) n q.1, nI 2) from uS_v]; exact hB
        refine lv_aload_n hx hb dX8_takesSort_51 rfl (lv_at hl 1 rfl) ?_
        refine lv_dup hx hb dX8_takesSort_52 rfl ?_
        refine j_get (20, 0, 0) 13 (v := .int ((sr I 40 (uS o n (sk (I 48) n q.1, nI 2))) 40 3)) hC hB in_X8 lk_203 dX8_takesSort_53 jk20 rfl rfl (by decide) rfl ?_
        refine j_eqi (x := (sr I 40 (uS o n (sk (I 48) n q.1, nI 2))) 40 3) (y := nI (sk (I 48) n q.1)) (sr_sj.trans (uS_3)) ?_
        refine lv_aload_n hx hb dX8_takesSort_56 rfl (lv_at hl 1 rfl) ?_
        refine j_get (20, 0, 0) 15 (v := .int ((sr I 40 (uS o n (sk (I 48) n q.1, nI 2))) 40 4)) hC hB in_X8 lk_211 dX8_takesSort_57 jk20 rfl rfl (by decide) rfl ?_
        refine j_eqi (x := (sr I 40 (uS o n (sk (I 48) n q.1, nI 2))) 40 4) (y := nI 2) (sr_sj.trans (uS_4)) ?_
        refine lv_bipush (v := (-4 : Int32)) hx hb dX8_takesSort_60 (by decide) ?_
        refine lv_icmp_ne (tgt := 69) hx hb dX8_takesSort_62 (by decide) (fun c_62 => ?_) (fun c_62 => ?_)
        · have hk := nx_lt (soV_n4 (by rw [hso]; decide))
          refine lv_iconst (v := nI 1) hx hb dX8_takesSort_69 (by decide) ?_
          refine jn_iadd hx hb dX8_takesSort_70 ?_
          refine j_put (20, 0, 0) 13 (u2 (sr I 40 (uS o n (sk (I 48) n q.1, nI 2))) 40 3 (nI (sk (I 48) n q.1 + 1)), J, O) (ty := .int) hC hB in_X8 tyX8_ok nmX8 lk_203 dX8_takesSort_71 jk20 rfl rfl (by decide) rfl (by decide +kernel) rfl rfl (Nat.le_of_ble_eq_true rfl) (fun z hz hne => jw_fr z hz hne) (rfl) (fun H locs hB => ?_)
          have hB : jB G A s_.heap (sr I 40 (upd (uS o n (sk (I 48) n q.1, nI 2)) 3 (nI (sk (I 48) n q.1 + 1))), J, O) H locs := by rw [show sr I 40 (upd (uS o n (sk (I 48) n q.1, nI 2)) 3 (nI (sk (I 48) n q.1 + 1))) = u2 (sr I 40 (uS o n (sk (I 48) n q.1, nI 2))) 40 3 (nI (sk (I 48) n q.1 + 1)) from (u2_sr _ _ _ _ _).symm]; exact hB
          have hB : jB G A s_.heap (sr I 40 (uS o n (sk (I 48) n q.1 + 1, nI 2)), J, O) H locs := by rw [← show upd (uS o n (sk (I 48) n q.1, nI 2)) 3 (nI (sk (I 48) n q.1 + 1)) = uS o n (sk (I 48) n q.1 + 1, nI 2) from uS_p]; exact hB
          refine lv_aload_n hx hb dX8_takesSort_74 rfl (lv_at hl 1 rfl) ?_
          refine j_get (20, 0, 0) 15 (v := .int ((sr I 40 (uS o n (sk (I 48) n q.1 + 1, nI 2))) 40 4)) hC hB in_X8 lk_211 dX8_takesSort_75 jk20 rfl rfl (by decide) rfl ?_
          refine j_eqi (x := (sr I 40 (uS o n (sk (I 48) n q.1 + 1, nI 2))) 40 4) (y := nI 2) (sr_sj.trans (uS_4)) ?_
          refine lv_bipush (v := (-4 : Int32)) hx hb dX8_takesSort_78 (by decide) ?_
          refine lv_icmp_eq (tgt := 87) hx hb dX8_takesSort_80 (by decide) (fun c_80 => ?_) (fun c_80 => ?_)
          · exact absurd c_80 (by decide)
          · refine lv_iconst (v := nI 1) hx hb dX8_takesSort_83 (by decide) ?_
            refine lv_goto (tgt := 88) hx hb dX8_takesSort_84 (by decide) ?_
            exact j_zret hC hB dX8_takesSort_88 (by decide) (⟨by rw [rSo, if_neg (by rw [hso]; decide)]; rfl, by rw [rSo, if_neg (by rw [hso]; decide), hso]⟩)
        · exact absurd c_62 (by decide)
    · refine lv_iconst (v := nI 1) hx hb dX8_takesSort_22 (by decide) ?_
      refine lv_goto (tgt := 48) hx hb dX8_takesSort_23 (by decide) ?_
      have hso : soV (nx (I 48) n q.1) = nI 1 := by rw [soV, if_neg c_9, if_pos c_19]
      refine j_put (20, 0, 0) 15 (u2 (sr I 40 (uS o n ((sk (I 48) n q.1, q.2)))) 40 4 (nI 1), J, O) (ty := .int) hC hB in_X8 tyX8_ok nmX8 lk_211 dX8_takesSort_48 jk20 rfl rfl (by decide) rfl (by decide +kernel) rfl rfl (Nat.le_of_ble_eq_true rfl) (fun z hz hne => jw_fr z hz hne) (rfl) (fun H locs hB => ?_)
      have hB : jB G A s_.heap (sr I 40 (upd (uS o n ((sk (I 48) n q.1, q.2))) 4 (nI 1)), J, O) H locs := by rw [show sr I 40 (upd (uS o n ((sk (I 48) n q.1, q.2))) 4 (nI 1)) = u2 (sr I 40 (uS o n ((sk (I 48) n q.1, q.2)))) 40 4 (nI 1) from (u2_sr _ _ _ _ _).symm]; exact hB
      have hB : jB G A s_.heap (sr I 40 (uS o n (sk (I 48) n q.1, nI 1)), J, O) H locs := by rw [← show upd (uS o n ((sk (I 48) n q.1, q.2))) 4 (nI 1) = uS o n (sk (I 48) n q.1, nI 1) from uS_v]; exact hB
      refine lv_aload_n hx hb dX8_takesSort_51 rfl (lv_at hl 1 rfl) ?_
      refine lv_dup hx hb dX8_takesSort_52 rfl ?_
      refine j_get (20, 0, 0) 13 (v := .int ((sr I 40 (uS o n (sk (I 48) n q.1, nI 1))) 40 3)) hC hB in_X8 lk_203 dX8_takesSort_53 jk20 rfl rfl (by decide) rfl ?_
      refine j_eqi (x := (sr I 40 (uS o n (sk (I 48) n q.1, nI 1))) 40 3) (y := nI (sk (I 48) n q.1)) (sr_sj.trans (uS_3)) ?_
      refine lv_aload_n hx hb dX8_takesSort_56 rfl (lv_at hl 1 rfl) ?_
      refine j_get (20, 0, 0) 15 (v := .int ((sr I 40 (uS o n (sk (I 48) n q.1, nI 1))) 40 4)) hC hB in_X8 lk_211 dX8_takesSort_57 jk20 rfl rfl (by decide) rfl ?_
      refine j_eqi (x := (sr I 40 (uS o n (sk (I 48) n q.1, nI 1))) 40 4) (y := nI 1) (sr_sj.trans (uS_4)) ?_
      refine lv_bipush (v := (-4 : Int32)) hx hb dX8_takesSort_60 (by decide) ?_
      refine lv_icmp_ne (tgt := 69) hx hb dX8_takesSort_62 (by decide) (fun c_62 => ?_) (fun c_62 => ?_)
      · have hk := nx_lt (soV_n4 (by rw [hso]; decide))
        refine lv_iconst (v := nI 1) hx hb dX8_takesSort_69 (by decide) ?_
        refine jn_iadd hx hb dX8_takesSort_70 ?_
        refine j_put (20, 0, 0) 13 (u2 (sr I 40 (uS o n (sk (I 48) n q.1, nI 1))) 40 3 (nI (sk (I 48) n q.1 + 1)), J, O) (ty := .int) hC hB in_X8 tyX8_ok nmX8 lk_203 dX8_takesSort_71 jk20 rfl rfl (by decide) rfl (by decide +kernel) rfl rfl (Nat.le_of_ble_eq_true rfl) (fun z hz hne => jw_fr z hz hne) (rfl) (fun H locs hB => ?_)
        have hB : jB G A s_.heap (sr I 40 (upd (uS o n (sk (I 48) n q.1, nI 1)) 3 (nI (sk (I 48) n q.1 + 1))), J, O) H locs := by rw [show sr I 40 (upd (uS o n (sk (I 48) n q.1, nI 1)) 3 (nI (sk (I 48) n q.1 + 1))) = u2 (sr I 40 (uS o n (sk (I 48) n q.1, nI 1))) 40 3 (nI (sk (I 48) n q.1 + 1)) from (u2_sr _ _ _ _ _).symm]; exact hB
        have hB : jB G A s_.heap (sr I 40 (uS o n (sk (I 48) n q.1 + 1, nI 1)), J, O) H locs := by rw [← show upd (uS o n (sk (I 48) n q.1, nI 1)) 3 (nI (sk (I 48) n q.1 + 1)) = uS o n (sk (I 48) n q.1 + 1, nI 1) from uS_p]; exact hB
        refine lv_aload_n hx hb dX8_takesSort_74 rfl (lv_at hl 1 rfl) ?_
        refine j_get (20, 0, 0) 15 (v := .int ((sr I 40 (uS o n (sk (I 48) n q.1 + 1, nI 1))) 40 4)) hC hB in_X8 lk_211 dX8_takesSort_75 jk20 rfl rfl (by decide) rfl ?_
        refine j_eqi (x := (sr I 40 (uS o n (sk (I 48) n q.1 + 1, nI 1))) 40 4) (y := nI 1) (sr_sj.trans (uS_4)) ?_
        refine lv_bipush (v := (-4 : Int32)) hx hb dX8_takesSort_78 (by decide) ?_
        refine lv_icmp_eq (tgt := 87) hx hb dX8_takesSort_80 (by decide) (fun c_80 => ?_) (fun c_80 => ?_)
        · exact absurd c_80 (by decide)
        · refine lv_iconst (v := nI 1) hx hb dX8_takesSort_83 (by decide) ?_
          refine lv_goto (tgt := 88) hx hb dX8_takesSort_84 (by decide) ?_
          exact j_zret hC hB dX8_takesSort_88 (by decide) (⟨by rw [rSo, if_neg (by rw [hso]; decide)]; rfl, by rw [rSo, if_neg (by rw [hso]; decide), hso]⟩)
      · exact absurd c_62 (by decide)
  · refine lv_iconst (v := nI 0) hx hb dX8_takesSort_12 (by decide) ?_
    refine lv_goto (tgt := 48) hx hb dX8_takesSort_13 (by decide) ?_
    have hso : soV (nx (I 48) n q.1) = nI 0 := by rw [soV, if_pos c_9]
    refine j_put (20, 0, 0) 15 (u2 (sr I 40 (uS o n ((sk (I 48) n q.1, q.2)))) 40 4 (nI 0), J, O) (ty := .int) hC hB in_X8 tyX8_ok nmX8 lk_211 dX8_takesSort_48 jk20 rfl rfl (by decide) rfl (by decide +kernel) rfl rfl (Nat.le_of_ble_eq_true rfl) (fun z hz hne => jw_fr z hz hne) (rfl) (fun H locs hB => ?_)
    have hB : jB G A s_.heap (sr I 40 (upd (uS o n ((sk (I 48) n q.1, q.2))) 4 (nI 0)), J, O) H locs := by rw [show sr I 40 (upd (uS o n ((sk (I 48) n q.1, q.2))) 4 (nI 0)) = u2 (sr I 40 (uS o n ((sk (I 48) n q.1, q.2)))) 40 4 (nI 0) from (u2_sr _ _ _ _ _).symm]; exact hB
    have hB : jB G A s_.heap (sr I 40 (uS o n (sk (I 48) n q.1, nI 0)), J, O) H locs := by rw [← show upd (uS o n ((sk (I 48) n q.1, q.2))) 4 (nI 0) = uS o n (sk (I 48) n q.1, nI 0) from uS_v]; exact hB
    refine lv_aload_n hx hb dX8_takesSort_51 rfl (lv_at hl 1 rfl) ?_
    refine lv_dup hx hb dX8_takesSort_52 rfl ?_
    refine j_get (20, 0, 0) 13 (v := .int ((sr I 40 (uS o n (sk (I 48) n q.1, nI 0))) 40 3)) hC hB in_X8 lk_203 dX8_takesSort_53 jk20 rfl rfl (by decide) rfl ?_
    refine j_eqi (x := (sr I 40 (uS o n (sk (I 48) n q.1, nI 0))) 40 3) (y := nI (sk (I 48) n q.1)) (sr_sj.trans (uS_3)) ?_
    refine lv_aload_n hx hb dX8_takesSort_56 rfl (lv_at hl 1 rfl) ?_
    refine j_get (20, 0, 0) 15 (v := .int ((sr I 40 (uS o n (sk (I 48) n q.1, nI 0))) 40 4)) hC hB in_X8 lk_211 dX8_takesSort_57 jk20 rfl rfl (by decide) rfl ?_
    refine j_eqi (x := (sr I 40 (uS o n (sk (I 48) n q.1, nI 0))) 40 4) (y := nI 0) (sr_sj.trans (uS_4)) ?_
    refine lv_bipush (v := (-4 : Int32)) hx hb dX8_takesSort_60 (by decide) ?_
    refine lv_icmp_ne (tgt := 69) hx hb dX8_takesSort_62 (by decide) (fun c_62 => ?_) (fun c_62 => ?_)
    · have hk := nx_lt (soV_n4 (by rw [hso]; decide))
      refine lv_iconst (v := nI 1) hx hb dX8_takesSort_69 (by decide) ?_
      refine jn_iadd hx hb dX8_takesSort_70 ?_
      refine j_put (20, 0, 0) 13 (u2 (sr I 40 (uS o n (sk (I 48) n q.1, nI 0))) 40 3 (nI (sk (I 48) n q.1 + 1)), J, O) (ty := .int) hC hB in_X8 tyX8_ok nmX8 lk_203 dX8_takesSort_71 jk20 rfl rfl (by decide) rfl (by decide +kernel) rfl rfl (Nat.le_of_ble_eq_true rfl) (fun z hz hne => jw_fr z hz hne) (rfl) (fun H locs hB => ?_)
      have hB : jB G A s_.heap (sr I 40 (upd (uS o n (sk (I 48) n q.1, nI 0)) 3 (nI (sk (I 48) n q.1 + 1))), J, O) H locs := by rw [show sr I 40 (upd (uS o n (sk (I 48) n q.1, nI 0)) 3 (nI (sk (I 48) n q.1 + 1))) = u2 (sr I 40 (uS o n (sk (I 48) n q.1, nI 0))) 40 3 (nI (sk (I 48) n q.1 + 1)) from (u2_sr _ _ _ _ _).symm]; exact hB
      have hB : jB G A s_.heap (sr I 40 (uS o n (sk (I 48) n q.1 + 1, nI 0)), J, O) H locs := by rw [← show upd (uS o n (sk (I 48) n q.1, nI 0)) 3 (nI (sk (I 48) n q.1 + 1)) = uS o n (sk (I 48) n q.1 + 1, nI 0) from uS_p]; exact hB
      refine lv_aload_n hx hb dX8_takesSort_74 rfl (lv_at hl 1 rfl) ?_
      refine j_get (20, 0, 0) 15 (v := .int ((sr I 40 (uS o n (sk (I 48) n q.1 + 1, nI 0))) 40 4)) hC hB in_X8 lk_211 dX8_takesSort_75 jk20 rfl rfl (by decide) rfl ?_
      refine j_eqi (x := (sr I 40 (uS o n (sk (I 48) n q.1 + 1, nI 0))) 40 4) (y := nI 0) (sr_sj.trans (uS_4)) ?_
      refine lv_bipush (v := (-4 : Int32)) hx hb dX8_takesSort_78 (by decide) ?_
      refine lv_icmp_eq (tgt := 87) hx hb dX8_takesSort_80 (by decide) (fun c_80 => ?_) (fun c_80 => ?_)
      · exact absurd c_80 (by decide)
      · refine lv_iconst (v := nI 1) hx hb dX8_takesSort_83 (by decide) ?_
        refine lv_goto (tgt := 88) hx hb dX8_takesSort_84 (by decide) ?_
        exact j_zret hC hB dX8_takesSort_88 (by decide) (⟨by rw [rSo, if_neg (by rw [hso]; decide)]; rfl, by rw [rSo, if_neg (by rw [hso]; decide), hso]⟩)
    · exact absurd c_62 (by decide)

set_option maxHeartbeats 4000000 in
set_option maxRecDepth 100000 in
theorem c_X8_kindBy (l_ : Launch) (G : jG) (I : Nat → Nat → Int32) (J : Nat → Nat → Int64) (O : Nat → Nat → Nat) (c : Int32) : jMi l_ G yX8_kindBy wsX8_kindBy ({ frames := 0, cells := 0, slots := 0, locals := 0 }) [.int c] (I, J, O) (fun r u => r = kdV c ∧ u = (I, J, O)) := by
  refine jMi_of (cc := cX8_kindBy) (maxL := 1) (ret := (some .int)) (lv0 := [(0, .int c)]) (by decide) rfl (Nat.le_of_ble_eq_true rfl) rfl ?_
  intro pg_ ev_ s_ mi_ below meth cd_ A ls hC hB hl
  obtain ⟨hx, hb, hr, hml, hown, hts, hlocks, hK, hA⟩ := id hC
  refine lv_iload_n hx hb dX8_kindBy_0 rfl (lv_at hl 0 rfl) ?_
  refine lv_bipush (v := nI 112) hx hb dX8_kindBy_1 (by decide) ?_
  refine lv_icmp_ne (tgt := 10) hx hb dX8_kindBy_3 (by decide) (fun c_3 => ?_) (fun c_3 => ?_)
  · refine lv_iload_n hx hb dX8_kindBy_10 rfl (lv_at hl 0 rfl) ?_
    refine lv_bipush (v := nI 115) hx hb dX8_kindBy_11 (by decide) ?_
    refine lv_icmp_ne (tgt := 20) hx hb dX8_kindBy_13 (by decide) (fun c_13 => ?_) (fun c_13 => ?_)
    · refine lv_iload_n hx hb dX8_kindBy_20 rfl (lv_at hl 0 rfl) ?_
      refine lv_bipush (v := nI 119) hx hb dX8_kindBy_21 (by decide) ?_
      refine lv_icmp_ne (tgt := 30) hx hb dX8_kindBy_23 (by decide) (fun c_23 => ?_) (fun c_23 => ?_)
      · refine lv_iload_n hx hb dX8_kindBy_30 rfl (lv_at hl 0 rfl) ?_
        refine lv_bipush (v := nI 117) hx hb dX8_kindBy_31 (by decide) ?_
        refine lv_icmp_ne (tgt := 40) hx hb dX8_kindBy_33 (by decide) (fun c_33 => ?_) (fun c_33 => ?_)
        · refine lv_iload_n hx hb dX8_kindBy_40 rfl (lv_at hl 0 rfl) ?_
          refine lv_bipush (v := nI 99) hx hb dX8_kindBy_41 (by decide) ?_
          refine lv_icmp_ne (tgt := 50) hx hb dX8_kindBy_43 (by decide) (fun c_43 => ?_) (fun c_43 => ?_)
          · refine lv_bipush (v := (-4 : Int32)) hx hb dX8_kindBy_50 (by decide) ?_
            exact j_iret hC hB dX8_kindBy_52 (⟨by rw [kdV, if_neg c_3, if_neg c_13, if_neg c_23, if_neg c_33, if_neg c_43], rfl⟩)
          · refine lv_iconst (v := nI 4) hx hb dX8_kindBy_46 (by decide) ?_
            refine lv_goto (tgt := 52) hx hb dX8_kindBy_47 (by decide) ?_
            exact j_iret hC hB dX8_kindBy_52 (⟨by rw [kdV, if_neg c_3, if_neg c_13, if_neg c_23, if_neg c_33, if_pos c_43], rfl⟩)
        · refine lv_iconst (v := nI 3) hx hb dX8_kindBy_36 (by decide) ?_
          refine lv_goto (tgt := 52) hx hb dX8_kindBy_37 (by decide) ?_
          exact j_iret hC hB dX8_kindBy_52 (⟨by rw [kdV, if_neg c_3, if_neg c_13, if_neg c_23, if_pos c_33], rfl⟩)
      · refine lv_iconst (v := nI 2) hx hb dX8_kindBy_26 (by decide) ?_
        refine lv_goto (tgt := 52) hx hb dX8_kindBy_27 (by decide) ?_
        exact j_iret hC hB dX8_kindBy_52 (⟨by rw [kdV, if_neg c_3, if_neg c_13, if_pos c_23], rfl⟩)
    · refine lv_iconst (v := nI 1) hx hb dX8_kindBy_16 (by decide) ?_
      refine lv_goto (tgt := 52) hx hb dX8_kindBy_17 (by decide) ?_
      exact j_iret hC hB dX8_kindBy_52 (⟨by rw [kdV, if_neg c_3, if_pos c_13], rfl⟩)
  · refine lv_iconst (v := nI 0) hx hb dX8_kindBy_6 (by decide) ?_
    refine lv_goto (tgt := 52) hx hb dX8_kindBy_7 (by decide) ?_
    exact j_iret hC hB dX8_kindBy_52 (⟨by rw [kdV, if_pos c_3], rfl⟩)

set_option maxHeartbeats 4000000 in
set_option maxRecDepth 100000 in
theorem c_X8_takesHard (l_ : Launch) (G : jG) (I : Nat → Nat → Int32) (J : Nat → Nat → Int64) (O : Nat → Nat → Nat)  {o : Nat → Int32} {n : Nat} {q : Nat × Int32} (hn : n ≤ 90) (hq : q.1 ≤ n) (hU : I 40 = uS o n q) : jMi l_ G yX8_takesHard wsX8_takesHard ({ frames := 1, cells := 0, slots := 0, locals := 25 }) [.ref (G.2.2.1 (20, 0, 0))] (I, J, O) (fun r u => r = b2 ((rHa (I 48) n q).1) ∧ u = (sr I 40 (uS o n ((rHa (I 48) n q).2)), J, O)) := by
  refine jMi_of (cc := cX8_takesHard) (maxL := 3) (ret := (some .boolean)) (lv0 := [(0, .ref (G.2.2.1 (20, 0, 0)))]) (by decide) rfl (Nat.le_of_ble_eq_true rfl) rfl ?_
  intro pg_ ev_ s_ mi_ below meth cd_ A ls hC hB hl
  obtain ⟨hx, hb, hr, hml, hown, hts, hlocks, hK, hA⟩ := id hC
  have lk_203 := hts (.fieldLink RX8 203 "RiddlePrisonModel" "place" "I") (by decide +kernel)
  have lk_38 := hts (.fieldLink RX8 38 "RiddlePrisonModel" "tape" "[I") (by decide +kernel)
  have lk_211 := hts (.fieldLink RX8 211 "RiddlePrisonModel" "value" "I") (by decide +kernel)
  have lk_200 := hts (.fieldLink RX8 200 "RiddlePrisonModel" "tapeLong" "I") (by decide +kernel)
  have in_X8 := (fun w h => List.mem_cons_of_mem _ (List.mem_append_right _ h) : ∀ w ∈ wsX80, w ∈ wsX8_takesHard)
  have hU2 : I 40 2 = nI n := by rw [hU]; exact uS_2
  have hU3 : I 40 3 = nI q.1 := by rw [hU]; exact uS_3
  have hU4 : I 40 4 = q.2 := by rw [hU]; exact uS_4
  refine lv_aload_n hx hb dX8_takesHard_0 rfl (lv_at hl 0 rfl) ?_
  refine j_cvi (20, 0, 0) [] hC hB hl.1 (c_X8_next l_ G I J O  (hn) (hq) (hU)) (cwV 0 hts gX8_takesHard_X8_next rfl rfl rfl (by decide +kernel) ⟨by decide, by decide⟩) dX8_takesHard_1 jk20 rfl rfl rfl rfl (Nat.le_of_ble_eq_true rfl) (fun r_1 u_1 H locs hp_1 hB => ?_)
  obtain ⟨rfl, rfl⟩ := hp_1
  have hl_1 : ((sk (I 48) n q.1, q.2)).1 ≤ n := (sk_le (hq)).2
  have hB : jB G A s_.heap (sr I 40 (uS o n ((sk (I 48) n q.1, q.2))), J, O) H locs := hB
  refine j_eqi (y := nx (I 48) n q.1) (rfl) ?_
  refine lv_i2l (v := (nx (I 48) n q.1).toInt64) hx hb dX8_takesHard_4 rfl ?_
  refine lv_ldc2 (v := 48) hx hb hown (hts (.constantLong RX8 209 (48)) (by decide +kernel)) dX8_takesHard_5 ?_
  refine lv_ldc2 (v := 57) hx hb hown (hts (.constantLong RX8 214 (57)) (by decide +kernel)) dX8_takesHard_8 ?_
  refine j_csi [.long ((nx (I 48) n q.1).toInt64), .long ((48 : Int64)), .long ((57 : Int64))] hC hB hl.1 (c_X8_in l_ G (sr I 40 (uS o n ((sk (I 48) n q.1, q.2)))) J O ((nx (I 48) n q.1).toInt64) ((48 : Int64)) ((57 : Int64))) (va_cwS 3 hts gX8_takesHard_X8_in rfl rfl rfl (by decide +kernel) ⟨by decide, by decide⟩) dX8_takesHard_11 rfl rfl (Nat.le_of_ble_eq_true rfl) (fun r_11 u_11 H locs hp_11 hB => ?_)
  obtain ⟨rfl, rfl⟩ := hp_11
  refine j_eqi (y := b2 (inR ((nx (I 48) n q.1).toInt64) ((48 : Int64)) ((57 : Int64)))) (rfl) ?_
  refine j_eqi (y := b2 (dgB (nx (I 48) n q.1))) (rfl) ?_
  refine jb_if_ne (tgt := 19) hx hb dX8_takesHard_14 (by decide) (fun c_14 => ?_) (fun c_14 => ?_)
  · have hk := nx_lt (inR_n4 c_14)
    refine lv_aload_n hx hb dX8_takesHard_19 rfl (lv_at hl 0 rfl) ?_
    refine j_get (20, 0, 0) 13 (v := .int ((sr I 40 (uS o n ((sk (I 48) n q.1, q.2)))) 40 3)) hC hB in_X8 lk_203 dX8_takesHard_20 jk20 rfl rfl (by decide) rfl ?_
    refine j_eqi (x := (sr I 40 (uS o n ((sk (I 48) n q.1, q.2)))) 40 3) (y := nI (((sk (I 48) n q.1, q.2)).1)) (sr_sj.trans (uS_3)) ?_
    refine lv_istore_n (lv' := [(1, .int (nI (((sk (I 48) n q.1, q.2)).1))), (0, .ref (G.2.2.1 (20, 0, 0)))]) hx hb dX8_takesHard_23 rfl hl (by decide) rfl (fun ls hl => ?_)
    refine lv_aload_n hx hb dX8_takesHard_24 rfl (lv_at hl 1 rfl) ?_
    refine lv_aload_n hx hb dX8_takesHard_25 rfl (lv_at hl 1 rfl) ?_
    refine j_get (20, 0, 0) 11 (v := .ref (G.2.2.1 (21, 48, 0))) hC hB in_X8 lk_38 dX8_takesHard_26 jk20 rfl rfl (by decide) rfl ?_
    refine lv_aload_n hx hb dX8_takesHard_29 rfl (lv_at hl 1 rfl) ?_
    refine j_get (20, 0, 0) 13 (v := .int ((sr I 40 (uS o n ((sk (I 48) n q.1, q.2)))) 40 3)) hC hB in_X8 lk_203 dX8_takesHard_30 jk20 rfl rfl (by decide) rfl ?_
    refine j_eqi (x := (sr I 40 (uS o n ((sk (I 48) n q.1, q.2)))) 40 3) (y := nI (((sk (I 48) n q.1, q.2)).1)) (sr_sj.trans (uS_3)) ?_
    refine j_iLd 48 (((sk (I 48) n q.1, q.2)).1) hC hB dX8_takesHard_33 (by decide) rfl (by simp only [lenI_48]; omega) ?_
    refine j_eqi (x := (sr I 40 (uS o n ((sk (I 48) n q.1, q.2)))) 48 (((sk (I 48) n q.1, q.2)).1)) (y := (I 48) (((sk (I 48) n q.1, q.2)).1)) ((sr_nj (show (48 : Nat) ≠ 40 by omega))) ?_
    refine lv_bipush (v := nI 48) hx hb dX8_takesHard_34 (by decide) ?_
    refine lv_isub hx hb dX8_takesHard_36 ?_
    refine j_put (20, 0, 0) 15 (u2 (sr I 40 (uS o n ((sk (I 48) n q.1, q.2)))) 40 4 (((I 48) (((sk (I 48) n q.1, q.2)).1)) - (nI 48)), J, O) (ty := .int) hC hB in_X8 tyX8_ok nmX8 lk_211 dX8_takesHard_37 jk20 rfl rfl (by decide) rfl (by decide +kernel) rfl rfl (Nat.le_of_ble_eq_true rfl) (fun z hz hne => jw_fr z hz hne) (rfl) (fun H locs hB => ?_)
    have hB : jB G A s_.heap (sr I 40 (upd (uS o n ((sk (I 48) n q.1, q.2))) 4 (((I 48) (((sk (I 48) n q.1, q.2)).1)) - (nI 48))), J, O) H locs := by rw [show sr I 40 (upd (uS o n ((sk (I 48) n q.1, q.2))) 4 (((I 48) (((sk (I 48) n q.1, q.2)).1)) - (nI 48))) = u2 (sr I 40 (uS o n ((sk (I 48) n q.1, q.2)))) 40 4 (((I 48) (((sk (I 48) n q.1, q.2)).1)) - (nI 48)) from (u2_sr _ _ _ _ _).symm]; exact hB
    have hB : jB G A s_.heap (sr I 40 (uS o n (sk (I 48) n q.1, I 48 (sk (I 48) n q.1) - nI 48)), J, O) H locs := by rw [← show upd (uS o n ((sk (I 48) n q.1, q.2))) 4 (((I 48) (((sk (I 48) n q.1, q.2)).1)) - (nI 48)) = uS o n (sk (I 48) n q.1, I 48 (sk (I 48) n q.1) - nI 48) from uS_v]; exact hB
    refine lv_aload_n hx hb dX8_takesHard_40 rfl (lv_at hl 1 rfl) ?_
    refine lv_dup hx hb dX8_takesHard_41 rfl ?_
    refine j_get (20, 0, 0) 13 (v := .int ((sr I 40 (uS o n (sk (I 48) n q.1, I 48 (sk (I 48) n q.1) - nI 48))) 40 3)) hC hB in_X8 lk_203 dX8_takesHard_42 jk20 rfl rfl (by decide) rfl ?_
    refine j_eqi (x := (sr I 40 (uS o n (sk (I 48) n q.1, I 48 (sk (I 48) n q.1) - nI 48))) 40 3) (y := nI ((sk (I 48) n q.1, I 48 (sk (I 48) n q.1) - nI 48).1)) (sr_sj.trans (uS_3)) ?_
    refine lv_iconst (v := nI 1) hx hb dX8_takesHard_45 (by decide) ?_
    refine jn_iadd hx hb dX8_takesHard_46 ?_
    refine j_put (20, 0, 0) 13 (u2 (sr I 40 (uS o n (sk (I 48) n q.1, I 48 (sk (I 48) n q.1) - nI 48))) 40 3 (nI ((sk (I 48) n q.1, I 48 (sk (I 48) n q.1) - nI 48).1 + 1)), J, O) (ty := .int) hC hB in_X8 tyX8_ok nmX8 lk_203 dX8_takesHard_47 jk20 rfl rfl (by decide) rfl (by decide +kernel) rfl rfl (Nat.le_of_ble_eq_true rfl) (fun z hz hne => jw_fr z hz hne) (rfl) (fun H locs hB => ?_)
    have hB : jB G A s_.heap (sr I 40 (upd (uS o n (sk (I 48) n q.1, I 48 (sk (I 48) n q.1) - nI 48)) 3 (nI ((sk (I 48) n q.1, I 48 (sk (I 48) n q.1) - nI 48).1 + 1))), J, O) H locs := by rw [show sr I 40 (upd (uS o n (sk (I 48) n q.1, I 48 (sk (I 48) n q.1) - nI 48)) 3 (nI ((sk (I 48) n q.1, I 48 (sk (I 48) n q.1) - nI 48).1 + 1))) = u2 (sr I 40 (uS o n (sk (I 48) n q.1, I 48 (sk (I 48) n q.1) - nI 48))) 40 3 (nI ((sk (I 48) n q.1, I 48 (sk (I 48) n q.1) - nI 48).1 + 1)) from (u2_sr _ _ _ _ _).symm]; exact hB
    have hB : jB G A s_.heap (sr I 40 (uS o n (sk (I 48) n q.1 + 1, I 48 (sk (I 48) n q.1) - nI 48)), J, O) H locs := by rw [← show upd (uS o n (sk (I 48) n q.1, I 48 (sk (I 48) n q.1) - nI 48)) 3 (nI ((sk (I 48) n q.1, I 48 (sk (I 48) n q.1) - nI 48).1 + 1)) = uS o n (sk (I 48) n q.1 + 1, I 48 (sk (I 48) n q.1) - nI 48) from uS_p]; exact hB
    refine lv_aload_n hx hb dX8_takesHard_50 rfl (lv_at hl 1 rfl) ?_
    refine j_get (20, 0, 0) 13 (v := .int ((sr I 40 (uS o n (sk (I 48) n q.1 + 1, I 48 (sk (I 48) n q.1) - nI 48))) 40 3)) hC hB in_X8 lk_203 dX8_takesHard_51 jk20 rfl rfl (by decide) rfl ?_
    refine j_eqi (x := (sr I 40 (uS o n (sk (I 48) n q.1 + 1, I 48 (sk (I 48) n q.1) - nI 48))) 40 3) (y := nI ((sk (I 48) n q.1 + 1, I 48 (sk (I 48) n q.1) - nI 48).1)) (sr_sj.trans (uS_3)) ?_
    refine lv_aload_n hx hb dX8_takesHard_54 rfl (lv_at hl 1 rfl) ?_
    refine j_get (20, 0, 0) 12 (v := .int ((sr I 40 (uS o n (sk (I 48) n q.1 + 1, I 48 (sk (I 48) n q.1) - nI 48))) 40 2)) hC hB in_X8 lk_200 dX8_takesHard_55 jk20 rfl rfl (by decide) rfl ?_
    refine j_eqi (x := (sr I 40 (uS o n (sk (I 48) n q.1 + 1, I 48 (sk (I 48) n q.1) - nI 48))) 40 2) (y := nI n) (sr_sj.trans (uS_2)) ?_
    refine jn_icmp_ge (tgt := 117) hx hb dX8_takesHard_58 (by decide) (by omega) (by omega) (fun c_58 => ?_) (fun c_58 => ?_)
    · have hB : jB G A s_.heap (sr I 40 (uS o n (rH2 (I 48) n (sk (I 48) n q.1))), J, O) H locs := by rw [← show uS o n (sk (I 48) n q.1 + 1, I 48 (sk (I 48) n q.1) - nI 48) = uS o n (rH2 (I 48) n (sk (I 48) n q.1)) from by rw [rH2, if_neg (fun z => absurd z.1 (by omega))]]; exact hB
      have hh2 := rH2_le (t := I 48) hk
      refine lv_aload_n hx hb dX8_takesHard_117 rfl (lv_at hl 1 rfl) ?_
      refine j_get (20, 0, 0) 15 (v := .int ((sr I 40 (uS o n (rH2 (I 48) n (sk (I 48) n q.1)))) 40 4)) hC hB in_X8 lk_211 dX8_takesHard_118 jk20 rfl rfl (by decide) rfl ?_
      refine j_eqi (x := (sr I 40 (uS o n (rH2 (I 48) n (sk (I 48) n q.1)))) 40 4) (y := (rH2 (I 48) n (sk (I 48) n q.1)).2) (sr_sj.trans (uS_4)) ?_
      refine lv_i2l (v := ((rH2 (I 48) n (sk (I 48) n q.1)).2).toInt64) hx hb dX8_takesHard_121 rfl ?_
      refine lv_lconst (v := 1) hx hb dX8_takesHard_122 rfl ?_
      refine lv_ldc2 (v := 19) hx hb hown (hts (.constantLong RX8 77 (19)) (by decide +kernel)) dX8_takesHard_123 ?_
      refine j_csi [.long (((rH2 (I 48) n (sk (I 48) n q.1)).2).toInt64), .long ((1 : Int64)), .long ((19 : Int64))] hC hB hl.1 (c_X8_in l_ G (sr I 40 (uS o n (rH2 (I 48) n (sk (I 48) n q.1)))) J O (((rH2 (I 48) n (sk (I 48) n q.1)).2).toInt64) ((1 : Int64)) ((19 : Int64))) (va_cwS 3 hts gX8_takesHard_X8_in rfl rfl rfl (by decide +kernel) ⟨by decide, by decide⟩) dX8_takesHard_126 rfl rfl (Nat.le_of_ble_eq_true rfl) (fun r_126 u_126 H locs hp_126 hB => ?_)
      obtain ⟨rfl, rfl⟩ := hp_126
      refine j_eqi (y := b2 (inR (((rH2 (I 48) n (sk (I 48) n q.1)).2).toInt64) ((1 : Int64)) ((19 : Int64)))) (rfl) ?_
      refine lv_istore_n (lv' := [(2, .int (b2 (inR (((rH2 (I 48) n (sk (I 48) n q.1)).2).toInt64) ((1 : Int64)) ((19 : Int64))))), (1, .int (nI (((sk (I 48) n q.1, q.2)).1))), (0, .ref (G.2.2.1 (20, 0, 0)))]) hx hb dX8_takesHard_129 rfl hl (by decide) rfl (fun ls hl => ?_)
      refine lv_aload_n hx hb dX8_takesHard_130 rfl (lv_at hl 2 rfl) ?_
      refine lv_iload_n hx hb dX8_takesHard_131 rfl (lv_at hl 0 rfl) ?_
      refine jb_if_eq (tgt := 142) hx hb dX8_takesHard_132 (by decide) (fun c_132 => ?_) (fun c_132 => ?_)
      · refine lv_iload_n hx hb dX8_takesHard_142 rfl (lv_at hl 1 rfl) ?_
        refine j_put (20, 0, 0) 13 (u2 (sr I 40 (uS o n (rH2 (I 48) n (sk (I 48) n q.1)))) 40 3 (nI (((sk (I 48) n q.1, q.2)).1)), J, O) (ty := .int) hC hB in_X8 tyX8_ok nmX8 lk_203 dX8_takesHard_143 jk20 rfl rfl (by decide) rfl (by decide +kernel) rfl rfl (Nat.le_of_ble_eq_true rfl) (fun z hz hne => jw_fr z hz hne) (rfl) (fun H locs hB => ?_)
        have hB : jB G A s_.heap (sr I 40 (upd (uS o n (rH2 (I 48) n (sk (I 48) n q.1))) 3 (nI (((sk (I 48) n q.1, q.2)).1))), J, O) H locs := by rw [show sr I 40 (upd (uS o n (rH2 (I 48) n (sk (I 48) n q.1))) 3 (nI (((sk (I 48) n q.1, q.2)).1))) = u2 (sr I 40 (uS o n (rH2 (I 48) n (sk (I 48) n q.1)))) 40 3 (nI (((sk (I 48) n q.1, q.2)).1)) from (u2_sr _ _ _ _ _).symm]; exact hB
        have hB : jB G A s_.heap (sr I 40 (uS o n (sk (I 48) n q.1, (rH2 (I 48) n (sk (I 48) n q.1)).2)), J, O) H locs := by rw [← show upd (uS o n (rH2 (I 48) n (sk (I 48) n q.1))) 3 (nI (((sk (I 48) n q.1, q.2)).1)) = uS o n (sk (I 48) n q.1, (rH2 (I 48) n (sk (I 48) n q.1)).2) from uS_p]; exact hB
        refine lv_iload_n hx hb dX8_takesHard_146 rfl (lv_at hl 0 rfl) ?_
        refine jb_if_eq (tgt := 187) hx hb dX8_takesHard_147 (by decide) (fun c_147 => ?_) (fun c_147 => ?_)
        · refine lv_iconst (v := nI 0) hx hb dX8_takesHard_187 (by decide) ?_
          exact j_zret hC hB dX8_takesHard_188 (by decide) (⟨by rw [rHa, if_pos c_14, if_neg (by rw [c_132]; decide)]; rfl, by rw [rHa, if_pos c_14, if_neg (by rw [c_132]; decide)]⟩)
        · exact absurd (c_147.symm.trans c_132) (by decide)
      · refine lv_aload_n hx hb dX8_takesHard_135 rfl (lv_at hl 2 rfl) ?_
        refine j_get (20, 0, 0) 13 (v := .int ((sr I 40 (uS o n (rH2 (I 48) n (sk (I 48) n q.1)))) 40 3)) hC hB in_X8 lk_203 dX8_takesHard_136 jk20 rfl rfl (by decide) rfl ?_
        refine j_eqi (x := (sr I 40 (uS o n (rH2 (I 48) n (sk (I 48) n q.1)))) 40 3) (y := nI ((rH2 (I 48) n (sk (I 48) n q.1)).1)) (sr_sj.trans (uS_3)) ?_
        refine lv_goto (tgt := 143) hx hb dX8_takesHard_139 (by decide) ?_
        refine j_put (20, 0, 0) 13 (u2 (sr I 40 (uS o n (rH2 (I 48) n (sk (I 48) n q.1)))) 40 3 (nI ((rH2 (I 48) n (sk (I 48) n q.1)).1)), J, O) (ty := .int) hC hB in_X8 tyX8_ok nmX8 lk_203 dX8_takesHard_143 jk20 rfl rfl (by decide) rfl (by decide +kernel) rfl rfl (Nat.le_of_ble_eq_true rfl) (fun z hz hne => jw_fr z hz hne) (rfl) (fun H locs hB => ?_)
        have hB : jB G A s_.heap (sr I 40 (upd (uS o n (rH2 (I 48) n (sk (I 48) n q.1))) 3 (nI ((rH2 (I 48) n (sk (I 48) n q.1)).1))), J, O) H locs := by rw [show sr I 40 (upd (uS o n (rH2 (I 48) n (sk (I 48) n q.1))) 3 (nI ((rH2 (I 48) n (sk (I 48) n q.1)).1))) = u2 (sr I 40 (uS o n (rH2 (I 48) n (sk (I 48) n q.1)))) 40 3 (nI ((rH2 (I 48) n (sk (I 48) n q.1)).1)) from (u2_sr _ _ _ _ _).symm]; exact hB
        have hB : jB G A s_.heap (sr I 40 (uS o n (rH2 (I 48) n (sk (I 48) n q.1))), J, O) H locs := by rw [← show upd (uS o n (rH2 (I 48) n (sk (I 48) n q.1))) 3 (nI ((rH2 (I 48) n (sk (I 48) n q.1)).1)) = uS o n (rH2 (I 48) n (sk (I 48) n q.1)) from uS_p]; exact hB
        refine lv_iload_n hx hb dX8_takesHard_146 rfl (lv_at hl 0 rfl) ?_
        refine jb_if_eq (tgt := 187) hx hb dX8_takesHard_147 (by decide) (fun c_147 => ?_) (fun c_147 => ?_)
        · exact absurd (c_147.symm.trans c_132) (by decide)
        · refine lv_aload_n hx hb dX8_takesHard_150 rfl (lv_at hl 2 rfl) ?_
          refine j_get (20, 0, 0) 13 (v := .int ((sr I 40 (uS o n (rH2 (I 48) n (sk (I 48) n q.1)))) 40 3)) hC hB in_X8 lk_203 dX8_takesHard_151 jk20 rfl rfl (by decide) rfl ?_
          refine j_eqi (x := (sr I 40 (uS o n (rH2 (I 48) n (sk (I 48) n q.1)))) 40 3) (y := nI ((rH2 (I 48) n (sk (I 48) n q.1)).1)) (sr_sj.trans (uS_3)) ?_
          refine lv_aload_n hx hb dX8_takesHard_154 rfl (lv_at hl 2 rfl) ?_
          refine j_get (20, 0, 0) 12 (v := .int ((sr I 40 (uS o n (rH2 (I 48) n (sk (I 48) n q.1)))) 40 2)) hC hB in_X8 lk_200 dX8_takesHard_155 jk20 rfl rfl (by decide) rfl ?_
          refine j_eqi (x := (sr I 40 (uS o n (rH2 (I 48) n (sk (I 48) n q.1)))) 40 2) (y := nI n) (sr_sj.trans (uS_2)) ?_
          refine jn_icmp_eq (tgt := 183) hx hb dX8_takesHard_158 (by decide) (by omega) (by omega) (fun c_158 => ?_) (fun c_158 => ?_)
          · refine lv_iconst (v := nI 1) hx hb dX8_takesHard_183 (by decide) ?_
            refine lv_goto (tgt := 188) hx hb dX8_takesHard_184 (by decide) ?_
            exact j_zret hC hB dX8_takesHard_188 (by decide) (⟨by rw [rHa, if_pos c_14, if_pos c_132]; rw [decide_eq_true c_158]; rfl, by rw [rHa, if_pos c_14, if_pos c_132]⟩)
          · refine lv_aload_n hx hb dX8_takesHard_161 rfl (lv_at hl 2 rfl) ?_
            refine j_get (20, 0, 0) 11 (v := .ref (G.2.2.1 (21, 48, 0))) hC hB in_X8 lk_38 dX8_takesHard_162 jk20 rfl rfl (by decide) rfl ?_
            refine lv_aload_n hx hb dX8_takesHard_165 rfl (lv_at hl 2 rfl) ?_
            refine j_get (20, 0, 0) 13 (v := .int ((sr I 40 (uS o n (rH2 (I 48) n (sk (I 48) n q.1)))) 40 3)) hC hB in_X8 lk_203 dX8_takesHard_166 jk20 rfl rfl (by decide) rfl ?_
            refine j_eqi (x := (sr I 40 (uS o n (rH2 (I 48) n (sk (I 48) n q.1)))) 40 3) (y := nI ((rH2 (I 48) n (sk (I 48) n q.1)).1)) (sr_sj.trans (uS_3)) ?_
            refine j_iLd 48 ((rH2 (I 48) n (sk (I 48) n q.1)).1) hC hB dX8_takesHard_169 (by decide) rfl (by simp only [lenI_48]; omega) ?_
            refine j_eqi (x := (sr I 40 (uS o n (rH2 (I 48) n (sk (I 48) n q.1)))) 48 ((rH2 (I 48) n (sk (I 48) n q.1)).1)) (y := (I 48) ((rH2 (I 48) n (sk (I 48) n q.1)).1)) ((sr_nj (show (48 : Nat) ≠ 40 by omega))) ?_
            refine lv_i2l (v := ((I 48) ((rH2 (I 48) n (sk (I 48) n q.1)).1)).toInt64) hx hb dX8_takesHard_170 rfl ?_
            refine lv_ldc2 (v := 48) hx hb hown (hts (.constantLong RX8 209 (48)) (by decide +kernel)) dX8_takesHard_171 ?_
            refine lv_ldc2 (v := 57) hx hb hown (hts (.constantLong RX8 214 (57)) (by decide +kernel)) dX8_takesHard_174 ?_
            refine j_csi [.long (((I 48) ((rH2 (I 48) n (sk (I 48) n q.1)).1)).toInt64), .long ((48 : Int64)), .long ((57 : Int64))] hC hB hl.1 (c_X8_in l_ G (sr I 40 (uS o n (rH2 (I 48) n (sk (I 48) n q.1)))) J O (((I 48) ((rH2 (I 48) n (sk (I 48) n q.1)).1)).toInt64) ((48 : Int64)) ((57 : Int64))) (va_cwS 3 hts gX8_takesHard_X8_in rfl rfl rfl (by decide +kernel) ⟨by decide, by decide⟩) dX8_takesHard_177 rfl rfl (Nat.le_of_ble_eq_true rfl) (fun r_177 u_177 H locs hp_177 hB => ?_)
            obtain ⟨rfl, rfl⟩ := hp_177
            refine j_eqi (y := b2 (inR (((I 48) ((rH2 (I 48) n (sk (I 48) n q.1)).1)).toInt64) ((48 : Int64)) ((57 : Int64)))) (rfl) ?_
            refine j_eqi (y := b2 (dgB (I 48 (rH2 (I 48) n (sk (I 48) n q.1)).1))) (rfl) ?_
            refine jb_if_ne (tgt := 187) hx hb dX8_takesHard_180 (by decide) (fun c_180 => ?_) (fun c_180 => ?_)
            · refine lv_iconst (v := nI 0) hx hb dX8_takesHard_187 (by decide) ?_
              exact j_zret hC hB dX8_takesHard_188 (by decide) (⟨by rw [rHa, if_pos c_14, if_pos c_132]; rw [decide_eq_false c_158, c_180]; rfl, by rw [rHa, if_pos c_14, if_pos c_132]⟩)
            · refine lv_iconst (v := nI 1) hx hb dX8_takesHard_183 (by decide) ?_
              refine lv_goto (tgt := 188) hx hb dX8_takesHard_184 (by decide) ?_
              exact j_zret hC hB dX8_takesHard_188 (by decide) (⟨by rw [rHa, if_pos c_14, if_pos c_132]; rw [decide_eq_false c_158, c_180]; rfl, by rw [rHa, if_pos c_14, if_pos c_132]⟩)
    · refine lv_aload_n hx hb dX8_takesHard_61 rfl (lv_at hl 1 rfl) ?_
      refine j_get (20, 0, 0) 11 (v := .ref (G.2.2.1 (21, 48, 0))) hC hB in_X8 lk_38 dX8_takesHard_62 jk20 rfl rfl (by decide) rfl ?_
      refine lv_aload_n hx hb dX8_takesHard_65 rfl (lv_at hl 1 rfl) ?_
      refine j_get (20, 0, 0) 13 (v := .int ((sr I 40 (uS o n (sk (I 48) n q.1 + 1, I 48 (sk (I 48) n q.1) - nI 48))) 40 3)) hC hB in_X8 lk_203 dX8_takesHard_66 jk20 rfl rfl (by decide) rfl ?_
      refine j_eqi (x := (sr I 40 (uS o n (sk (I 48) n q.1 + 1, I 48 (sk (I 48) n q.1) - nI 48))) 40 3) (y := nI ((sk (I 48) n q.1 + 1, I 48 (sk (I 48) n q.1) - nI 48).1)) (sr_sj.trans (uS_3)) ?_
      refine j_iLd 48 ((sk (I 48) n q.1 + 1, I 48 (sk (I 48) n q.1) - nI 48).1) hC hB dX8_takesHard_69 (by decide) rfl (by simp only [lenI_48]; omega) ?_
      refine j_eqi (x := (sr I 40 (uS o n (sk (I 48) n q.1 + 1, I 48 (sk (I 48) n q.1) - nI 48))) 48 ((sk (I 48) n q.1 + 1, I 48 (sk (I 48) n q.1) - nI 48).1)) (y := (I 48) ((sk (I 48) n q.1 + 1, I 48 (sk (I 48) n q.1) - nI 48).1)) ((sr_nj (show (48 : Nat) ≠ 40 by omega))) ?_
      refine lv_i2l (v := ((I 48) ((sk (I 48) n q.1 + 1, I 48 (sk (I 48) n q.1) - nI 48).1)).toInt64) hx hb dX8_takesHard_70 rfl ?_
      refine lv_ldc2 (v := 48) hx hb hown (hts (.constantLong RX8 209 (48)) (by decide +kernel)) dX8_takesHard_71 ?_
      refine lv_ldc2 (v := 57) hx hb hown (hts (.constantLong RX8 214 (57)) (by decide +kernel)) dX8_takesHard_74 ?_
      refine j_csi [.long (((I 48) ((sk (I 48) n q.1 + 1, I 48 (sk (I 48) n q.1) - nI 48).1)).toInt64), .long ((48 : Int64)), .long ((57 : Int64))] hC hB hl.1 (c_X8_in l_ G (sr I 40 (uS o n (sk (I 48) n q.1 + 1, I 48 (sk (I 48) n q.1) - nI 48))) J O (((I 48) ((sk (I 48) n q.1 + 1, I 48 (sk (I 48) n q.1) - nI 48).1)).toInt64) ((48 : Int64)) ((57 : Int64))) (va_cwS 3 hts gX8_takesHard_X8_in rfl rfl rfl (by decide +kernel) ⟨by decide, by decide⟩) dX8_takesHard_77 rfl rfl (Nat.le_of_ble_eq_true rfl) (fun r_77 u_77 H locs hp_77 hB => ?_)
      obtain ⟨rfl, rfl⟩ := hp_77
      refine j_eqi (y := b2 (inR (((I 48) ((sk (I 48) n q.1 + 1, I 48 (sk (I 48) n q.1) - nI 48).1)).toInt64) ((48 : Int64)) ((57 : Int64)))) (rfl) ?_
      refine j_eqi (y := b2 (dgB (I 48 (sk (I 48) n q.1 + 1)))) (rfl) ?_
      refine jb_if_eq (tgt := 117) hx hb dX8_takesHard_80 (by decide) (fun c_80 => ?_) (fun c_80 => ?_)
      · have hB : jB G A s_.heap (sr I 40 (uS o n (rH2 (I 48) n (sk (I 48) n q.1))), J, O) H locs := by rw [← show uS o n (sk (I 48) n q.1 + 1, I 48 (sk (I 48) n q.1) - nI 48) = uS o n (rH2 (I 48) n (sk (I 48) n q.1)) from by rw [rH2, if_neg (fun z => absurd (z.2.symm.trans c_80) (by decide))]]; exact hB
        have hh2 := rH2_le (t := I 48) hk
        refine lv_aload_n hx hb dX8_takesHard_117 rfl (lv_at hl 1 rfl) ?_
        refine j_get (20, 0, 0) 15 (v := .int ((sr I 40 (uS o n (rH2 (I 48) n (sk (I 48) n q.1)))) 40 4)) hC hB in_X8 lk_211 dX8_takesHard_118 jk20 rfl rfl (by decide) rfl ?_
        refine j_eqi (x := (sr I 40 (uS o n (rH2 (I 48) n (sk (I 48) n q.1)))) 40 4) (y := (rH2 (I 48) n (sk (I 48) n q.1)).2) (sr_sj.trans (uS_4)) ?_
        refine lv_i2l (v := ((rH2 (I 48) n (sk (I 48) n q.1)).2).toInt64) hx hb dX8_takesHard_121 rfl ?_
        refine lv_lconst (v := 1) hx hb dX8_takesHard_122 rfl ?_
        refine lv_ldc2 (v := 19) hx hb hown (hts (.constantLong RX8 77 (19)) (by decide +kernel)) dX8_takesHard_123 ?_
        refine j_csi [.long (((rH2 (I 48) n (sk (I 48) n q.1)).2).toInt64), .long ((1 : Int64)), .long ((19 : Int64))] hC hB hl.1 (c_X8_in l_ G (sr I 40 (uS o n (rH2 (I 48) n (sk (I 48) n q.1)))) J O (((rH2 (I 48) n (sk (I 48) n q.1)).2).toInt64) ((1 : Int64)) ((19 : Int64))) (va_cwS 3 hts gX8_takesHard_X8_in rfl rfl rfl (by decide +kernel) ⟨by decide, by decide⟩) dX8_takesHard_126 rfl rfl (Nat.le_of_ble_eq_true rfl) (fun r_126 u_126 H locs hp_126 hB => ?_)
        obtain ⟨rfl, rfl⟩ := hp_126
        refine j_eqi (y := b2 (inR (((rH2 (I 48) n (sk (I 48) n q.1)).2).toInt64) ((1 : Int64)) ((19 : Int64)))) (rfl) ?_
        refine lv_istore_n (lv' := [(2, .int (b2 (inR (((rH2 (I 48) n (sk (I 48) n q.1)).2).toInt64) ((1 : Int64)) ((19 : Int64))))), (1, .int (nI (((sk (I 48) n q.1, q.2)).1))), (0, .ref (G.2.2.1 (20, 0, 0)))]) hx hb dX8_takesHard_129 rfl hl (by decide) rfl (fun ls hl => ?_)
        refine lv_aload_n hx hb dX8_takesHard_130 rfl (lv_at hl 2 rfl) ?_
        refine lv_iload_n hx hb dX8_takesHard_131 rfl (lv_at hl 0 rfl) ?_
        refine jb_if_eq (tgt := 142) hx hb dX8_takesHard_132 (by decide) (fun c_132 => ?_) (fun c_132 => ?_)
        · refine lv_iload_n hx hb dX8_takesHard_142 rfl (lv_at hl 1 rfl) ?_
          refine j_put (20, 0, 0) 13 (u2 (sr I 40 (uS o n (rH2 (I 48) n (sk (I 48) n q.1)))) 40 3 (nI (((sk (I 48) n q.1, q.2)).1)), J, O) (ty := .int) hC hB in_X8 tyX8_ok nmX8 lk_203 dX8_takesHard_143 jk20 rfl rfl (by decide) rfl (by decide +kernel) rfl rfl (Nat.le_of_ble_eq_true rfl) (fun z hz hne => jw_fr z hz hne) (rfl) (fun H locs hB => ?_)
          have hB : jB G A s_.heap (sr I 40 (upd (uS o n (rH2 (I 48) n (sk (I 48) n q.1))) 3 (nI (((sk (I 48) n q.1, q.2)).1))), J, O) H locs := by rw [show sr I 40 (upd (uS o n (rH2 (I 48) n (sk (I 48) n q.1))) 3 (nI (((sk (I 48) n q.1, q.2)).1))) = u2 (sr I 40 (uS o n (rH2 (I 48) n (sk (I 48) n q.1)))) 40 3 (nI (((sk (I 48) n q.1, q.2)).1)) from (u2_sr _ _ _ _ _).symm]; exact hB
          have hB : jB G A s_.heap (sr I 40 (uS o n (sk (I 48) n q.1, (rH2 (I 48) n (sk (I 48) n q.1)).2)), J, O) H locs := by rw [← show upd (uS o n (rH2 (I 48) n (sk (I 48) n q.1))) 3 (nI (((sk (I 48) n q.1, q.2)).1)) = uS o n (sk (I 48) n q.1, (rH2 (I 48) n (sk (I 48) n q.1)).2) from uS_p]; exact hB
          refine lv_iload_n hx hb dX8_takesHard_146 rfl (lv_at hl 0 rfl) ?_
          refine jb_if_eq (tgt := 187) hx hb dX8_takesHard_147 (by decide) (fun c_147 => ?_) (fun c_147 => ?_)
          · refine lv_iconst (v := nI 0) hx hb dX8_takesHard_187 (by decide) ?_
            exact j_zret hC hB dX8_takesHard_188 (by decide) (⟨by rw [rHa, if_pos c_14, if_neg (by rw [c_132]; decide)]; rfl, by rw [rHa, if_pos c_14, if_neg (by rw [c_132]; decide)]⟩)
          · exact absurd (c_147.symm.trans c_132) (by decide)
        · refine lv_aload_n hx hb dX8_takesHard_135 rfl (lv_at hl 2 rfl) ?_
          refine j_get (20, 0, 0) 13 (v := .int ((sr I 40 (uS o n (rH2 (I 48) n (sk (I 48) n q.1)))) 40 3)) hC hB in_X8 lk_203 dX8_takesHard_136 jk20 rfl rfl (by decide) rfl ?_
          refine j_eqi (x := (sr I 40 (uS o n (rH2 (I 48) n (sk (I 48) n q.1)))) 40 3) (y := nI ((rH2 (I 48) n (sk (I 48) n q.1)).1)) (sr_sj.trans (uS_3)) ?_
          refine lv_goto (tgt := 143) hx hb dX8_takesHard_139 (by decide) ?_
          refine j_put (20, 0, 0) 13 (u2 (sr I 40 (uS o n (rH2 (I 48) n (sk (I 48) n q.1)))) 40 3 (nI ((rH2 (I 48) n (sk (I 48) n q.1)).1)), J, O) (ty := .int) hC hB in_X8 tyX8_ok nmX8 lk_203 dX8_takesHard_143 jk20 rfl rfl (by decide) rfl (by decide +kernel) rfl rfl (Nat.le_of_ble_eq_true rfl) (fun z hz hne => jw_fr z hz hne) (rfl) (fun H locs hB => ?_)
          have hB : jB G A s_.heap (sr I 40 (upd (uS o n (rH2 (I 48) n (sk (I 48) n q.1))) 3 (nI ((rH2 (I 48) n (sk (I 48) n q.1)).1))), J, O) H locs := by rw [show sr I 40 (upd (uS o n (rH2 (I 48) n (sk (I 48) n q.1))) 3 (nI ((rH2 (I 48) n (sk (I 48) n q.1)).1))) = u2 (sr I 40 (uS o n (rH2 (I 48) n (sk (I 48) n q.1)))) 40 3 (nI ((rH2 (I 48) n (sk (I 48) n q.1)).1)) from (u2_sr _ _ _ _ _).symm]; exact hB
          have hB : jB G A s_.heap (sr I 40 (uS o n (rH2 (I 48) n (sk (I 48) n q.1))), J, O) H locs := by rw [← show upd (uS o n (rH2 (I 48) n (sk (I 48) n q.1))) 3 (nI ((rH2 (I 48) n (sk (I 48) n q.1)).1)) = uS o n (rH2 (I 48) n (sk (I 48) n q.1)) from uS_p]; exact hB
          refine lv_iload_n hx hb dX8_takesHard_146 rfl (lv_at hl 0 rfl) ?_
          refine jb_if_eq (tgt := 187) hx hb dX8_takesHard_147 (by decide) (fun c_147 => ?_) (fun c_147 => ?_)
          · exact absurd (c_147.symm.trans c_132) (by decide)
          · refine lv_aload_n hx hb dX8_takesHard_150 rfl (lv_at hl 2 rfl) ?_
            refine j_get (20, 0, 0) 13 (v := .int ((sr I 40 (uS o n (rH2 (I 48) n (sk (I 48) n q.1)))) 40 3)) hC hB in_X8 lk_203 dX8_takesHard_151 jk20 rfl rfl (by decide) rfl ?_
            refine j_eqi (x := (sr I 40 (uS o n (rH2 (I 48) n (sk (I 48) n q.1)))) 40 3) (y := nI ((rH2 (I 48) n (sk (I 48) n q.1)).1)) (sr_sj.trans (uS_3)) ?_
            refine lv_aload_n hx hb dX8_takesHard_154 rfl (lv_at hl 2 rfl) ?_
            refine j_get (20, 0, 0) 12 (v := .int ((sr I 40 (uS o n (rH2 (I 48) n (sk (I 48) n q.1)))) 40 2)) hC hB in_X8 lk_200 dX8_takesHard_155 jk20 rfl rfl (by decide) rfl ?_
            refine j_eqi (x := (sr I 40 (uS o n (rH2 (I 48) n (sk (I 48) n q.1)))) 40 2) (y := nI n) (sr_sj.trans (uS_2)) ?_
            refine jn_icmp_eq (tgt := 183) hx hb dX8_takesHard_158 (by decide) (by omega) (by omega) (fun c_158 => ?_) (fun c_158 => ?_)
            · refine lv_iconst (v := nI 1) hx hb dX8_takesHard_183 (by decide) ?_
              refine lv_goto (tgt := 188) hx hb dX8_takesHard_184 (by decide) ?_
              exact j_zret hC hB dX8_takesHard_188 (by decide) (⟨by rw [rHa, if_pos c_14, if_pos c_132]; rw [decide_eq_true c_158]; rfl, by rw [rHa, if_pos c_14, if_pos c_132]⟩)
            · refine lv_aload_n hx hb dX8_takesHard_161 rfl (lv_at hl 2 rfl) ?_
              refine j_get (20, 0, 0) 11 (v := .ref (G.2.2.1 (21, 48, 0))) hC hB in_X8 lk_38 dX8_takesHard_162 jk20 rfl rfl (by decide) rfl ?_
              refine lv_aload_n hx hb dX8_takesHard_165 rfl (lv_at hl 2 rfl) ?_
              refine j_get (20, 0, 0) 13 (v := .int ((sr I 40 (uS o n (rH2 (I 48) n (sk (I 48) n q.1)))) 40 3)) hC hB in_X8 lk_203 dX8_takesHard_166 jk20 rfl rfl (by decide) rfl ?_
              refine j_eqi (x := (sr I 40 (uS o n (rH2 (I 48) n (sk (I 48) n q.1)))) 40 3) (y := nI ((rH2 (I 48) n (sk (I 48) n q.1)).1)) (sr_sj.trans (uS_3)) ?_
              refine j_iLd 48 ((rH2 (I 48) n (sk (I 48) n q.1)).1) hC hB dX8_takesHard_169 (by decide) rfl (by simp only [lenI_48]; omega) ?_
              refine j_eqi (x := (sr I 40 (uS o n (rH2 (I 48) n (sk (I 48) n q.1)))) 48 ((rH2 (I 48) n (sk (I 48) n q.1)).1)) (y := (I 48) ((rH2 (I 48) n (sk (I 48) n q.1)).1)) ((sr_nj (show (48 : Nat) ≠ 40 by omega))) ?_
              refine lv_i2l (v := ((I 48) ((rH2 (I 48) n (sk (I 48) n q.1)).1)).toInt64) hx hb dX8_takesHard_170 rfl ?_
              refine lv_ldc2 (v := 48) hx hb hown (hts (.constantLong RX8 209 (48)) (by decide +kernel)) dX8_takesHard_171 ?_
              refine lv_ldc2 (v := 57) hx hb hown (hts (.constantLong RX8 214 (57)) (by decide +kernel)) dX8_takesHard_174 ?_
              refine j_csi [.long (((I 48) ((rH2 (I 48) n (sk (I 48) n q.1)).1)).toInt64), .long ((48 : Int64)), .long ((57 : Int64))] hC hB hl.1 (c_X8_in l_ G (sr I 40 (uS o n (rH2 (I 48) n (sk (I 48) n q.1)))) J O (((I 48) ((rH2 (I 48) n (sk (I 48) n q.1)).1)).toInt64) ((48 : Int64)) ((57 : Int64))) (va_cwS 3 hts gX8_takesHard_X8_in rfl rfl rfl (by decide +kernel) ⟨by decide, by decide⟩) dX8_takesHard_177 rfl rfl (Nat.le_of_ble_eq_true rfl) (fun r_177 u_177 H locs hp_177 hB => ?_)
              obtain ⟨rfl, rfl⟩ := hp_177
              refine j_eqi (y := b2 (inR (((I 48) ((rH2 (I 48) n (sk (I 48) n q.1)).1)).toInt64) ((48 : Int64)) ((57 : Int64)))) (rfl) ?_
              refine j_eqi (y := b2 (dgB (I 48 (rH2 (I 48) n (sk (I 48) n q.1)).1))) (rfl) ?_
              refine jb_if_ne (tgt := 187) hx hb dX8_takesHard_180 (by decide) (fun c_180 => ?_) (fun c_180 => ?_)
              · refine lv_iconst (v := nI 0) hx hb dX8_takesHard_187 (by decide) ?_
                exact j_zret hC hB dX8_takesHard_188 (by decide) (⟨by rw [rHa, if_pos c_14, if_pos c_132]; rw [decide_eq_false c_158, c_180]; rfl, by rw [rHa, if_pos c_14, if_pos c_132]⟩)
              · refine lv_iconst (v := nI 1) hx hb dX8_takesHard_183 (by decide) ?_
                refine lv_goto (tgt := 188) hx hb dX8_takesHard_184 (by decide) ?_
                exact j_zret hC hB dX8_takesHard_188 (by decide) (⟨by rw [rHa, if_pos c_14, if_pos c_132]; rw [decide_eq_false c_158, c_180]; rfl, by rw [rHa, if_pos c_14, if_pos c_132]⟩)
      · refine lv_aload_n hx hb dX8_takesHard_83 rfl (lv_at hl 1 rfl) ?_
        refine lv_bipush (v := nI 10) hx hb dX8_takesHard_84 (by decide) ?_
        refine lv_aload_n hx hb dX8_takesHard_86 rfl (lv_at hl 1 rfl) ?_
        refine j_get (20, 0, 0) 15 (v := .int ((sr I 40 (uS o n (sk (I 48) n q.1 + 1, I 48 (sk (I 48) n q.1) - nI 48))) 40 4)) hC hB in_X8 lk_211 dX8_takesHard_87 jk20 rfl rfl (by decide) rfl ?_
        refine j_eqi (x := (sr I 40 (uS o n (sk (I 48) n q.1 + 1, I 48 (sk (I 48) n q.1) - nI 48))) 40 4) (y := (sk (I 48) n q.1 + 1, I 48 (sk (I 48) n q.1) - nI 48).2) (sr_sj.trans (uS_4)) ?_
        refine lv_imul hx hb dX8_takesHard_90 ?_
        refine lv_aload_n hx hb dX8_takesHard_91 rfl (lv_at hl 1 rfl) ?_
        refine j_get (20, 0, 0) 11 (v := .ref (G.2.2.1 (21, 48, 0))) hC hB in_X8 lk_38 dX8_takesHard_92 jk20 rfl rfl (by decide) rfl ?_
        refine lv_aload_n hx hb dX8_takesHard_95 rfl (lv_at hl 1 rfl) ?_
        refine j_get (20, 0, 0) 13 (v := .int ((sr I 40 (uS o n (sk (I 48) n q.1 + 1, I 48 (sk (I 48) n q.1) - nI 48))) 40 3)) hC hB in_X8 lk_203 dX8_takesHard_96 jk20 rfl rfl (by decide) rfl ?_
        refine j_eqi (x := (sr I 40 (uS o n (sk (I 48) n q.1 + 1, I 48 (sk (I 48) n q.1) - nI 48))) 40 3) (y := nI ((sk (I 48) n q.1 + 1, I 48 (sk (I 48) n q.1) - nI 48).1)) (sr_sj.trans (uS_3)) ?_
        refine j_iLd 48 ((sk (I 48) n q.1 + 1, I 48 (sk (I 48) n q.1) - nI 48).1) hC hB dX8_takesHard_99 (by decide) rfl (by simp only [lenI_48]; omega) ?_
        refine j_eqi (x := (sr I 40 (uS o n (sk (I 48) n q.1 + 1, I 48 (sk (I 48) n q.1) - nI 48))) 48 ((sk (I 48) n q.1 + 1, I 48 (sk (I 48) n q.1) - nI 48).1)) (y := (I 48) ((sk (I 48) n q.1 + 1, I 48 (sk (I 48) n q.1) - nI 48).1)) ((sr_nj (show (48 : Nat) ≠ 40 by omega))) ?_
        refine lv_iadd hx hb dX8_takesHard_100 ?_
        refine lv_bipush (v := nI 48) hx hb dX8_takesHard_101 (by decide) ?_
        refine lv_isub hx hb dX8_takesHard_103 ?_
        refine j_put (20, 0, 0) 15 (u2 (sr I 40 (uS o n (sk (I 48) n q.1 + 1, I 48 (sk (I 48) n q.1) - nI 48))) 40 4 ((((nI 10) * ((sk (I 48) n q.1 + 1, I 48 (sk (I 48) n q.1) - nI 48).2)) + ((I 48) ((sk (I 48) n q.1 + 1, I 48 (sk (I 48) n q.1) - nI 48).1))) - (nI 48)), J, O) (ty := .int) hC hB in_X8 tyX8_ok nmX8 lk_211 dX8_takesHard_104 jk20 rfl rfl (by decide) rfl (by decide +kernel) rfl rfl (Nat.le_of_ble_eq_true rfl) (fun z hz hne => jw_fr z hz hne) (rfl) (fun H locs hB => ?_)
        have hB : jB G A s_.heap (sr I 40 (upd (uS o n (sk (I 48) n q.1 + 1, I 48 (sk (I 48) n q.1) - nI 48)) 4 ((((nI 10) * ((sk (I 48) n q.1 + 1, I 48 (sk (I 48) n q.1) - nI 48).2)) + ((I 48) ((sk (I 48) n q.1 + 1, I 48 (sk (I 48) n q.1) - nI 48).1))) - (nI 48))), J, O) H locs := by rw [show sr I 40 (upd (uS o n (sk (I 48) n q.1 + 1, I 48 (sk (I 48) n q.1) - nI 48)) 4 ((((nI 10) * ((sk (I 48) n q.1 + 1, I 48 (sk (I 48) n q.1) - nI 48).2)) + ((I 48) ((sk (I 48) n q.1 + 1, I 48 (sk (I 48) n q.1) - nI 48).1))) - (nI 48))) = u2 (sr I 40 (uS o n (sk (I 48) n q.1 + 1, I 48 (sk (I 48) n q.1) - nI 48))) 40 4 ((((nI 10) * ((sk (I 48) n q.1 + 1, I 48 (sk (I 48) n q.1) - nI 48).2)) + ((I 48) ((sk (I 48) n q.1 + 1, I 48 (sk (I 48) n q.1) - nI 48).1))) - (nI 48)) from (u2_sr _ _ _ _ _).symm]; exact hB
        have hB : jB G A s_.heap (sr I 40 (uS o n (sk (I 48) n q.1 + 1, nI 10 * (I 48 (sk (I 48) n q.1) - nI 48) + I 48 (sk (I 48) n q.1 + 1) - nI 48)), J, O) H locs := by rw [← show upd (uS o n (sk (I 48) n q.1 + 1, I 48 (sk (I 48) n q.1) - nI 48)) 4 ((((nI 10) * ((sk (I 48) n q.1 + 1, I 48 (sk (I 48) n q.1) - nI 48).2)) + ((I 48) ((sk (I 48) n q.1 + 1, I 48 (sk (I 48) n q.1) - nI 48).1))) - (nI 48)) = uS o n (sk (I 48) n q.1 + 1, nI 10 * (I 48 (sk (I 48) n q.1) - nI 48) + I 48 (sk (I 48) n q.1 + 1) - nI 48) from uS_v]; exact hB
        refine lv_aload_n hx hb dX8_takesHard_107 rfl (lv_at hl 1 rfl) ?_
        refine lv_dup hx hb dX8_takesHard_108 rfl ?_
        refine j_get (20, 0, 0) 13 (v := .int ((sr I 40 (uS o n (sk (I 48) n q.1 + 1, nI 10 * (I 48 (sk (I 48) n q.1) - nI 48) + I 48 (sk (I 48) n q.1 + 1) - nI 48))) 40 3)) hC hB in_X8 lk_203 dX8_takesHard_109 jk20 rfl rfl (by decide) rfl ?_
        refine j_eqi (x := (sr I 40 (uS o n (sk (I 48) n q.1 + 1, nI 10 * (I 48 (sk (I 48) n q.1) - nI 48) + I 48 (sk (I 48) n q.1 + 1) - nI 48))) 40 3) (y := nI ((sk (I 48) n q.1 + 1, nI 10 * (I 48 (sk (I 48) n q.1) - nI 48) + I 48 (sk (I 48) n q.1 + 1) - nI 48).1)) (sr_sj.trans (uS_3)) ?_
        refine lv_iconst (v := nI 1) hx hb dX8_takesHard_112 (by decide) ?_
        refine jn_iadd hx hb dX8_takesHard_113 ?_
        refine j_put (20, 0, 0) 13 (u2 (sr I 40 (uS o n (sk (I 48) n q.1 + 1, nI 10 * (I 48 (sk (I 48) n q.1) - nI 48) + I 48 (sk (I 48) n q.1 + 1) - nI 48))) 40 3 (nI ((sk (I 48) n q.1 + 1, nI 10 * (I 48 (sk (I 48) n q.1) - nI 48) + I 48 (sk (I 48) n q.1 + 1) - nI 48).1 + 1)), J, O) (ty := .int) hC hB in_X8 tyX8_ok nmX8 lk_203 dX8_takesHard_114 jk20 rfl rfl (by decide) rfl (by decide +kernel) rfl rfl (Nat.le_of_ble_eq_true rfl) (fun z hz hne => jw_fr z hz hne) (rfl) (fun H locs hB => ?_)
        have hB : jB G A s_.heap (sr I 40 (upd (uS o n (sk (I 48) n q.1 + 1, nI 10 * (I 48 (sk (I 48) n q.1) - nI 48) + I 48 (sk (I 48) n q.1 + 1) - nI 48)) 3 (nI ((sk (I 48) n q.1 + 1, nI 10 * (I 48 (sk (I 48) n q.1) - nI 48) + I 48 (sk (I 48) n q.1 + 1) - nI 48).1 + 1))), J, O) H locs := by rw [show sr I 40 (upd (uS o n (sk (I 48) n q.1 + 1, nI 10 * (I 48 (sk (I 48) n q.1) - nI 48) + I 48 (sk (I 48) n q.1 + 1) - nI 48)) 3 (nI ((sk (I 48) n q.1 + 1, nI 10 * (I 48 (sk (I 48) n q.1) - nI 48) + I 48 (sk (I 48) n q.1 + 1) - nI 48).1 + 1))) = u2 (sr I 40 (uS o n (sk (I 48) n q.1 + 1, nI 10 * (I 48 (sk (I 48) n q.1) - nI 48) + I 48 (sk (I 48) n q.1 + 1) - nI 48))) 40 3 (nI ((sk (I 48) n q.1 + 1, nI 10 * (I 48 (sk (I 48) n q.1) - nI 48) + I 48 (sk (I 48) n q.1 + 1) - nI 48).1 + 1)) from (u2_sr _ _ _ _ _).symm]; exact hB
        have hB : jB G A s_.heap (sr I 40 (uS o n (sk (I 48) n q.1 + 1 + 1, nI 10 * (I 48 (sk (I 48) n q.1) - nI 48) + I 48 (sk (I 48) n q.1 + 1) - nI 48)), J, O) H locs := by rw [← show upd (uS o n (sk (I 48) n q.1 + 1, nI 10 * (I 48 (sk (I 48) n q.1) - nI 48) + I 48 (sk (I 48) n q.1 + 1) - nI 48)) 3 (nI ((sk (I 48) n q.1 + 1, nI 10 * (I 48 (sk (I 48) n q.1) - nI 48) + I 48 (sk (I 48) n q.1 + 1) - nI 48).1 + 1)) = uS o n (sk (I 48) n q.1 + 1 + 1, nI 10 * (I 48 (sk (I 48) n q.1) - nI 48) + I 48 (sk (I 48) n q.1 + 1) - nI 48) from uS_p]; exact hB
        have hB : jB G A s_.heap (sr I 40 (uS o n (rH2 (I 48) n (sk (I 48) n q.1))), J, O) H locs := by rw [← show uS o n (sk (I 48) n q.1 + 1 + 1, nI 10 * (I 48 (sk (I 48) n q.1) - nI 48) + I 48 (sk (I 48) n q.1 + 1) - nI 48) = uS o n (rH2 (I 48) n (sk (I 48) n q.1)) from by rw [rH2, if_pos ⟨c_58, c_80⟩]]; exact hB
        have hh2 := rH2_le (t := I 48) hk
        refine lv_aload_n hx hb dX8_takesHard_117 rfl (lv_at hl 1 rfl) ?_
        refine j_get (20, 0, 0) 15 (v := .int ((sr I 40 (uS o n (rH2 (I 48) n (sk (I 48) n q.1)))) 40 4)) hC hB in_X8 lk_211 dX8_takesHard_118 jk20 rfl rfl (by decide) rfl ?_
        refine j_eqi (x := (sr I 40 (uS o n (rH2 (I 48) n (sk (I 48) n q.1)))) 40 4) (y := (rH2 (I 48) n (sk (I 48) n q.1)).2) (sr_sj.trans (uS_4)) ?_
        refine lv_i2l (v := ((rH2 (I 48) n (sk (I 48) n q.1)).2).toInt64) hx hb dX8_takesHard_121 rfl ?_
        refine lv_lconst (v := 1) hx hb dX8_takesHard_122 rfl ?_
        refine lv_ldc2 (v := 19) hx hb hown (hts (.constantLong RX8 77 (19)) (by decide +kernel)) dX8_takesHard_123 ?_
        refine j_csi [.long (((rH2 (I 48) n (sk (I 48) n q.1)).2).toInt64), .long ((1 : Int64)), .long ((19 : Int64))] hC hB hl.1 (c_X8_in l_ G (sr I 40 (uS o n (rH2 (I 48) n (sk (I 48) n q.1)))) J O (((rH2 (I 48) n (sk (I 48) n q.1)).2).toInt64) ((1 : Int64)) ((19 : Int64))) (va_cwS 3 hts gX8_takesHard_X8_in rfl rfl rfl (by decide +kernel) ⟨by decide, by decide⟩) dX8_takesHard_126 rfl rfl (Nat.le_of_ble_eq_true rfl) (fun r_126 u_126 H locs hp_126 hB => ?_)
        obtain ⟨rfl, rfl⟩ := hp_126
        refine j_eqi (y := b2 (inR (((rH2 (I 48) n (sk (I 48) n q.1)).2).toInt64) ((1 : Int64)) ((19 : Int64)))) (rfl) ?_
        refine lv_istore_n (lv' := [(2, .int (b2 (inR (((rH2 (I 48) n (sk (I 48) n q.1)).2).toInt64) ((1 : Int64)) ((19 : Int64))))), (1, .int (nI (((sk (I 48) n q.1, q.2)).1))), (0, .ref (G.2.2.1 (20, 0, 0)))]) hx hb dX8_takesHard_129 rfl hl (by decide) rfl (fun ls hl => ?_)
        refine lv_aload_n hx hb dX8_takesHard_130 rfl (lv_at hl 2 rfl) ?_
        refine lv_iload_n hx hb dX8_takesHard_131 rfl (lv_at hl 0 rfl) ?_
        refine jb_if_eq (tgt := 142) hx hb dX8_takesHard_132 (by decide) (fun c_132 => ?_) (fun c_132 => ?_)
        · refine lv_iload_n hx hb dX8_takesHard_142 rfl (lv_at hl 1 rfl) ?_
          refine j_put (20, 0, 0) 13 (u2 (sr I 40 (uS o n (rH2 (I 48) n (sk (I 48) n q.1)))) 40 3 (nI (((sk (I 48) n q.1, q.2)).1)), J, O) (ty := .int) hC hB in_X8 tyX8_ok nmX8 lk_203 dX8_takesHard_143 jk20 rfl rfl (by decide) rfl (by decide +kernel) rfl rfl (Nat.le_of_ble_eq_true rfl) (fun z hz hne => jw_fr z hz hne) (rfl) (fun H locs hB => ?_)
          have hB : jB G A s_.heap (sr I 40 (upd (uS o n (rH2 (I 48) n (sk (I 48) n q.1))) 3 (nI (((sk (I 48) n q.1, q.2)).1))), J, O) H locs := by rw [show sr I 40 (upd (uS o n (rH2 (I 48) n (sk (I 48) n q.1))) 3 (nI (((sk (I 48) n q.1, q.2)).1))) = u2 (sr I 40 (uS o n (rH2 (I 48) n (sk (I 48) n q.1)))) 40 3 (nI (((sk (I 48) n q.1, q.2)).1)) from (u2_sr _ _ _ _ _).symm]; exact hB
          have hB : jB G A s_.heap (sr I 40 (uS o n (sk (I 48) n q.1, (rH2 (I 48) n (sk (I 48) n q.1)).2)), J, O) H locs := by rw [← show upd (uS o n (rH2 (I 48) n (sk (I 48) n q.1))) 3 (nI (((sk (I 48) n q.1, q.2)).1)) = uS o n (sk (I 48) n q.1, (rH2 (I 48) n (sk (I 48) n q.1)).2) from uS_p]; exact hB
          refine lv_iload_n hx hb dX8_takesHard_146 rfl (lv_at hl 0 rfl) ?_
          refine jb_if_eq (tgt := 187) hx hb dX8_takesHard_147 (by decide) (fun c_147 => ?_) (fun c_147 => ?_)
          · refine lv_iconst (v := nI 0) hx hb dX8_takesHard_187 (by decide) ?_
            exact j_zret hC hB dX8_takesHard_188 (by decide) (⟨by rw [rHa, if_pos c_14, if_neg (by rw [c_132]; decide)]; rfl, by rw [rHa, if_pos c_14, if_neg (by rw [c_132]; decide)]⟩)
          · exact absurd (c_147.symm.trans c_132) (by decide)
        · refine lv_aload_n hx hb dX8_takesHard_135 rfl (lv_at hl 2 rfl) ?_
          refine j_get (20, 0, 0) 13 (v := .int ((sr I 40 (uS o n (rH2 (I 48) n (sk (I 48) n q.1)))) 40 3)) hC hB in_X8 lk_203 dX8_takesHard_136 jk20 rfl rfl (by decide) rfl ?_
          refine j_eqi (x := (sr I 40 (uS o n (rH2 (I 48) n (sk (I 48) n q.1)))) 40 3) (y := nI ((rH2 (I 48) n (sk (I 48) n q.1)).1)) (sr_sj.trans (uS_3)) ?_
          refine lv_goto (tgt := 143) hx hb dX8_takesHard_139 (by decide) ?_
          refine j_put (20, 0, 0) 13 (u2 (sr I 40 (uS o n (rH2 (I 48) n (sk (I 48) n q.1)))) 40 3 (nI ((rH2 (I 48) n (sk (I 48) n q.1)).1)), J, O) (ty := .int) hC hB in_X8 tyX8_ok nmX8 lk_203 dX8_takesHard_143 jk20 rfl rfl (by decide) rfl (by decide +kernel) rfl rfl (Nat.le_of_ble_eq_true rfl) (fun z hz hne => jw_fr z hz hne) (rfl) (fun H locs hB => ?_)
          have hB : jB G A s_.heap (sr I 40 (upd (uS o n (rH2 (I 48) n (sk (I 48) n q.1))) 3 (nI ((rH2 (I 48) n (sk (I 48) n q.1)).1))), J, O) H locs := by rw [show sr I 40 (upd (uS o n (rH2 (I 48) n (sk (I 48) n q.1))) 3 (nI ((rH2 (I 48) n (sk (I 48) n q.1)).1))) = u2 (sr I 40 (uS o n (rH2 (I 48) n (sk (I 48) n q.1)))) 40 3 (nI ((rH2 (I 48) n (sk (I 48) n q.1)).1)) from (u2_sr _ _ _ _ _).symm]; exact hB
          have hB : jB G A s_.heap (sr I 40 (uS o n (rH2 (I 48) n (sk (I 48) n q.1))), J, O) H locs := by rw [← show upd (uS o n (rH2 (I 48) n (sk (I 48) n q.1))) 3 (nI ((rH2 (I 48) n (sk (I 48) n q.1)).1)) = uS o n (rH2 (I 48) n (sk (I 48) n q.1)) from uS_p]; exact hB
          refine lv_iload_n hx hb dX8_takesHard_146 rfl (lv_at hl 0 rfl) ?_
          refine jb_if_eq (tgt := 187) hx hb dX8_takesHard_147 (by decide) (fun c_147 => ?_) (fun c_147 => ?_)
          · exact absurd (c_147.symm.trans c_132) (by decide)
          · refine lv_aload_n hx hb dX8_takesHard_150 rfl (lv_at hl 2 rfl) ?_
            refine j_get (20, 0, 0) 13 (v := .int ((sr I 40 (uS o n (rH2 (I 48) n (sk (I 48) n q.1)))) 40 3)) hC hB in_X8 lk_203 dX8_takesHard_151 jk20 rfl rfl (by decide) rfl ?_
            refine j_eqi (x := (sr I 40 (uS o n (rH2 (I 48) n (sk (I 48) n q.1)))) 40 3) (y := nI ((rH2 (I 48) n (sk (I 48) n q.1)).1)) (sr_sj.trans (uS_3)) ?_
            refine lv_aload_n hx hb dX8_takesHard_154 rfl (lv_at hl 2 rfl) ?_
            refine j_get (20, 0, 0) 12 (v := .int ((sr I 40 (uS o n (rH2 (I 48) n (sk (I 48) n q.1)))) 40 2)) hC hB in_X8 lk_200 dX8_takesHard_155 jk20 rfl rfl (by decide) rfl ?_
            refine j_eqi (x := (sr I 40 (uS o n (rH2 (I 48) n (sk (I 48) n q.1)))) 40 2) (y := nI n) (sr_sj.trans (uS_2)) ?_
            refine jn_icmp_eq (tgt := 183) hx hb dX8_takesHard_158 (by decide) (by omega) (by omega) (fun c_158 => ?_) (fun c_158 => ?_)
            · refine lv_iconst (v := nI 1) hx hb dX8_takesHard_183 (by decide) ?_
              refine lv_goto (tgt := 188) hx hb dX8_takesHard_184 (by decide) ?_
              exact j_zret hC hB dX8_takesHard_188 (by decide) (⟨by rw [rHa, if_pos c_14, if_pos c_132]; rw [decide_eq_true c_158]; rfl, by rw [rHa, if_pos c_14, if_pos c_132]⟩)
            · refine lv_aload_n hx hb dX8_takesHard_161 rfl (lv_at hl 2 rfl) ?_
              refine j_get (20, 0, 0) 11 (v := .ref (G.2.2.1 (21, 48, 0))) hC hB in_X8 lk_38 dX8_takesHard_162 jk20 rfl rfl (by decide) rfl ?_
              refine lv_aload_n hx hb dX8_takesHard_165 rfl (lv_at hl 2 rfl) ?_
              refine j_get (20, 0, 0) 13 (v := .int ((sr I 40 (uS o n (rH2 (I 48) n (sk (I 48) n q.1)))) 40 3)) hC hB in_X8 lk_203 dX8_takesHard_166 jk20 rfl rfl (by decide) rfl ?_
              refine j_eqi (x := (sr I 40 (uS o n (rH2 (I 48) n (sk (I 48) n q.1)))) 40 3) (y := nI ((rH2 (I 48) n (sk (I 48) n q.1)).1)) (sr_sj.trans (uS_3)) ?_
              refine j_iLd 48 ((rH2 (I 48) n (sk (I 48) n q.1)).1) hC hB dX8_takesHard_169 (by decide) rfl (by simp only [lenI_48]; omega) ?_
              refine j_eqi (x := (sr I 40 (uS o n (rH2 (I 48) n (sk (I 48) n q.1)))) 48 ((rH2 (I 48) n (sk (I 48) n q.1)).1)) (y := (I 48) ((rH2 (I 48) n (sk (I 48) n q.1)).1)) ((sr_nj (show (48 : Nat) ≠ 40 by omega))) ?_
              refine lv_i2l (v := ((I 48) ((rH2 (I 48) n (sk (I 48) n q.1)).1)).toInt64) hx hb dX8_takesHard_170 rfl ?_
              refine lv_ldc2 (v := 48) hx hb hown (hts (.constantLong RX8 209 (48)) (by decide +kernel)) dX8_takesHard_171 ?_
              refine lv_ldc2 (v := 57) hx hb hown (hts (.constantLong RX8 214 (57)) (by decide +kernel)) dX8_takesHard_174 ?_
              refine j_csi [.long (((I 48) ((rH2 (I 48) n (sk (I 48) n q.1)).1)).toInt64), .long ((48 : Int64)), .long ((57 : Int64))] hC hB hl.1 (c_X8_in l_ G (sr I 40 (uS o n (rH2 (I 48) n (sk (I 48) n q.1)))) J O (((I 48) ((rH2 (I 48) n (sk (I 48) n q.1)).1)).toInt64) ((48 : Int64)) ((57 : Int64))) (va_cwS 3 hts gX8_takesHard_X8_in rfl rfl rfl (by decide +kernel) ⟨by decide, by decide⟩) dX8_takesHard_177 rfl rfl (Nat.le_of_ble_eq_true rfl) (fun r_177 u_177 H locs hp_177 hB => ?_)
              obtain ⟨rfl, rfl⟩ := hp_177
              refine j_eqi (y := b2 (inR (((I 48) ((rH2 (I 48) n (sk (I 48) n q.1)).1)).toInt64) ((48 : Int64)) ((57 : Int64)))) (rfl) ?_
              refine j_eqi (y := b2 (dgB (I 48 (rH2 (I 48) n (sk (I 48) n q.1)).1))) (rfl) ?_
              refine jb_if_ne (tgt := 187) hx hb dX8_takesHard_180 (by decide) (fun c_180 => ?_) (fun c_180 => ?_)
              · refine lv_iconst (v := nI 0) hx hb dX8_takesHard_187 (by decide) ?_
                exact j_zret hC hB dX8_takesHard_188 (by decide) (⟨by rw [rHa, if_pos c_14, if_pos c_132]; rw [decide_eq_false c_158, c_180]; rfl, by rw [rHa, if_pos c_14, if_pos c_132]⟩)
              · refine lv_iconst (v := nI 1) hx hb dX8_takesHard_183 (by decide) ?_
                refine lv_goto (tgt := 188) hx hb dX8_takesHard_184 (by decide) ?_
                exact j_zret hC hB dX8_takesHard_188 (by decide) (⟨by rw [rHa, if_pos c_14, if_pos c_132]; rw [decide_eq_false c_158, c_180]; rfl, by rw [rHa, if_pos c_14, if_pos c_132]⟩)
  · refine lv_iconst (v := nI 0) hx hb dX8_takesHard_17 (by decide) ?_
    exact j_zret hC hB dX8_takesHard_18 (by decide) (⟨by rw [rHa, if_neg (by rw [c_14]; decide)]; rfl, by rw [rHa, if_neg (by rw [c_14]; decide)]⟩)
