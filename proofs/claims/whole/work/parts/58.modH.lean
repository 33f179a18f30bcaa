set_option maxHeartbeats 4000000 in
set_option maxRecDepth 100000 in
theorem c_X8_drift (l_ : Launch) (G : jG) (I : Nat → Nat → Int32) (J : Nat → Nat → Int64) (O : Nat → Nat → Nat) (n : Int32) {nd : Nat} (hnd : nd ≤ 10) (hD : I 41 0 = nI nd) {nm : Nat} (hnm : nm ≤ 4) (hM : I 41 1 = nI nm) {h : Nat} (hh : h ≤ 8) (hH : I 41 2 = nI h) : jMi l_ G yX8_drift wsX8_drift ({ frames := 4, cells := 0, slots := 0, locals := 96 }) [.ref (G.2.2.1 (20, 0, 0)), .int n] (I, J, O) (fun r u => r = driA (I 41) nd nm n ∧ u = (sr I 41 (driR (I 41) nd nm n), J, O)) := by
  refine jMi_of (cc := cX8_drift) (maxL := 3) (ret := (some .int)) (lv0 := [(0, .ref (G.2.2.1 (20, 0, 0))), (1, .int n)]) (by decide) rfl (Nat.le_of_ble_eq_true rfl) rfl ?_
  intro pg_ ev_ s_ mi_ below meth cd_ A ls hC hB hl
  obtain ⟨hx, hb, hr, hml, hown, hts, hlocks, hK, hA⟩ := id hC
  have lk_7 := hts (.fieldLink RX8 7 "RiddlePrisonModel" "now" "[I") (by decide +kernel)
  have in_X8 := (fun w h => List.mem_cons_of_mem _ (List.mem_append_right _ h) : ∀ w ∈ wsX80, w ∈ wsX8_drift)
  refine lv_iload_n hx hb dX8_drift_0 rfl (lv_at hl 1 rfl) ?_
  refine lv_i2l (v := n.toInt64) hx hb dX8_drift_1 rfl ?_
  refine lv_lconst (v := 1) hx hb dX8_drift_2 rfl ?_
  refine lv_ldc2 (v := 40) hx hb hown (hts (.constantLong RX8 135 (40)) (by decide +kernel)) dX8_drift_3 ?_
  refine j_csi [.long n.toInt64, .long ((1 : Int64)), .long ((40 : Int64))] hC hB hl.1 (c_X8_in l_ G I J O n.toInt64 ((1 : Int64)) ((40 : Int64))) (va_cwS 3 hts gX8_drift_X8_in rfl rfl rfl (by decide +kernel) ⟨by decide, by decide⟩) dX8_drift_6 rfl rfl (Nat.le_of_ble_eq_true rfl) (fun r_6 u_6 H locs hp_6 hB => ?_)
  obtain ⟨rfl, rfl⟩ := hp_6
  refine jb_if_ne (tgt := 14) hx hb dX8_drift_9 (by decide) (fun c_9 => ?_) (fun c_9 => ?_)
  · obtain ⟨nn, hnnl, hnn, rfl⟩ := inR_rng (lo := 1) (hi := 40) (by decide) (by decide) (by decide) c_9
    refine lv_iconst (v := nI 0) hx hb dX8_drift_14 (by decide) ?_
    refine lv_istore_n (lv' := [(2, .int (nI 0)), (0, .ref (G.2.2.1 (20, 0, 0))), (1, .int (nI nn))]) hx hb dX8_drift_15 rfl hl (by decide) rfl (fun ls hl => ?_)
    have lp_16 : ∀ (fu : Nat) (f : Nat → Int32) (u_ : Nat) (k : Nat), nn - k < fu → (k ≤ nn) → (f = drN (I 41) nd nm k) → (f 0 = nI nd) → (f 1 = nI nm) → (f 2 = nI u_) → (u_ ≤ 8) → ∀ H locs ls, jB G A s_.heap (sr I 41 (f), J, O) H locs → lv_has ls 3 [(2, .int (nI k)), (0, .ref (G.2.2.1 (20, 0, 0))), (1, .int (nI nn))] → W pg_ l_ ev_ ({ frames := 4, cells := 0, slots := 0, locals := 96 }) s_ mi_ ([.ref (G.2.2.1 (20, 0, 0)), .int (nI nn)]).toArray below meth cd_ H locs 0 0 (jQi G A below [.ref (G.2.2.1 (20, 0, 0)), .int (nI nn)] s_ (fun r u => r = driA (I 41) nd nm (nI nn) ∧ u = (sr I 41 (driR (I 41) nd nm (nI nn)), J, O))) (F0 mi_ 16 ls []) := by
      intro fu
      induction fu with
      | zero => intro f u_ k hf; exact absurd hf (Nat.not_lt_zero _)
      | succ fu ih_16 =>
        intro f u_ k hf_16 hk hf h0 h1 hu hu8 H locs ls hB hl
        refine lv_iload_n hx hb dX8_drift_16 rfl (lv_at hl 0 rfl) ?_
        refine lv_iload_n hx hb dX8_drift_17 rfl (lv_at hl 2 rfl) ?_
        refine jn_icmp_ge (tgt := 116) hx hb dX8_drift_18 (by decide) (by omega) (by omega) (fun c_18 => ?_) (fun c_18 => ?_)
        · refine lv_aload_n hx hb dX8_drift_116 rfl (lv_at hl 1 rfl) ?_
          refine j_cvi (20, 0, 0) [] hC hB hl.1 (c_X8_failedAll l_ G (sr I 41 (f)) J O  (by omega) (sr_sj.trans (h1))) (cwV 0 hts gX8_drift_X8_failedAll rfl rfl rfl (by decide +kernel) ⟨by decide, by decide⟩) dX8_drift_117 jk20 rfl rfl rfl rfl (Nat.le_of_ble_eq_true rfl) (fun r_117 u_117 H locs hp_117 hB => ?_)
          obtain ⟨rfl, rfl⟩ := hp_117
          refine j_eqi (y := fsF (f) nm) (rfl) ?_
          exact j_iret hC hB dX8_drift_120 (⟨by rw [hf, show k = nn by omega]; simp [driA, c_9, nIc (show nn < 2147483648 by omega)], by rw [hf, show k = nn by omega]; simp [driR, c_9, nIc (show nn < 2147483648 by omega)]⟩)
        · refine lv_aload_n hx hb dX8_drift_21 rfl (lv_at hl 1 rfl) ?_
          refine j_cvv (20, 0, 0) [] hC hB hl.1 (c_X8_keep l_ G (sr I 41 (f)) J O  (by omega) (sr_sj.trans (hu))) (cwV 0 hts gX8_drift_X8_keep rfl rfl rfl (by decide +kernel) ⟨by decide, by decide⟩) dX8_drift_22 jk20 rfl rfl rfl rfl (Nat.le_of_ble_eq_true rfl) (fun u_22 H locs hp_22 hB => ?_)
          obtain rfl := hp_22
          have hB : jB G A s_.heap (sr I 41 (keepR (f)), J, O) H locs := by (rw [show sr I 41 (keepR (f)) = sr (sr I 41 (f)) 41 (keepR (f)) from by funext a; simp +decide only [sr]; (repeat' split) <;> first | rfl | (exfalso; omega) | (subst_vars; rfl)]; exact hB)
          refine lv_aload_n hx hb dX8_drift_25 rfl (lv_at hl 1 rfl) ?_
          refine j_get (20, 0, 0) 0 (v := .ref (G.2.2.1 (21, 41, 0))) hC hB in_X8 lk_7 dX8_drift_26 jk20 rfl rfl (by decide) rfl ?_
          refine lv_bipush (v := nI 67) hx hb dX8_drift_29 (by decide) ?_
          refine lv_aload_n hx hb dX8_drift_31 rfl (lv_at hl 1 rfl) ?_
          refine j_get (20, 0, 0) 0 (v := .ref (G.2.2.1 (21, 41, 0))) hC hB in_X8 lk_7 dX8_drift_32 jk20 rfl rfl (by decide) rfl ?_
          refine lv_bipush (v := nI 67) hx hb dX8_drift_35 (by decide) ?_
          refine j_iLd 41 67 hC hB dX8_drift_37 (by decide) rfl (by simp only [lenI_41]; omega) ?_
          refine j_eqi (x := (sr I 41 (keepR (f))) 41 67) (y := (keepR (f)) 67) (sr_sj) ?_
          refine lv_i2l (v := ((keepR (f)) 67).toInt64) hx hb dX8_drift_38 rfl ?_
          refine lv_ldc2 (v := 1103515245) hx hb hown (hts (.constantLong RX8 137 (1103515245)) (by decide +kernel)) dX8_drift_39 ?_
          refine lv_lmul hx hb dX8_drift_42 ?_
          refine lv_ldc2 (v := 12345) hx hb hown (hts (.constantLong RX8 139 (12345)) (by decide +kernel)) dX8_drift_43 ?_
          refine lv_ladd hx hb dX8_drift_46 ?_
          refine lv_ldc2 (v := 2147483647) hx hb hown (hts (.constantLong RX8 141 (2147483647)) (by decide +kernel)) dX8_drift_47 ?_
          refine lv_land hx hb dX8_drift_50 ?_
          refine lv_l2i (v := ((((((keepR (f)) 67).toInt64) * ((1103515245 : Int64))) + ((12345 : Int64))) &&& ((2147483647 : Int64))).toInt32) hx hb dX8_drift_51 rfl ?_
          refine j_eqi (y := drawF (keepR f 67)) (rfl) ?_
          refine j_iSt 41 67 hC hB dX8_drift_52 (by decide) rfl (by simp only [lenI_41]; omega) (fun H locs hB => ?_)
          have hB : jB G A s_.heap (sr I 41 (upd (keepR (f)) 67 (drawF (keepR f 67))), J, O) H locs := by rw [show sr I 41 (upd (keepR (f)) 67 (drawF (keepR f 67))) = u2 (sr I 41 (keepR (f))) 41 67 (drawF (keepR f 67)) from (u2_sr _ _ _ _ _).symm]; exact hB
          obtain ⟨w, hw, ew⟩ := drawF_nat (keepR f 67)
          refine lv_aload_n hx hb dX8_drift_53 rfl (lv_at hl 1 rfl) ?_
          refine j_get (20, 0, 0) 0 (v := .ref (G.2.2.1 (21, 41, 0))) hC hB in_X8 lk_7 dX8_drift_54 jk20 rfl rfl (by decide) rfl ?_
          refine lv_iconst (v := nI 1) hx hb dX8_drift_57 (by decide) ?_
          refine j_iLd 41 1 hC hB dX8_drift_58 (by decide) rfl (by simp only [lenI_41]; omega) ?_
          refine j_eqi (x := (sr I 41 (upd (keepR (f)) 67 (drawF (keepR f 67)))) 41 1) (y := nI nm) (sr_sj.trans ((pk_un (show (1 : Nat) ≠ 67 by omega)).trans ((keepR_lo _ (by decide) (by decide)).trans (h1)))) ?_
          refine jn_if_le (tgt := 110) hx hb dX8_drift_59 (by decide) (by omega) (fun c_59 => ?_) (fun c_59 => ?_)
          · have hB : jB G A s_.heap (sr I 41 (drStep f nd nm), J, O) H locs := by rw [← show upd (keepR (f)) 67 (drawF (keepR f 67)) = drStep f nd nm from by simp [drStep, show ¬ (0 < nm ∧ 0 < nd) by omega]]; exact hB
            refine lv_iinc (v := nI (k + 1)) (lv' := [(2, .int (nI (k + 1))), (0, .ref (G.2.2.1 (20, 0, 0))), (1, .int (nI nn))]) hx hb dX8_drift_110 hl (k := 0) rfl (jn_inc _ 1) (by decide) rfl (fun ls hl => ?_)
            refine lv_goto (tgt := 16) hx hb dX8_drift_113 (by decide) ?_
            exact ih_16 (drStep f nd nm) (if u_ = 8 then 8 else u_ + 1) (k + 1) (by omega) (by omega) (by rw [hf]; rfl) ((drStep_lo (Or.inl rfl) hnm).trans h0) ((drStep_lo (Or.inr rfl) hnm).trans h1) (drStep_2 hnm hu8 hu) (by split <;> omega) _ _ _ hB (lv_sub hl [0, 1, 2] rfl)
          · refine lv_aload_n hx hb dX8_drift_62 rfl (lv_at hl 1 rfl) ?_
            refine j_get (20, 0, 0) 0 (v := .ref (G.2.2.1 (21, 41, 0))) hC hB in_X8 lk_7 dX8_drift_63 jk20 rfl rfl (by decide) rfl ?_
            refine lv_iconst (v := nI 0) hx hb dX8_drift_66 (by decide) ?_
            refine j_iLd 41 0 hC hB dX8_drift_67 (by decide) rfl (by simp only [lenI_41]; omega) ?_
            refine j_eqi (x := (sr I 41 (upd (keepR (f)) 67 (drawF (keepR f 67)))) 41 0) (y := nI nd) (sr_sj.trans ((pk_un (show (0 : Nat) ≠ 67 by omega)).trans ((keepR_lo _ (by decide) (by decide)).trans (h0)))) ?_
            refine jn_if_le (tgt := 110) hx hb dX8_drift_68 (by decide) (by omega) (fun c_68 => ?_) (fun c_68 => ?_)
            · have hB : jB G A s_.heap (sr I 41 (drStep f nd nm), J, O) H locs := by rw [← show upd (keepR (f)) 67 (drawF (keepR f 67)) = drStep f nd nm from by simp [drStep, show ¬ (0 < nm ∧ 0 < nd) by omega]]; exact hB
              refine lv_iinc (v := nI (k + 1)) (lv' := [(2, .int (nI (k + 1))), (0, .ref (G.2.2.1 (20, 0, 0))), (1, .int (nI nn))]) hx hb dX8_drift_110 hl (k := 0) rfl (jn_inc _ 1) (by decide) rfl (fun ls hl => ?_)
              refine lv_goto (tgt := 16) hx hb dX8_drift_113 (by decide) ?_
              exact ih_16 (drStep f nd nm) (if u_ = 8 then 8 else u_ + 1) (k + 1) (by omega) (by omega) (by rw [hf]; rfl) ((drStep_lo (Or.inl rfl) hnm).trans h0) ((drStep_lo (Or.inr rfl) hnm).trans h1) (drStep_2 hnm hu8 hu) (by split <;> omega) _ _ _ hB (lv_sub hl [0, 1, 2] rfl)
            · refine lv_aload_n hx hb dX8_drift_71 rfl (lv_at hl 1 rfl) ?_
              refine lv_aload_n hx hb dX8_drift_72 rfl (lv_at hl 1 rfl) ?_
              refine j_get (20, 0, 0) 0 (v := .ref (G.2.2.1 (21, 41, 0))) hC hB in_X8 lk_7 dX8_drift_73 jk20 rfl rfl (by decide) rfl ?_
              refine lv_bipush (v := nI 67) hx hb dX8_drift_76 (by decide) ?_
              refine j_iLd 41 67 hC hB dX8_drift_78 (by decide) rfl (by simp only [lenI_41]; omega) ?_
              refine j_eqi (x := (sr I 41 (upd (keepR (f)) 67 (drawF (keepR f 67)))) 41 67) (y := drawF (keepR f 67)) (sr_sj.trans (pk_us)) ?_
              refine j_eqi (y := nI w) (ew) ?_
              refine lv_ldc (v := 65536) hx hb hown (hts (.constant RX8 143 (65536)) (by decide +kernel)) dX8_drift_79 ?_
              refine j_eqi (y := nI 65536) rfl ?_
              refine jn_idiv hx hb dX8_drift_81 (by omega) (by omega) (by omega) ?_
              refine lv_aload_n hx hb dX8_drift_82 rfl (lv_at hl 1 rfl) ?_
              refine j_get (20, 0, 0) 0 (v := .ref (G.2.2.1 (21, 41, 0))) hC hB in_X8 lk_7 dX8_drift_83 jk20 rfl rfl (by decide) rfl ?_
              refine lv_iconst (v := nI 1) hx hb dX8_drift_86 (by decide) ?_
              refine j_iLd 41 1 hC hB dX8_drift_87 (by decide) rfl (by simp only [lenI_41]; omega) ?_
              refine j_eqi (x := (sr I 41 (upd (keepR (f)) 67 (drawF (keepR f 67)))) 41 1) (y := nI nm) (sr_sj.trans ((pk_un (show (1 : Nat) ≠ 67 by omega)).trans ((keepR_lo _ (by decide) (by decide)).trans (h1)))) ?_
              refine jn_irem hx hb dX8_drift_88 (by omega) (by omega) (by omega) ?_
              refine lv_aload_n hx hb dX8_drift_89 rfl (lv_at hl 1 rfl) ?_
              refine j_get (20, 0, 0) 0 (v := .ref (G.2.2.1 (21, 41, 0))) hC hB in_X8 lk_7 dX8_drift_90 jk20 rfl rfl (by decide) rfl ?_
              refine lv_bipush (v := nI 67) hx hb dX8_drift_93 (by decide) ?_
              refine j_iLd 41 67 hC hB dX8_drift_95 (by decide) rfl (by simp only [lenI_41]; omega) ?_
              refine j_eqi (x := (sr I 41 (upd (keepR (f)) 67 (drawF (keepR f 67)))) 41 67) (y := drawF (keepR f 67)) (sr_sj.trans (pk_us)) ?_
              refine j_eqi (y := nI w) (ew) ?_
              refine lv_sipush (v := nI 128) hx hb dX8_drift_96 (by decide) ?_
              refine jn_idiv hx hb dX8_drift_99 (by omega) (by omega) (by omega) ?_
              refine lv_aload_n hx hb dX8_drift_100 rfl (lv_at hl 1 rfl) ?_
              refine j_get (20, 0, 0) 0 (v := .ref (G.2.2.1 (21, 41, 0))) hC hB in_X8 lk_7 dX8_drift_101 jk20 rfl rfl (by decide) rfl ?_
              refine lv_iconst (v := nI 0) hx hb dX8_drift_104 (by decide) ?_
              refine j_iLd 41 0 hC hB dX8_drift_105 (by decide) rfl (by simp only [lenI_41]; omega) ?_
              refine j_eqi (x := (sr I 41 (upd (keepR (f)) 67 (drawF (keepR f 67)))) 41 0) (y := nI nd) (sr_sj.trans ((pk_un (show (0 : Nat) ≠ 67 by omega)).trans ((keepR_lo _ (by decide) (by decide)).trans (h0)))) ?_
              refine jn_irem hx hb dX8_drift_106 (by omega) (by omega) (by omega) ?_
              have hr1 : w / 65536 % nm < nm := Nat.mod_lt _ (by omega)
              have hr2 : w / 128 % nd < nd := Nat.mod_lt _ (by omega)
              refine j_cvv (20, 0, 0) [.int (nI ((w / 65536) % nm)), .int (nI ((w / 128) % nd))] hC hB hl.1 (c_X8_tries l_ G (sr I 41 (upd (keepR (f)) 67 (drawF (keepR f 67)))) J O ((w / 65536) % nm) ((w / 128) % nd) (by omega) (by omega)) (cwV 2 hts gX8_drift_X8_tries rfl rfl rfl (by decide +kernel) ⟨by decide, by decide⟩) dX8_drift_107 jk20 rfl rfl rfl rfl (Nat.le_of_ble_eq_true rfl) (fun u_107 H locs hp_107 hB => ?_)
              obtain rfl := hp_107
              have hB : jB G A s_.heap (sr I 41 (triesR (upd (keepR (f)) 67 (drawF (keepR f 67))) ((w / 65536) % nm) ((w / 128) % nd)), J, O) H locs := by (rw [show sr I 41 (triesR (upd (keepR (f)) 67 (drawF (keepR f 67))) ((w / 65536) % nm) ((w / 128) % nd)) = sr (sr I 41 (upd (keepR (f)) 67 (drawF (keepR f 67)))) 41 (triesR (upd (keepR (f)) 67 (drawF (keepR f 67))) ((w / 65536) % nm) ((w / 128) % nd)) from by funext a; simp +decide only [sr]; (repeat' split) <;> first | rfl | (exfalso; omega) | (subst_vars; rfl)]; exact hB)
              have hB : jB G A s_.heap (sr I 41 (drStep f nd nm), J, O) H locs := by rw [← show triesR (upd (keepR (f)) 67 (drawF (keepR f 67))) ((w / 65536) % nm) ((w / 128) % nd) = drStep f nd nm from by simp [drStep, ew, nIc (show w < 2147483648 by omega), show 0 < nm by omega, show 0 < nd by omega]]; exact hB
              refine lv_iinc (v := nI (k + 1)) (lv' := [(2, .int (nI (k + 1))), (0, .ref (G.2.2.1 (20, 0, 0))), (1, .int (nI nn))]) hx hb dX8_drift_110 hl (k := 0) rfl (jn_inc _ 1) (by decide) rfl (fun ls hl => ?_)
              refine lv_goto (tgt := 16) hx hb dX8_drift_113 (by decide) ?_
              exact ih_16 (drStep f nd nm) (if u_ = 8 then 8 else u_ + 1) (k + 1) (by omega) (by omega) (by rw [hf]; rfl) ((drStep_lo (Or.inl rfl) hnm).trans h0) ((drStep_lo (Or.inr rfl) hnm).trans h1) (drStep_2 hnm hu8 hu) (by split <;> omega) _ _ _ hB (lv_sub hl [0, 1, 2] rfl)
    exact lp_16 _ (I 41) h 0 (Nat.lt_succ_self _) (by omega) (rfl) (hD) (hM) (hH) (hh) _ _ _ (jB_cast2 hB (by first | exact (sr_id _ _).symm | (funext a_; simp +decide only [sr]; (repeat' split) <;> first | rfl | (exfalso; omega) | (subst_vars; rfl))) rfl) (lv_sub hl [0, 1, 2] rfl)
  · refine lv_iconst (v := (-1 : Int32)) hx hb dX8_drift_12 (by decide) ?_
    exact j_iret hC hB dX8_drift_13 (⟨by simp [driA, driR, c_9], by simp [driA, driR, sr_id, c_9]⟩)

set_option maxHeartbeats 4000000 in
set_option maxRecDepth 100000 in
theorem c_X8_restore (l_ : Launch) (G : jG) (I : Nat → Nat → Int32) (J : Nat → Nat → Int64) (O : Nat → Nat → Nat) {kp : Bool} (hKp : I 40 0 = b2 kp) : jMi l_ G yX8_restore wsX8_restore ({ frames := 0, cells := 0, slots := 0, locals := 0 }) [.ref (G.2.2.1 (20, 0, 0))] (I, J, O) (fun r u => r = (if kp = true then nI 1 else -4) ∧ u = (sr I 41 (if kp = true then cpR (I 42) (I 41) 364 else I 41), J, O)) := by
  refine jMi_of (cc := cX8_restore) (maxL := 2) (ret := (some .int)) (lv0 := [(0, .ref (G.2.2.1 (20, 0, 0)))]) (by decide) rfl (Nat.le_of_ble_eq_true rfl) rfl ?_
  intro pg_ ev_ s_ mi_ below meth cd_ A ls hC hB hl
  obtain ⟨hx, hb, hr, hml, hown, hts, hlocks, hK, hA⟩ := id hC
  have lk_144 := hts (.fieldLink RX8 144 "RiddlePrisonModel" "isKept" "Z") (by decide +kernel)
  have lk_7 := hts (.fieldLink RX8 7 "RiddlePrisonModel" "now" "[I") (by decide +kernel)
  have lk_13 := hts (.fieldLink RX8 13 "RiddlePrisonModel" "kept" "[I") (by decide +kernel)
  have in_X8 := (fun w h => List.mem_cons_of_mem _ (List.mem_append_right _ h) : ∀ w ∈ wsX80, w ∈ wsX8_restore)
  refine lv_iconst (v := nI 0) hx hb dX8_restore_0 (by decide) ?_
  refine lv_istore_n (lv' := [(1, .int (nI 0)), (0, .ref (G.2.2.1 (20, 0, 0)))]) hx hb dX8_restore_1 rfl hl (by decide) rfl (fun ls hl => ?_)
  have lp_2 : ∀ (fu : Nat) (f : Nat → Int32) (k : Nat), 364 - k < fu → (k ≤ 364) → (f = cpR (I 42) (I 41) k) → (kp = false → k = 0) → ∀ H locs ls, jB G A s_.heap (sr I 41 (f), J, O) H locs → lv_has ls 2 [(1, .int (nI k)), (0, .ref (G.2.2.1 (20, 0, 0)))] → W pg_ l_ ev_ ({ frames := 0, cells := 0, slots := 0, locals := 0 }) s_ mi_ ([.ref (G.2.2.1 (20, 0, 0))]).toArray below meth cd_ H locs 0 0 (jQi G A below [.ref (G.2.2.1 (20, 0, 0))] s_ (fun r u => r = (if kp = true then nI 1 else -4) ∧ u = (sr I 41 (if kp = true then cpR (I 42) (I 41) 364 else I 41), J, O))) (F0 mi_ 2 ls []) := by
    intro fu
    induction fu with
    | zero => intro f k hf; exact absurd hf (Nat.not_lt_zero _)
    | succ fu ih_2 =>
      intro f k hf_2 hk hf h0 H locs ls hB hl
      refine lv_iload_n hx hb dX8_restore_2 rfl (lv_at hl 0 rfl) ?_
      refine lv_sipush (v := nI 364) hx hb dX8_restore_3 (by decide) ?_
      refine jn_icmp_ge (tgt := 34) hx hb dX8_restore_6 (by decide) (by omega) (by omega) (fun c_6 => ?_) (fun c_6 => ?_)
      · refine lv_aload_n hx hb dX8_restore_34 rfl (lv_at hl 1 rfl) ?_
        refine j_get (20, 0, 0) 2 (v := .int ((sr I 41 (f)) 40 0)) hC hB in_X8 lk_144 dX8_restore_35 jk20 rfl rfl (by decide) rfl ?_
        refine j_eqi (x := (sr I 41 (f)) 40 0) (y := b2 kp) ((sr_nj (show (40 : Nat) ≠ 41 by omega)).trans (hKp)) ?_
        refine jb_if_eq (tgt := 45) hx hb dX8_restore_38 (by decide) (fun c_38 => ?_) (fun c_38 => ?_)
        · exact absurd (h0 c_38) (by omega)
        · refine lv_iconst (v := nI 1) hx hb dX8_restore_41 (by decide) ?_
          refine lv_goto (tgt := 47) hx hb dX8_restore_42 (by decide) ?_
          exact j_iret hC hB dX8_restore_47 (⟨by simp [c_38], by rw [hf, show k = 364 by omega]; simp [c_38]⟩)
      · refine lv_aload_n hx hb dX8_restore_9 rfl (lv_at hl 1 rfl) ?_
        refine j_get (20, 0, 0) 2 (v := .int ((sr I 41 (f)) 40 0)) hC hB in_X8 lk_144 dX8_restore_10 jk20 rfl rfl (by decide) rfl ?_
        refine j_eqi (x := (sr I 41 (f)) 40 0) (y := b2 kp) ((sr_nj (show (40 : Nat) ≠ 41 by omega)).trans (hKp)) ?_
        refine jb_if_eq (tgt := 34) hx hb dX8_restore_13 (by decide) (fun c_13 => ?_) (fun c_13 => ?_)
        · refine lv_aload_n hx hb dX8_restore_34 rfl (lv_at hl 1 rfl) ?_
          refine j_get (20, 0, 0) 2 (v := .int ((sr I 41 (f)) 40 0)) hC hB in_X8 lk_144 dX8_restore_35 jk20 rfl rfl (by decide) rfl ?_
          refine j_eqi (x := (sr I 41 (f)) 40 0) (y := b2 kp) ((sr_nj (show (40 : Nat) ≠ 41 by omega)).trans (hKp)) ?_
          refine jb_if_eq (tgt := 45) hx hb dX8_restore_38 (by decide) (fun c_38 => ?_) (fun c_38 => ?_)
          · refine lv_bipush (v := (-4 : Int32)) hx hb dX8_restore_45 (by decide) ?_
            exact j_iret hC hB dX8_restore_47 (⟨by simp [c_38], by rw [hf, h0 c_13, cpR_0, sr_id]; simp [c_38, sr_id]⟩)
          · exact absurd c_13 (by rw [c_38]; decide)
        · refine lv_aload_n hx hb dX8_restore_16 rfl (lv_at hl 1 rfl) ?_
          refine j_get (20, 0, 0) 0 (v := .ref (G.2.2.1 (21, 41, 0))) hC hB in_X8 lk_7 dX8_restore_17 jk20 rfl rfl (by decide) rfl ?_
          refine lv_iload_n hx hb dX8_restore_20 rfl (lv_at hl 0 rfl) ?_
          refine lv_aload_n hx hb dX8_restore_21 rfl (lv_at hl 1 rfl) ?_
          refine j_get (20, 0, 0) 1 (v := .ref (G.2.2.1 (21, 42, 0))) hC hB in_X8 lk_13 dX8_restore_22 jk20 rfl rfl (by decide) rfl ?_
          refine lv_iload_n hx hb dX8_restore_25 rfl (lv_at hl 0 rfl) ?_
          refine j_iLd 42 k hC hB dX8_restore_26 (by decide) rfl (by simp only [lenI_42]; omega) ?_
          refine j_eqi (x := (sr I 41 (f)) 42 k) (y := (I 42) k) ((sr_nj (show (42 : Nat) ≠ 41 by omega))) ?_
          refine j_iSt 41 k hC hB dX8_restore_27 (by decide) rfl (by simp only [lenI_41]; omega) (fun H locs hB => ?_)
          have hB : jB G A s_.heap (sr I 41 (upd (f) k ((I 42) k)), J, O) H locs := by rw [show sr I 41 (upd (f) k ((I 42) k)) = u2 (sr I 41 (f)) 41 k ((I 42) k) from (u2_sr _ _ _ _ _).symm]; exact hB
          refine lv_iinc (v := nI (k + 1)) (lv' := [(1, .int (nI (k + 1))), (0, .ref (G.2.2.1 (20, 0, 0)))]) hx hb dX8_restore_28 hl (k := 0) rfl (jn_inc _ 1) (by decide) rfl (fun ls hl => ?_)
          refine lv_goto (tgt := 2) hx hb dX8_restore_31 (by decide) ?_
          exact ih_2 (upd (f) k ((I 42) k)) (k + 1) (by omega) (by omega) (by rw [hf]; exact cpR_step _ _ _) (fun q => absurd (q.symm.trans c_13) (by decide)) _ _ _ hB (lv_sub hl [0, 1] rfl)
  exact lp_2 _ (I 41) 0 (Nat.lt_succ_self _) (by omega) ((cpR_0 _ _).symm) (fun _ => rfl) _ _ _ (jB_cast2 hB (by first | exact (sr_id _ _).symm | (funext a_; simp +decide only [sr]; (repeat' split) <;> first | rfl | (exfalso; omega) | (subst_vars; rfl))) rfl) (lv_sub hl [0, 1] rfl)

set_option maxHeartbeats 4000000 in
set_option maxRecDepth 100000 in
theorem c_X8_type (l_ : Launch) (G : jG) (I : Nat → Nat → Int32) (J : Nat → Nat → Int64) (O : Nat → Nat → Nat) (letter : Int32) {n : Nat} (hn : n ≤ 90) (hTl : I 40 2 = nI n) : jMi l_ G yX8_type wsX8_type ({ frames := 1, cells := 0, slots := 0, locals := 25 }) [.ref (G.2.2.1 (20, 0, 0)), .int letter] (I, J, O) (fun r u => r = tyA n letter ∧ u = (tyI I n letter, J, O)) := by
  refine jMi_of (cc := cX8_type) (maxL := 2) (ret := (some .int)) (lv0 := [(0, .ref (G.2.2.1 (20, 0, 0))), (1, .int letter)]) (by decide) rfl (Nat.le_of_ble_eq_true rfl) rfl ?_
  intro pg_ ev_ s_ mi_ below meth cd_ A ls hC hB hl
  obtain ⟨hx, hb, hr, hml, hown, hts, hlocks, hK, hA⟩ := id hC
  have lk_200 := hts (.fieldLink RX8 200 "RiddlePrisonModel" "tapeLong" "I") (by decide +kernel)
  have lk_38 := hts (.fieldLink RX8 38 "RiddlePrisonModel" "tape" "[I") (by decide +kernel)
  have in_X8 := (fun w h => List.mem_cons_of_mem _ (List.mem_append_right _ h) : ∀ w ∈ wsX80, w ∈ wsX8_type)
  refine lv_iload_n hx hb dX8_type_0 rfl (lv_at hl 1 rfl) ?_
  refine lv_i2l (v := letter.toInt64) hx hb dX8_type_1 rfl ?_
  refine lv_ldc2 (v := 32) hx hb hown (hts (.constantLong RX8 196 (32)) (by decide +kernel)) dX8_type_2 ?_
  refine lv_ldc2 (v := 126) hx hb hown (hts (.constantLong RX8 198 (126)) (by decide +kernel)) dX8_type_5 ?_
  refine j_csi [.long letter.toInt64, .long ((32 : Int64)), .long ((126 : Int64))] hC hB hl.1 (c_X8_in l_ G I J O letter.toInt64 ((32 : Int64)) ((126 : Int64))) (va_cwS 3 hts gX8_type_X8_in rfl rfl rfl (by decide +kernel) ⟨by decide, by decide⟩) dX8_type_8 rfl rfl (Nat.le_of_ble_eq_true rfl) (fun r_8 u_8 H locs hp_8 hB => ?_)
  obtain ⟨rfl, rfl⟩ := hp_8
  refine jb_if_ne (tgt := 16) hx hb dX8_type_11 (by decide) (fun c_11 => ?_) (fun c_11 => ?_)
  · refine lv_aload_n hx hb dX8_type_16 rfl (lv_at hl 0 rfl) ?_
    refine j_get (20, 0, 0) 12 (v := .int (I 40 2)) hC hB in_X8 lk_200 dX8_type_17 jk20 rfl rfl (by decide) rfl ?_
    refine j_eqi (x := I 40 2) (y := nI n) (hTl) ?_
    refine lv_bipush (v := nI 90) hx hb dX8_type_20 (by decide) ?_
    refine jn_icmp_ne (tgt := 28) hx hb dX8_type_22 (by decide) (by omega) (by omega) (fun c_22 => ?_) (fun c_22 => ?_)
    · refine lv_aload_n hx hb dX8_type_28 rfl (lv_at hl 0 rfl) ?_
      refine j_get (20, 0, 0) 11 (v := .ref (G.2.2.1 (21, 48, 0))) hC hB in_X8 lk_38 dX8_type_29 jk20 rfl rfl (by decide) rfl ?_
      refine lv_aload_n hx hb dX8_type_32 rfl (lv_at hl 0 rfl) ?_
      refine j_get (20, 0, 0) 12 (v := .int (I 40 2)) hC hB in_X8 lk_200 dX8_type_33 jk20 rfl rfl (by decide) rfl ?_
      refine j_eqi (x := I 40 2) (y := nI n) (hTl) ?_
      refine lv_iload_n hx hb dX8_type_36 rfl (lv_at hl 1 rfl) ?_
      refine j_iSt 48 n hC hB dX8_type_37 (by decide) rfl (by simp only [lenI_48]; omega) (fun H locs hB => ?_)
      have hB : jB G A s_.heap (sr I 48 (upd (I 48) n letter), J, O) H locs := by rw [show sr I 48 (upd (I 48) n letter) = u2 I 48 n letter from (u2_eq _ _ _ _).symm]; exact hB
      refine lv_aload_n hx hb dX8_type_38 rfl (lv_at hl 0 rfl) ?_
      refine lv_dup hx hb dX8_type_39 rfl ?_
      refine j_get (20, 0, 0) 12 (v := .int ((sr I 48 (upd (I 48) n letter)) 40 2)) hC hB in_X8 lk_200 dX8_type_40 jk20 rfl rfl (by decide) rfl ?_
      refine j_eqi (x := (sr I 48 (upd (I 48) n letter)) 40 2) (y := nI n) ((sr_nj (show (40 : Nat) ≠ 48 by omega)).trans (hTl)) ?_
      refine lv_iconst (v := nI 1) hx hb dX8_type_43 (by decide) ?_
      refine jn_iadd hx hb dX8_type_44 ?_
      refine j_put (20, 0, 0) 12 (u2 (sr I 48 (upd (I 48) n letter)) 40 2 (nI (n + 1)), J, O) (ty := .int) hC hB in_X8 tyX8_ok nmX8 lk_200 dX8_type_45 jk20 rfl rfl (by decide) rfl (by decide +kernel) rfl rfl (Nat.le_of_ble_eq_true rfl) (fun z hz hne => jw_fr z hz hne) (rfl) (fun H locs hB => ?_)
      have hB : jB G A s_.heap (sr (sr I 48 (upd (I 48) n letter)) 40 (upd (I 40) 2 (nI (n + 1))), J, O) H locs := by rw [show sr (sr I 48 (upd (I 48) n letter)) 40 (upd (I 40) 2 (nI (n + 1))) = u2 (sr I 48 (upd (I 48) n letter)) 40 2 (nI (n + 1)) from (u2_sr1 (show (40 : Nat) ≠ 48 by omega)).symm]; exact hB
      refine lv_aload_n hx hb dX8_type_48 rfl (lv_at hl 0 rfl) ?_
      refine j_get (20, 0, 0) 12 (v := .int ((sr (sr I 48 (upd (I 48) n letter)) 40 (upd (I 40) 2 (nI (n + 1)))) 40 2)) hC hB in_X8 lk_200 dX8_type_49 jk20 rfl rfl (by decide) rfl ?_
      refine j_eqi (x := (sr (sr I 48 (upd (I 48) n letter)) 40 (upd (I 40) 2 (nI (n + 1)))) 40 2) (y := nI (n + 1)) (sr_sj.trans (pk_us)) ?_
      exact j_iret hC hB dX8_type_52 (⟨by simp [tyA, c_11, c_22], by simp [tyI, c_11, c_22]⟩)
    · refine lv_bipush (v := (-3 : Int32)) hx hb dX8_type_25 (by decide) ?_
      exact j_iret hC hB dX8_type_27 (⟨by simp [tyA, c_11, eq_true c_22], by simp [tyI, c_11, eq_true c_22]⟩)
  · refine lv_iconst (v := (-1 : Int32)) hx hb dX8_type_14 (by decide) ?_
    exact j_iret hC hB dX8_type_15 (⟨by simp [tyA, c_11], by simp [tyI, c_11]⟩)

set_option maxHeartbeats 4000000 in
set_option maxRecDepth 100000 in
theorem c_X8_refusesItems (l_ : Launch) (G : jG) (I : Nat → Nat → Int32) (J : Nat → Nat → Int64) (O : Nat → Nat → Nat) (s : Nat) (lane i n : Int32) (hs : s < 4) : jMi l_ G yX8_refusesItems wsX8_refusesItems ({ frames := 1, cells := 0, slots := 0, locals := 25 }) [.ref (G.2.2.1 (20, 0, 0)), .int (nI s), .int lane, .int i, .int n] (I, J, O) (fun r u => r = rfF (I 50) (I 51) s lane i n ∧ u = (I, J, O)) := by
  refine jMi_of (cc := cX8_refusesItems) (maxL := 5) (ret := (some .int)) (lv0 := [(0, .ref (G.2.2.1 (20, 0, 0))), (1, .int (nI s)), (2, .int lane), (3, .int i), (4, .int n)]) (by decide) rfl (Nat.le_of_ble_eq_true rfl) rfl ?_
  intro pg_ ev_ s_ mi_ below meth cd_ A ls hC hB hl
  obtain ⟨hx, hb, hr, hml, hown, hts, hlocks, hK, hA⟩ := id hC
  have lk_44 := hts (.fieldLink RX8 44 "RiddlePrisonModel" "laneOf" "[I") (by decide +kernel)
  have lk_47 := hts (.fieldLink RX8 47 "RiddlePrisonModel" "sizeOf" "[I") (by decide +kernel)
  have in_X8 := (fun w h => List.mem_cons_of_mem _ (List.mem_append_right _ h) : ∀ w ∈ wsX80, w ∈ wsX8_refusesItems)
  refine lv_aload_n hx hb dX8_refusesItems_0 rfl (lv_at hl 0 rfl) ?_
  refine j_get (20, 0, 0) 16 (v := .ref (G.2.2.1 (21, 50, 0))) hC hB in_X8 lk_44 dX8_refusesItems_1 jk20 rfl rfl (by decide) rfl ?_
  refine lv_iload_n hx hb dX8_refusesItems_4 rfl (lv_at hl 1 rfl) ?_
  refine j_iLd 50 s hC hB dX8_refusesItems_5 (by decide) rfl (by simp only [lenI_50]; omega) ?_
  refine j_eqi (y := (I 50) s) rfl ?_
  refine lv_bipush (v := (-4 : Int32)) hx hb dX8_refusesItems_6 (by decide) ?_
  refine lv_icmp_ne (tgt := 14) hx hb dX8_refusesItems_8 (by decide) (fun c_8 => ?_) (fun c_8 => ?_)
  · refine lv_aload_n hx hb dX8_refusesItems_14 rfl (lv_at hl 0 rfl) ?_
    refine j_get (20, 0, 0) 16 (v := .ref (G.2.2.1 (21, 50, 0))) hC hB in_X8 lk_44 dX8_refusesItems_15 jk20 rfl rfl (by decide) rfl ?_
    refine lv_iload_n hx hb dX8_refusesItems_18 rfl (lv_at hl 1 rfl) ?_
    refine j_iLd 50 s hC hB dX8_refusesItems_19 (by decide) rfl (by simp only [lenI_50]; omega) ?_
    refine j_eqi (y := (I 50) s) rfl ?_
    refine lv_iload_n hx hb dX8_refusesItems_20 rfl (lv_at hl 2 rfl) ?_
    refine lv_icmp_eq (tgt := 27) hx hb dX8_refusesItems_21 (by decide) (fun c_21 => ?_) (fun c_21 => ?_)
    · refine lv_iload_n hx hb dX8_refusesItems_27 rfl (lv_at hl 3 rfl) ?_
      refine lv_if_lt (tgt := 55) hx hb dX8_refusesItems_28 (by decide) (fun c_28 => ?_) (fun c_28 => ?_)
      · refine lv_bipush (v := (-13 : Int32)) hx hb dX8_refusesItems_55 (by decide) ?_
        exact j_iret hC hB dX8_refusesItems_57 (⟨by simp [rfF, c_8, eq_true c_21, c_28], rfl⟩)
      · refine lv_iload_n hx hb dX8_refusesItems_31 rfl (lv_at hl 3 rfl) ?_
        refine lv_i2l (v := i.toInt64) hx hb dX8_refusesItems_32 rfl ?_
        refine lv_iload hx hb dX8_refusesItems_33 (lv_at hl 4 rfl) ?_
        refine lv_i2l (v := n.toInt64) hx hb dX8_refusesItems_35 rfl ?_
        refine lv_ladd hx hb dX8_refusesItems_36 ?_
        refine lv_lconst (v := 0) hx hb dX8_refusesItems_37 rfl ?_
        refine lv_aload_n hx hb dX8_refusesItems_38 rfl (lv_at hl 0 rfl) ?_
        refine j_get (20, 0, 0) 17 (v := .ref (G.2.2.1 (21, 51, 0))) hC hB in_X8 lk_47 dX8_refusesItems_39 jk20 rfl rfl (by decide) rfl ?_
        refine lv_iload_n hx hb dX8_refusesItems_42 rfl (lv_at hl 1 rfl) ?_
        refine j_iLd 51 s hC hB dX8_refusesItems_43 (by decide) rfl (by simp only [lenI_51]; omega) ?_
        refine j_eqi (y := (I 51) s) rfl ?_
        refine lv_i2l (v := ((I 51) s).toInt64) hx hb dX8_refusesItems_44 rfl ?_
        refine j_csi [.long (i.toInt64 + n.toInt64), .long ((0 : Int64)), .long (((I 51) s).toInt64)] hC hB hl.1 (c_X8_in l_ G I J O (i.toInt64 + n.toInt64) ((0 : Int64)) (((I 51) s).toInt64)) (va_cwS 3 hts gX8_refusesItems_X8_in rfl rfl rfl (by decide +kernel) ⟨by decide, by decide⟩) dX8_refusesItems_45 rfl rfl (Nat.le_of_ble_eq_true rfl) (fun r_45 u_45 H locs hp_45 hB => ?_)
        obtain ⟨rfl, rfl⟩ := hp_45
        refine jb_if_eq (tgt := 55) hx hb dX8_refusesItems_48 (by decide) (fun c_48 => ?_) (fun c_48 => ?_)
        · refine lv_bipush (v := (-13 : Int32)) hx hb dX8_refusesItems_55 (by decide) ?_
          exact j_iret hC hB dX8_refusesItems_57 (⟨by simp [rfF, c_8, eq_true c_21, c_28, c_48], rfl⟩)
        · refine lv_iconst (v := nI 0) hx hb dX8_refusesItems_51 (by decide) ?_
          refine lv_goto (tgt := 57) hx hb dX8_refusesItems_52 (by decide) ?_
          exact j_iret hC hB dX8_refusesItems_57 (⟨by simp [rfF, c_8, eq_true c_21, c_28, c_48], rfl⟩)
    · refine lv_bipush (v := (-12 : Int32)) hx hb dX8_refusesItems_24 (by decide) ?_
      exact j_iret hC hB dX8_refusesItems_26 (⟨by simp [rfF, c_8, c_21], rfl⟩)
  · refine lv_bipush (v := (-11 : Int32)) hx hb dX8_refusesItems_11 (by decide) ?_
    exact j_iret hC hB dX8_refusesItems_13 (⟨by simp [rfF, eq_true c_8], rfl⟩)

set_option maxHeartbeats 4000000 in
set_option maxRecDepth 100000 in
theorem c_X8_cutTo (l_ : Launch) (G : jG) (I : Nat → Nat → Int32) (J : Nat → Nat → Int64) (O : Nat → Nat → Nat) (lane : Int32) (v : Int64) : jMl l_ G yX8_cutTo wsX8_cutTo ({ frames := 0, cells := 0, slots := 0, locals := 0 }) [.int lane, .long v] (I, J, O) (fun r u => r = ctF lane v ∧ u = (I, J, O)) := by
  refine jMl_of (cc := cX8_cutTo) (maxL := 4) (ret := (some .long)) (lv0 := [(0, .int lane), (1, .long v)]) (by decide) rfl (Nat.le_of_ble_eq_true rfl) rfl ?_
  intro pg_ ev_ s_ mi_ below meth cd_ A ls hC hB hl
  obtain ⟨hx, hb, hr, hml, hown, hts, hlocks, hK, hA⟩ := id hC
  refine lv_iload_n hx hb dX8_cutTo_0 rfl (lv_at hl 0 rfl) ?_
  refine lv_if_ne (tgt := 9) hx hb dX8_cutTo_1 (by decide) (fun c_1 => ?_) (fun c_1 => ?_)
  · refine lv_iload_n hx hb dX8_cutTo_9 rfl (lv_at hl 0 rfl) ?_
    refine lv_iconst (v := nI 1) hx hb dX8_cutTo_10 (by decide) ?_
    refine lv_icmp_ne (tgt := 19) hx hb dX8_cutTo_11 (by decide) (fun c_11 => ?_) (fun c_11 => ?_)
    · refine lv_iload_n hx hb dX8_cutTo_19 rfl (lv_at hl 0 rfl) ?_
      refine lv_iconst (v := nI 2) hx hb dX8_cutTo_20 (by decide) ?_
      refine lv_icmp_ne (tgt := 29) hx hb dX8_cutTo_21 (by decide) (fun c_21 => ?_) (fun c_21 => ?_)
      · refine lv_iconst (v := nI 0) hx hb dX8_cutTo_29 (by decide) ?_
        refine lv_istore_n (lv' := [(3, .int (nI 0)), (0, .int lane), (1, .long v)]) hx hb dX8_cutTo_30 rfl hl (by decide) rfl (fun ls hl => ?_)
        refine lv_lload_n hx hb dX8_cutTo_31 rfl (lv_at hl 2 rfl) ?_
        refine lv_iload_n hx hb dX8_cutTo_32 rfl (lv_at hl 0 rfl) ?_
        refine lv_lshl (v := v <<< ((nI 0).toInt64 &&& 63)) hx hb dX8_cutTo_33 rfl ?_
        refine lv_iload_n hx hb dX8_cutTo_34 rfl (lv_at hl 0 rfl) ?_
        refine lv_lshr (v := (v <<< ((nI 0).toInt64 &&& 63)) >>> ((nI 0).toInt64 &&& 63)) hx hb dX8_cutTo_35 rfl ?_
        exact j_lret hC hB dX8_cutTo_36 (⟨by simp [ctF, c_1, c_11, c_21], rfl⟩)
      · refine lv_bipush (v := nI 32) hx hb dX8_cutTo_24 (by decide) ?_
        refine lv_goto (tgt := 30) hx hb dX8_cutTo_26 (by decide) ?_
        refine lv_istore_n (lv' := [(3, .int (nI 32)), (0, .int lane), (1, .long v)]) hx hb dX8_cutTo_30 rfl hl (by decide) rfl (fun ls hl => ?_)
        refine lv_lload_n hx hb dX8_cutTo_31 rfl (lv_at hl 2 rfl) ?_
        refine lv_iload_n hx hb dX8_cutTo_32 rfl (lv_at hl 0 rfl) ?_
        refine lv_lshl (v := v <<< ((nI 32).toInt64 &&& 63)) hx hb dX8_cutTo_33 rfl ?_
        refine lv_iload_n hx hb dX8_cutTo_34 rfl (lv_at hl 0 rfl) ?_
        refine lv_lshr (v := (v <<< ((nI 32).toInt64 &&& 63)) >>> ((nI 32).toInt64 &&& 63)) hx hb dX8_cutTo_35 rfl ?_
        exact j_lret hC hB dX8_cutTo_36 (⟨by simp [ctF, c_1, c_11, eq_true c_21], rfl⟩)
    · refine lv_bipush (v := nI 48) hx hb dX8_cutTo_14 (by decide) ?_
      refine lv_goto (tgt := 30) hx hb dX8_cutTo_16 (by decide) ?_
      refine lv_istore_n (lv' := [(3, .int (nI 48)), (0, .int lane), (1, .long v)]) hx hb dX8_cutTo_30 rfl hl (by decide) rfl (fun ls hl => ?_)
      refine lv_lload_n hx hb dX8_cutTo_31 rfl (lv_at hl 2 rfl) ?_
      refine lv_iload_n hx hb dX8_cutTo_32 rfl (lv_at hl 0 rfl) ?_
      refine lv_lshl (v := v <<< ((nI 48).toInt64 &&& 63)) hx hb dX8_cutTo_33 rfl ?_
      refine lv_iload_n hx hb dX8_cutTo_34 rfl (lv_at hl 0 rfl) ?_
      refine lv_lshr (v := (v <<< ((nI 48).toInt64 &&& 63)) >>> ((nI 48).toInt64 &&& 63)) hx hb dX8_cutTo_35 rfl ?_
      exact j_lret hC hB dX8_cutTo_36 (⟨by simp [ctF, c_1, eq_true c_11], rfl⟩)
  · refine lv_bipush (v := nI 56) hx hb dX8_cutTo_4 (by decide) ?_
    refine lv_goto (tgt := 30) hx hb dX8_cutTo_6 (by decide) ?_
    refine lv_istore_n (lv' := [(3, .int (nI 56)), (0, .int lane), (1, .long v)]) hx hb dX8_cutTo_30 rfl hl (by decide) rfl (fun ls hl => ?_)
    refine lv_lload_n hx hb dX8_cutTo_31 rfl (lv_at hl 2 rfl) ?_
    refine lv_iload_n hx hb dX8_cutTo_32 rfl (lv_at hl 0 rfl) ?_
    refine lv_lshl (v := v <<< ((nI 56).toInt64 &&& 63)) hx hb dX8_cutTo_33 rfl ?_
    refine lv_iload_n hx hb dX8_cutTo_34 rfl (lv_at hl 0 rfl) ?_
    refine lv_lshr (v := (v <<< ((nI 56).toInt64 &&& 63)) >>> ((nI 56).toInt64 &&& 63)) hx hb dX8_cutTo_35 rfl ?_
    exact j_lret hC hB dX8_cutTo_36 (⟨by simp [ctF, eq_true c_1], rfl⟩)

set_option maxHeartbeats 4000000 in
set_option maxRecDepth 100000 in
theorem c_X8_sheet (l_ : Launch) (G : jG) (I : Nat → Nat → Int32) (J : Nat → Nat → Int64) (O : Nat → Nat → Nat) (sheet lane n : Int32) : jMi l_ G yX8_sheet wsX8_sheet ({ frames := 2, cells := 0, slots := 0, locals := 45 }) [.ref (G.2.2.1 (20, 0, 0)), .int sheet, .int lane, .int n] (I, J, O) (fun r u => r = shRA sheet lane n ∧ u = shRS I J O sheet lane n) := by
  refine jMi_of (cc := cX8_sheet) (maxL := 5) (ret := (some .int)) (lv0 := [(0, .ref (G.2.2.1 (20, 0, 0))), (1, .int sheet), (2, .int lane), (3, .int n)]) (by decide) rfl (Nat.le_of_ble_eq_true rfl) rfl ?_
  intro pg_ ev_ s_ mi_ below meth cd_ A ls hC hB hl
  obtain ⟨hx, hb, hr, hml, hown, hts, hlocks, hK, hA⟩ := id hC
  have lk_44 := hts (.fieldLink RX8 44 "RiddlePrisonModel" "laneOf" "[I") (by decide +kernel)
  have lk_47 := hts (.fieldLink RX8 47 "RiddlePrisonModel" "sizeOf" "[I") (by decide +kernel)
  have lk_50 := hts (.fieldLink RX8 50 "RiddlePrisonModel" "items" "[J") (by decide +kernel)
  have in_X8 := (fun w h => List.mem_cons_of_mem _ (List.mem_append_right _ h) : ∀ w ∈ wsX80, w ∈ wsX8_sheet)
  refine lv_iload_n hx hb dX8_sheet_0 rfl (lv_at hl 1 rfl) ?_
  refine j_csi [.int sheet] hC hB hl.1 (c_X8_isSheet l_ G I J O sheet) (va_cwS 1 hts gX8_sheet_X8_isSheet rfl rfl rfl (by decide +kernel) ⟨by decide, by decide⟩) dX8_sheet_1 rfl rfl (Nat.le_of_ble_eq_true rfl) (fun r_1 u_1 H locs hp_1 hB => ?_)
  obtain ⟨rfl, rfl⟩ := hp_1
  refine jb_if_eq (tgt := 25) hx hb dX8_sheet_4 (by decide) (fun c_4 => ?_) (fun c_4 => ?_)
  · refine lv_iconst (v := (-1 : Int32)) hx hb dX8_sheet_25 (by decide) ?_
    exact j_iret hC hB dX8_sheet_26 (⟨by simp [shRA, shRok, c_4], by simp [shRS, shRok, c_4]⟩)
  · obtain ⟨ss, hss, rfl⟩ := isB_nat c_4 (by omega)
    refine lv_iload_n hx hb dX8_sheet_7 rfl (lv_at hl 2 rfl) ?_
    refine lv_i2l (v := lane.toInt64) hx hb dX8_sheet_8 rfl ?_
    refine lv_lconst (v := 0) hx hb dX8_sheet_9 rfl ?_
    refine lv_ldc2 (v := 3) hx hb hown (hts (.constantLong RX8 68 (3)) (by decide +kernel)) dX8_sheet_10 ?_
    refine j_csi [.long lane.toInt64, .long ((0 : Int64)), .long ((3 : Int64))] hC hB hl.1 (c_X8_in l_ G I J O lane.toInt64 ((0 : Int64)) ((3 : Int64))) (va_cwS 3 hts gX8_sheet_X8_in rfl rfl rfl (by decide +kernel) ⟨by decide, by decide⟩) dX8_sheet_13 rfl rfl (Nat.le_of_ble_eq_true rfl) (fun r_13 u_13 H locs hp_13 hB => ?_)
    obtain ⟨rfl, rfl⟩ := hp_13
    refine j_eqi (y := b2 (isB lane 4)) (by rw [inR_isB (n := 4) (by decide)]) ?_
    refine jb_if_eq (tgt := 25) hx hb dX8_sheet_16 (by decide) (fun c_16 => ?_) (fun c_16 => ?_)
    · refine lv_iconst (v := (-1 : Int32)) hx hb dX8_sheet_25 (by decide) ?_
      exact j_iret hC hB dX8_sheet_26 (⟨by simp [shRA, shRok, c_4, c_16], by simp [shRS, shRok, c_4, c_16]⟩)
    · refine lv_iload_n hx hb dX8_sheet_19 rfl (lv_at hl 3 rfl) ?_
      refine lv_bipush (v := nI 24) hx hb dX8_sheet_20 (by decide) ?_
      refine lv_icmp_le (tgt := 27) hx hb dX8_sheet_22 (by decide) (fun c_22 => ?_) (fun c_22 => ?_)
      · refine lv_iload_n hx hb dX8_sheet_27 rfl (lv_at hl 3 rfl) ?_
        refine lv_if_ge (tgt := 34) hx hb dX8_sheet_28 (by decide) (fun c_28 => ?_) (fun c_28 => ?_)
        · obtain ⟨nn, hnn, rfl⟩ := rng24 c_22 c_28
          refine lv_aload_n hx hb dX8_sheet_34 rfl (lv_at hl 0 rfl) ?_
          refine j_get (20, 0, 0) 16 (v := .ref (G.2.2.1 (21, 50, 0))) hC hB in_X8 lk_44 dX8_sheet_35 jk20 rfl rfl (by decide) rfl ?_
          refine lv_iload_n hx hb dX8_sheet_38 rfl (lv_at hl 1 rfl) ?_
          refine lv_iload_n hx hb dX8_sheet_39 rfl (lv_at hl 2 rfl) ?_
          refine j_iSt 50 ss hC hB dX8_sheet_40 (by decide) rfl (by simp only [lenI_50]; omega) (fun H locs hB => ?_)
          have hB : jB G A s_.heap (sr I 50 (upd (I 50) ss lane), J, O) H locs := by rw [show sr I 50 (upd (I 50) ss lane) = u2 I 50 ss lane from (u2_eq _ _ _ _).symm]; exact hB
          refine lv_aload_n hx hb dX8_sheet_41 rfl (lv_at hl 0 rfl) ?_
          refine j_get (20, 0, 0) 17 (v := .ref (G.2.2.1 (21, 51, 0))) hC hB in_X8 lk_47 dX8_sheet_42 jk20 rfl rfl (by decide) rfl ?_
          refine lv_iload_n hx hb dX8_sheet_45 rfl (lv_at hl 1 rfl) ?_
          refine lv_iload_n hx hb dX8_sheet_46 rfl (lv_at hl 3 rfl) ?_
          refine j_iSt 51 ss hC hB dX8_sheet_47 (by decide) rfl (by simp only [lenI_51]; omega) (fun H locs hB => ?_)
          have hB : jB G A s_.heap (sr (sr I 50 (upd (I 50) ss lane)) 51 (upd (I 51) ss (nI nn)), J, O) H locs := by rw [show sr (sr I 50 (upd (I 50) ss lane)) 51 (upd (I 51) ss (nI nn)) = u2 (sr I 50 (upd (I 50) ss lane)) 51 ss (nI nn) from (u2_sr1 (show (51 : Nat) ≠ 50 by omega)).symm]; exact hB
          refine lv_iconst (v := nI 0) hx hb dX8_sheet_48 (by decide) ?_
          refine lv_istore (lv' := [(4, .int (nI 0)), (0, .ref (G.2.2.1 (20, 0, 0))), (1, .int (nI ss)), (2, .int lane), (3, .int (nI nn))]) hx hb dX8_sheet_49 hl (by decide) rfl (fun ls hl => ?_)
          have lp_51 : ∀ (fu : Nat) (y : Nat → Int64) (k : Nat), nn - k < fu → (k ≤ nn) → (y = zrF (J 12) (24 * ss) k) → ∀ H locs ls, jB G A s_.heap (sr (sr I 50 (upd (I 50) ss lane)) 51 (upd (I 51) ss (nI nn)), srJ J 12 (y), O) H locs → lv_has ls 5 [(4, .int (nI k)), (0, .ref (G.2.2.1 (20, 0, 0))), (1, .int (nI ss)), (2, .int lane), (3, .int (nI nn))] → W pg_ l_ ev_ ({ frames := 2, cells := 0, slots := 0, locals := 45 }) s_ mi_ ([.ref (G.2.2.1 (20, 0, 0)), .int (nI ss), .int lane, .int (nI nn)]).toArray below meth cd_ H locs 0 0 (jQi G A below [.ref (G.2.2.1 (20, 0, 0)), .int (nI ss), .int lane, .int (nI nn)] s_ (fun r u => r = shRA (nI ss) lane (nI nn) ∧ u = shRS I J O (nI ss) lane (nI nn))) (F0 mi_ 51 ls []) := by
            intro fu
            induction fu with
            | zero => intro y k hf; exact absurd hf (Nat.not_lt_zero _)
            | succ fu ih_51 =>
              intro y k hf_51 hk hy H locs ls hB hl
              refine lv_iload hx hb dX8_sheet_51 (lv_at hl 0 rfl) ?_
              refine lv_iload_n hx hb dX8_sheet_53 rfl (lv_at hl 4 rfl) ?_
              refine jn_icmp_ge (tgt := 76) hx hb dX8_sheet_54 (by decide) (by omega) (by omega) (fun c_54 => ?_) (fun c_54 => ?_)
              · refine lv_iload_n hx hb dX8_sheet_76 rfl (lv_at hl 4 rfl) ?_
                exact j_iret hC hB dX8_sheet_77 (⟨by simp [shRA, shRok, c_4, c_16, c_22, c_28], by rw [hy, show k = nn by omega]; simp [shRS, shRok, tN, nIc (show ss < 2147483648 by omega), nIc (show nn < 2147483648 by omega), c_4, c_16, c_22, c_28]⟩)
              · refine lv_aload_n hx hb dX8_sheet_57 rfl (lv_at hl 1 rfl) ?_
                refine j_get (20, 0, 0) 18 (v := .ref (G.2.2.1 (22, 12, 0))) hC hB in_X8 lk_50 dX8_sheet_58 jk20 rfl rfl (by decide) rfl ?_
                refine lv_bipush (v := nI 24) hx hb dX8_sheet_61 (by decide) ?_
                refine lv_iload_n hx hb dX8_sheet_63 rfl (lv_at hl 2 rfl) ?_
                refine jn_imul hx hb dX8_sheet_64 ?_
                refine lv_iload hx hb dX8_sheet_65 (lv_at hl 0 rfl) ?_
                refine jn_iadd hx hb dX8_sheet_67 ?_
                refine lv_lconst (v := 0) hx hb dX8_sheet_68 rfl ?_
                refine j_lSt 12 (24 * ss + k) hC hB dX8_sheet_69 (by decide) rfl (by simp only [lenJ_12]; omega) (fun H locs hB => ?_)
                have hB : jB G A s_.heap (sr (sr I 50 (upd (I 50) ss lane)) 51 (upd (I 51) ss (nI nn)), srJ J 12 (vp_updL (y) (24 * ss + k) ((0 : Int64))), O) H locs := by rw [show srJ J 12 (vp_updL (y) (24 * ss + k) ((0 : Int64))) = v2 (srJ J 12 (y)) 12 (24 * ss + k) ((0 : Int64)) from (v2_srJ _ _ _ _ _).symm]; exact hB
                refine lv_iinc (v := nI (k + 1)) (lv' := [(4, .int (nI (k + 1))), (0, .ref (G.2.2.1 (20, 0, 0))), (1, .int (nI ss)), (2, .int lane), (3, .int (nI nn))]) hx hb dX8_sheet_70 hl (k := 0) rfl (jn_inc _ 1) (by decide) rfl (fun ls hl => ?_)
                refine lv_goto (tgt := 51) hx hb dX8_sheet_73 (by decide) ?_
                exact ih_51 (vp_updL (y) (24 * ss + k) ((0 : Int64))) (k + 1) (by omega) (by omega) (by rw [hy]; exact zrF_step _ _ _) _ _ _ hB (lv_sub hl [0, 1, 2, 3, 4] rfl)
          exact lp_51 _ (J 12) 0 (Nat.lt_succ_self _) (by omega) ((zrF_0 _ _).symm) _ _ _ (jB_cast2 hB rfl (by first | exact (srJ_id _ _).symm | (funext a_; simp +decide only [srJ]; (repeat' split) <;> first | rfl | (exfalso; omega) | (subst_vars; rfl)))) (lv_sub hl [0, 1, 2, 3, 4] rfl)
        · refine lv_bipush (v := (-14 : Int32)) hx hb dX8_sheet_31 (by decide) ?_
          exact j_iret hC hB dX8_sheet_33 (⟨by simp [shRA, shRok, c_4, c_16, c_22, c_28], by simp [shRS, shRok, c_4, c_16, c_22, c_28]⟩)
      · refine lv_iconst (v := (-1 : Int32)) hx hb dX8_sheet_25 (by decide) ?_
        exact j_iret hC hB dX8_sheet_26 (⟨by simp [shRA, shRok, c_4, c_16, c_22], by simp [shRS, shRok, c_4, c_16, c_22]⟩)

set_option maxHeartbeats 4000000 in
set_option maxRecDepth 100000 in
theorem c_X8_drop (l_ : Launch) (G : jG) (I : Nat → Nat → Int32) (J : Nat → Nat → Int64) (O : Nat → Nat → Nat) (sheet : Int32) : jMi l_ G yX8_drop wsX8_drop ({ frames := 2, cells := 0, slots := 0, locals := 45 }) [.ref (G.2.2.1 (20, 0, 0)), .int sheet] (I, J, O) (fun r u => r = drRA (I 50) (I 51) sheet ∧ u = (drRI I sheet, J, O)) := by
  refine jMi_of (cc := cX8_drop) (maxL := 2) (ret := (some .int)) (lv0 := [(0, .ref (G.2.2.1 (20, 0, 0))), (1, .int sheet)]) (by decide) rfl (Nat.le_of_ble_eq_true rfl) rfl ?_
  intro pg_ ev_ s_ mi_ below meth cd_ A ls hC hB hl
  obtain ⟨hx, hb, hr, hml, hown, hts, hlocks, hK, hA⟩ := id hC
  have lk_44 := hts (.fieldLink RX8 44 "RiddlePrisonModel" "laneOf" "[I") (by decide +kernel)
  have lk_47 := hts (.fieldLink RX8 47 "RiddlePrisonModel" "sizeOf" "[I") (by decide +kernel)
  have in_X8 := (fun w h => List.mem_cons_of_mem _ (List.mem_append_right _ h) : ∀ w ∈ wsX80, w ∈ wsX8_drop)
  refine lv_iload_n hx hb dX8_drop_0 rfl (lv_at hl 1 rfl) ?_
  refine j_csi [.int sheet] hC hB hl.1 (c_X8_isSheet l_ G I J O sheet) (va_cwS 1 hts gX8_drop_X8_isSheet rfl rfl rfl (by decide +kernel) ⟨by decide, by decide⟩) dX8_drop_1 rfl rfl (Nat.le_of_ble_eq_true rfl) (fun r_1 u_1 H locs hp_1 hB => ?_)
  obtain ⟨rfl, rfl⟩ := hp_1
  refine jb_if_ne (tgt := 9) hx hb dX8_drop_4 (by decide) (fun c_4 => ?_) (fun c_4 => ?_)
  · obtain ⟨ss, hss, rfl⟩ := isB_nat c_4 (by omega)
    refine lv_aload_n hx hb dX8_drop_9 rfl (lv_at hl 0 rfl) ?_
    refine j_get (20, 0, 0) 16 (v := .ref (G.2.2.1 (21, 50, 0))) hC hB in_X8 lk_44 dX8_drop_10 jk20 rfl rfl (by decide) rfl ?_
    refine lv_iload_n hx hb dX8_drop_13 rfl (lv_at hl 1 rfl) ?_
    refine j_iLd 50 ss hC hB dX8_drop_14 (by decide) rfl (by simp only [lenI_50]; omega) ?_
    refine j_eqi (y := (I 50) ss) rfl ?_
    refine lv_bipush (v := (-4 : Int32)) hx hb dX8_drop_15 (by decide) ?_
    refine lv_icmp_ne (tgt := 23) hx hb dX8_drop_17 (by decide) (fun c_17 => ?_) (fun c_17 => ?_)
    · refine lv_aload_n hx hb dX8_drop_23 rfl (lv_at hl 0 rfl) ?_
      refine j_get (20, 0, 0) 16 (v := .ref (G.2.2.1 (21, 50, 0))) hC hB in_X8 lk_44 dX8_drop_24 jk20 rfl rfl (by decide) rfl ?_
      refine lv_iload_n hx hb dX8_drop_27 rfl (lv_at hl 1 rfl) ?_
      refine lv_bipush (v := (-4 : Int32)) hx hb dX8_drop_28 (by decide) ?_
      refine j_iSt 50 ss hC hB dX8_drop_30 (by decide) rfl (by simp only [lenI_50]; omega) (fun H locs hB => ?_)
      have hB : jB G A s_.heap (sr I 50 (upd (I 50) ss ((-4 : Int32))), J, O) H locs := by rw [show sr I 50 (upd (I 50) ss ((-4 : Int32))) = u2 I 50 ss ((-4 : Int32)) from (u2_eq _ _ _ _).symm]; exact hB
      refine lv_aload_n hx hb dX8_drop_31 rfl (lv_at hl 0 rfl) ?_
      refine j_get (20, 0, 0) 17 (v := .ref (G.2.2.1 (21, 51, 0))) hC hB in_X8 lk_47 dX8_drop_32 jk20 rfl rfl (by decide) rfl ?_
      refine lv_iload_n hx hb dX8_drop_35 rfl (lv_at hl 1 rfl) ?_
      refine j_iLd 51 ss hC hB dX8_drop_36 (by decide) rfl (by simp only [lenI_51]; omega) ?_
      refine j_eqi (x := (sr I 50 (upd (I 50) ss ((-4 : Int32)))) 51 ss) (y := (I 51) ss) ((sr_nj (show (51 : Nat) ≠ 50 by omega))) ?_
      exact j_iret hC hB dX8_drop_37 (⟨by simp [drRA, tN, nIc (show ss < 2147483648 by omega), c_4, c_17], by simp [drRI, tN, nIc (show ss < 2147483648 by omega), c_4, c_17]⟩)
    · refine lv_bipush (v := (-11 : Int32)) hx hb dX8_drop_20 (by decide) ?_
      exact j_iret hC hB dX8_drop_22 (⟨by simp [drRA, tN, nIc (show ss < 2147483648 by omega), c_4, eq_true c_17], by simp [drRI, tN, nIc (show ss < 2147483648 by omega), c_4, eq_true c_17]⟩)
  · refine lv_iconst (v := (-1 : Int32)) hx hb dX8_drop_7 (by decide) ?_
    exact j_iret hC hB dX8_drop_8 (⟨by simp [drRA, c_4], by simp [drRI, c_4]⟩)

set_option maxHeartbeats 4000000 in
set_option maxRecDepth 100000 in
theorem c_X8_item (l_ : Launch) (G : jG) (I : Nat → Nat → Int32) (J : Nat → Nat → Int64) (O : Nat → Nat → Nat) (sheet lane i : Int32) (v : Int64) (hSzR : ∀ s, s < 4 → ∃ sz, sz ≤ 24 ∧ I 51 s = nI sz) : jMi l_ G yX8_item wsX8_item ({ frames := 2, cells := 0, slots := 0, locals := 49 }) [.ref (G.2.2.1 (20, 0, 0)), .int sheet, .int lane, .int i, .long v] (I, J, O) (fun r u => r = itRA (I 50) (I 51) sheet lane i ∧ u = (I, itRJ I J sheet lane i v, O)) := by
  refine jMi_of (cc := cX8_item) (maxL := 7) (ret := (some .int)) (lv0 := [(0, .ref (G.2.2.1 (20, 0, 0))), (1, .int sheet), (2, .int lane), (3, .int i), (4, .long v)]) (by decide) rfl (Nat.le_of_ble_eq_true rfl) rfl ?_
  intro pg_ ev_ s_ mi_ below meth cd_ A ls hC hB hl
  obtain ⟨hx, hb, hr, hml, hown, hts, hlocks, hK, hA⟩ := id hC
  have lk_50 := hts (.fieldLink RX8 50 "RiddlePrisonModel" "items" "[J") (by decide +kernel)
  have in_X8 := (fun w h => List.mem_cons_of_mem _ (List.mem_append_right _ h) : ∀ w ∈ wsX80, w ∈ wsX8_item)
  refine lv_iload_n hx hb dX8_item_0 rfl (lv_at hl 1 rfl) ?_
  refine j_csi [.int sheet] hC hB hl.1 (c_X8_isSheet l_ G I J O sheet) (va_cwS 1 hts gX8_item_X8_isSheet rfl rfl rfl (by decide +kernel) ⟨by decide, by decide⟩) dX8_item_1 rfl rfl (Nat.le_of_ble_eq_true rfl) (fun r_1 u_1 H locs hp_1 hB => ?_)
  obtain ⟨rfl, rfl⟩ := hp_1
  refine jb_if_eq (tgt := 19) hx hb dX8_item_4 (by decide) (fun c_4 => ?_) (fun c_4 => ?_)
  · refine lv_iconst (v := (-1 : Int32)) hx hb dX8_item_19 (by decide) ?_
    exact j_iret hC hB dX8_item_20 (⟨by simp [itRA, c_4], by simp [itRJ, c_4]⟩)
  · obtain ⟨ss, hss, rfl⟩ := isB_nat c_4 (by omega)
    refine lv_iload_n hx hb dX8_item_7 rfl (lv_at hl 2 rfl) ?_
    refine lv_i2l (v := lane.toInt64) hx hb dX8_item_8 rfl ?_
    refine lv_lconst (v := 0) hx hb dX8_item_9 rfl ?_
    refine lv_ldc2 (v := 3) hx hb hown (hts (.constantLong RX8 68 (3)) (by decide +kernel)) dX8_item_10 ?_
    refine j_csi [.long lane.toInt64, .long ((0 : Int64)), .long ((3 : Int64))] hC hB hl.1 (c_X8_in l_ G I J O lane.toInt64 ((0 : Int64)) ((3 : Int64))) (va_cwS 3 hts gX8_item_X8_in rfl rfl rfl (by decide +kernel) ⟨by decide, by decide⟩) dX8_item_13 rfl rfl (Nat.le_of_ble_eq_true rfl) (fun r_13 u_13 H locs hp_13 hB => ?_)
    obtain ⟨rfl, rfl⟩ := hp_13
    refine j_eqi (y := b2 (isB lane 4)) (by rw [inR_isB (n := 4) (by decide)]) ?_
    refine jb_if_ne (tgt := 21) hx hb dX8_item_16 (by decide) (fun c_16 => ?_) (fun c_16 => ?_)
    · refine lv_aload_n hx hb dX8_item_21 rfl (lv_at hl 0 rfl) ?_
      refine lv_iload_n hx hb dX8_item_22 rfl (lv_at hl 1 rfl) ?_
      refine lv_iload_n hx hb dX8_item_23 rfl (lv_at hl 2 rfl) ?_
      refine lv_iload_n hx hb dX8_item_24 rfl (lv_at hl 3 rfl) ?_
      refine lv_iconst (v := nI 1) hx hb dX8_item_25 (by decide) ?_
      refine j_cvi (20, 0, 0) [.int (nI ss), .int lane, .int i, .int (nI 1)] hC hB hl.1 (c_X8_refusesItems l_ G I J O ss lane i (nI 1) (by omega)) (cwV 4 hts gX8_item_X8_refusesItems rfl rfl rfl (by decide +kernel) ⟨by decide, by decide⟩) dX8_item_26 jk20 rfl rfl rfl rfl (Nat.le_of_ble_eq_true rfl) (fun r_26 u_26 H locs hp_26 hB => ?_)
      obtain ⟨rfl, rfl⟩ := hp_26
      refine lv_istore (lv' := [(6, .int (rfF (I 50) (I 51) ss lane i (nI 1))), (0, .ref (G.2.2.1 (20, 0, 0))), (1, .int (nI ss)), (2, .int lane), (3, .int i), (4, .long v)]) hx hb dX8_item_29 hl (by decide) rfl (fun ls hl => ?_)
      refine lv_iload hx hb dX8_item_31 (lv_at hl 0 rfl) ?_
      refine lv_if_eq (tgt := 39) hx hb dX8_item_33 (by decide) (fun c_33 => ?_) (fun c_33 => ?_)
      · obtain ⟨z, hz, ez⟩ := hSzR ss hss
        obtain ⟨hlz, h4z, j, hj, rfl⟩ := rfF_nat ez hz (by omega) c_33
        refine lv_aload_n hx hb dX8_item_39 rfl (lv_at hl 1 rfl) ?_
        refine j_get (20, 0, 0) 18 (v := .ref (G.2.2.1 (22, 12, 0))) hC hB in_X8 lk_50 dX8_item_40 jk20 rfl rfl (by decide) rfl ?_
        refine lv_bipush (v := nI 24) hx hb dX8_item_43 (by decide) ?_
        refine lv_iload_n hx hb dX8_item_45 rfl (lv_at hl 2 rfl) ?_
        refine jn_imul hx hb dX8_item_46 ?_
        refine lv_iload_n hx hb dX8_item_47 rfl (lv_at hl 4 rfl) ?_
        refine jn_iadd hx hb dX8_item_48 ?_
        refine lv_iload_n hx hb dX8_item_49 rfl (lv_at hl 3 rfl) ?_
        refine lv_lload hx hb dX8_item_50 (lv_at hl 5 rfl) ?_
        refine j_csl [.int lane, .long v] hC hB hl.1 (c_X8_cutTo l_ G I J O lane v) (va_cwS 2 hts gX8_item_X8_cutTo rfl rfl rfl (by decide +kernel) ⟨by decide, by decide⟩) dX8_item_52 rfl rfl (Nat.le_of_ble_eq_true rfl) (fun r_52 u_52 H locs hp_52 hB => ?_)
        obtain ⟨rfl, rfl⟩ := hp_52
        refine j_lSt 12 (24 * ss + j) hC hB dX8_item_55 (by decide) rfl (by simp only [lenJ_12]; omega) (fun H locs hB => ?_)
        have hB : jB G A s_.heap (I, srJ J 12 (vp_updL (J 12) (24 * ss + j) (ctF lane v)), O) H locs := by rw [show srJ J 12 (vp_updL (J 12) (24 * ss + j) (ctF lane v)) = v2 J 12 (24 * ss + j) (ctF lane v) from (v2_eq _ _ _ _).symm]; exact hB
        refine lv_iconst (v := nI 1) hx hb dX8_item_56 (by decide) ?_
        exact j_iret hC hB dX8_item_57 (⟨by simp [itRA, tN, nIc (show ss < 2147483648 by omega), c_4, c_16, eq_true c_33], by simp [itRJ, tN, nIc (show ss < 2147483648 by omega), nIc (show j < 2147483648 by omega), c_4, c_16, eq_true c_33]⟩)
      · refine lv_iload hx hb dX8_item_36 (lv_at hl 0 rfl) ?_
        exact j_iret hC hB dX8_item_38 (⟨by simp [itRA, tN, nIc (show ss < 2147483648 by omega), c_4, c_16, c_33], by simp [itRJ, tN, nIc (show ss < 2147483648 by omega), c_4, c_16, c_33]⟩)
    · refine lv_iconst (v := (-1 : Int32)) hx hb dX8_item_19 (by decide) ?_
      exact j_iret hC hB dX8_item_20 (⟨by simp [itRA, c_4, c_16], by simp [itRJ, c_4, c_16]⟩)

set_option maxHeartbeats 4000000 in
set_option maxRecDepth 100000 in
theorem c_X8_copy (l_ : Launch) (G : jG) (I : Nat → Nat → Int32) (J : Nat → Nat → Int64) (O : Nat → Nat → Nat) (fr i to_ j n : Int32) (hSzR : ∀ s, s < 4 → ∃ sz, sz ≤ 24 ∧ I 51 s = nI sz) : jMi l_ G yX8_copy wsX8_copy ({ frames := 2, cells := 0, slots := 0, locals := 49 }) [.ref (G.2.2.1 (20, 0, 0)), .int fr, .int i, .int to_, .int j, .int n] (I, J, O) (fun r u => r = cpRA (I 50) (I 51) fr i to_ j n ∧ u = (I, if cpRok (I 50) (I 51) fr i to_ j n = true then cpRJ J (tN fr) (tN i) (tN to_) (tN j) (tN n) else J, O)) := by
  refine jMi_of (cc := cX8_copy) (maxL := 7) (ret := (some .int)) (lv0 := [(0, .ref (G.2.2.1 (20, 0, 0))), (1, .int fr), (2, .int i), (3, .int to_), (4, .int j), (5, .int n)]) (by decide) rfl (Nat.le_of_ble_eq_true rfl) rfl ?_
  intro pg_ ev_ s_ mi_ below meth cd_ A ls hC hB hl
  obtain ⟨hx, hb, hr, hml, hown, hts, hlocks, hK, hA⟩ := id hC
  have lk_44 := hts (.fieldLink RX8 44 "RiddlePrisonModel" "laneOf" "[I") (by decide +kernel)
  have lk_50 := hts (.fieldLink RX8 50 "RiddlePrisonModel" "items" "[J") (by decide +kernel)
  have lk_53 := hts (.fieldLink RX8 53 "RiddlePrisonModel" "taken" "[J") (by decide +kernel)
  have in_X8 := (fun w h => List.mem_cons_of_mem _ (List.mem_append_right _ h) : ∀ w ∈ wsX80, w ∈ wsX8_copy)
  refine lv_iload_n hx hb dX8_copy_0 rfl (lv_at hl 1 rfl) ?_
  refine j_csi [.int fr] hC hB hl.1 (c_X8_isSheet l_ G I J O fr) (va_cwS 1 hts gX8_copy_X8_isSheet rfl rfl rfl (by decide +kernel) ⟨by decide, by decide⟩) dX8_copy_1 rfl rfl (Nat.le_of_ble_eq_true rfl) (fun r_1 u_1 H locs hp_1 hB => ?_)
  obtain ⟨rfl, rfl⟩ := hp_1
  refine jb_if_eq (tgt := 14) hx hb dX8_copy_4 (by decide) (fun c_4 => ?_) (fun c_4 => ?_)
  · refine lv_iconst (v := (-1 : Int32)) hx hb dX8_copy_14 (by decide) ?_
    exact j_iret hC hB dX8_copy_15 (⟨by simp [cpRA, c_4], by simp [cpRok, c_4]⟩)
  · obtain ⟨aa, haa, rfl⟩ := isB_nat c_4 (by omega)
    refine lv_iload_n hx hb dX8_copy_7 rfl (lv_at hl 3 rfl) ?_
    refine j_csi [.int to_] hC hB hl.1 (c_X8_isSheet l_ G I J O to_) (va_cwS 1 hts gX8_copy_X8_isSheet rfl rfl rfl (by decide +kernel) ⟨by decide, by decide⟩) dX8_copy_8 rfl rfl (Nat.le_of_ble_eq_true rfl) (fun r_8 u_8 H locs hp_8 hB => ?_)
    obtain ⟨rfl, rfl⟩ := hp_8
    refine jb_if_ne (tgt := 16) hx hb dX8_copy_11 (by decide) (fun c_11 => ?_) (fun c_11 => ?_)
    · obtain ⟨bb, hbb, rfl⟩ := isB_nat c_11 (by omega)
      refine lv_aload_n hx hb dX8_copy_16 rfl (lv_at hl 0 rfl) ?_
      refine j_get (20, 0, 0) 16 (v := .ref (G.2.2.1 (21, 50, 0))) hC hB in_X8 lk_44 dX8_copy_17 jk20 rfl rfl (by decide) rfl ?_
      refine lv_iload_n hx hb dX8_copy_20 rfl (lv_at hl 1 rfl) ?_
      refine j_iLd 50 aa hC hB dX8_copy_21 (by decide) rfl (by simp only [lenI_50]; omega) ?_
      refine j_eqi (y := (I 50) aa) rfl ?_
      refine lv_bipush (v := (-4 : Int32)) hx hb dX8_copy_22 (by decide) ?_
      refine lv_icmp_eq (tgt := 38) hx hb dX8_copy_24 (by decide) (fun c_24 => ?_) (fun c_24 => ?_)
      · refine lv_bipush (v := (-11 : Int32)) hx hb dX8_copy_38 (by decide) ?_
        exact j_iret hC hB dX8_copy_40 (⟨by simp [cpRA, cpRf, tN, nIc (show aa < 2147483648 by omega), nIc (show bb < 2147483648 by omega), c_4, c_11, eq_true c_24], by simp [cpRok, tN, nIc (show aa < 2147483648 by omega), nIc (show bb < 2147483648 by omega), c_4, c_11, eq_true c_24]⟩)
      · refine lv_aload_n hx hb dX8_copy_27 rfl (lv_at hl 0 rfl) ?_
        refine j_get (20, 0, 0) 16 (v := .ref (G.2.2.1 (21, 50, 0))) hC hB in_X8 lk_44 dX8_copy_28 jk20 rfl rfl (by decide) rfl ?_
        refine lv_iload_n hx hb dX8_copy_31 rfl (lv_at hl 3 rfl) ?_
        refine j_iLd 50 bb hC hB dX8_copy_32 (by decide) rfl (by simp only [lenI_50]; omega) ?_
        refine j_eqi (y := (I 50) bb) rfl ?_
        refine lv_bipush (v := (-4 : Int32)) hx hb dX8_copy_33 (by decide) ?_
        refine lv_icmp_ne (tgt := 41) hx hb dX8_copy_35 (by decide) (fun c_35 => ?_) (fun c_35 => ?_)
        · refine lv_aload_n hx hb dX8_copy_41 rfl (lv_at hl 0 rfl) ?_
          refine j_get (20, 0, 0) 16 (v := .ref (G.2.2.1 (21, 50, 0))) hC hB in_X8 lk_44 dX8_copy_42 jk20 rfl rfl (by decide) rfl ?_
          refine lv_iload_n hx hb dX8_copy_45 rfl (lv_at hl 1 rfl) ?_
          refine j_iLd 50 aa hC hB dX8_copy_46 (by decide) rfl (by simp only [lenI_50]; omega) ?_
          refine j_eqi (y := (I 50) aa) rfl ?_
          refine lv_aload_n hx hb dX8_copy_47 rfl (lv_at hl 0 rfl) ?_
          refine j_get (20, 0, 0) 16 (v := .ref (G.2.2.1 (21, 50, 0))) hC hB in_X8 lk_44 dX8_copy_48 jk20 rfl rfl (by decide) rfl ?_
          refine lv_iload_n hx hb dX8_copy_51 rfl (lv_at hl 3 rfl) ?_
          refine j_iLd 50 bb hC hB dX8_copy_52 (by decide) rfl (by simp only [lenI_50]; omega) ?_
          refine j_eqi (y := (I 50) bb) rfl ?_
          refine lv_icmp_eq (tgt := 59) hx hb dX8_copy_53 (by decide) (fun c_53 => ?_) (fun c_53 => ?_)
          · refine lv_iload hx hb dX8_copy_59 (lv_at hl 5 rfl) ?_
            refine lv_if_lt (tgt := 99) hx hb dX8_copy_61 (by decide) (fun c_61 => ?_) (fun c_61 => ?_)
            · refine lv_bipush (v := (-13 : Int32)) hx hb dX8_copy_99 (by decide) ?_
              exact j_iret hC hB dX8_copy_101 (⟨by simp [cpRA, cpRf, tN, nIc (show aa < 2147483648 by omega), nIc (show bb < 2147483648 by omega), c_4, c_11, c_24, c_35, eq_true c_53, c_61, Int32.not_le.mpr c_61], by simp [cpRok, tN, nIc (show aa < 2147483648 by omega), nIc (show bb < 2147483648 by omega), c_4, c_11, c_24, c_35, eq_true c_53, c_61, Int32.not_le.mpr c_61]⟩)
            · obtain ⟨kk, hkk, rfl⟩ := nI_of c_61
              refine lv_aload_n hx hb dX8_copy_64 rfl (lv_at hl 0 rfl) ?_
              refine lv_iload_n hx hb dX8_copy_65 rfl (lv_at hl 1 rfl) ?_
              refine lv_aload_n hx hb dX8_copy_66 rfl (lv_at hl 0 rfl) ?_
              refine j_get (20, 0, 0) 16 (v := .ref (G.2.2.1 (21, 50, 0))) hC hB in_X8 lk_44 dX8_copy_67 jk20 rfl rfl (by decide) rfl ?_
              refine lv_iload_n hx hb dX8_copy_70 rfl (lv_at hl 1 rfl) ?_
              refine j_iLd 50 aa hC hB dX8_copy_71 (by decide) rfl (by simp only [lenI_50]; omega) ?_
              refine j_eqi (y := (I 50) aa) rfl ?_
              refine lv_iload_n hx hb dX8_copy_72 rfl (lv_at hl 2 rfl) ?_
              refine lv_iload hx hb dX8_copy_73 (lv_at hl 5 rfl) ?_
              refine j_cvi (20, 0, 0) [.int (nI aa), .int ((I 50) aa), .int i, .int (nI kk)] hC hB hl.1 (c_X8_refusesItems l_ G I J O aa ((I 50) aa) i (nI kk) (by omega)) (cwV 4 hts gX8_copy_X8_refusesItems rfl rfl rfl (by decide +kernel) ⟨by decide, by decide⟩) dX8_copy_75 jk20 rfl rfl rfl rfl (Nat.le_of_ble_eq_true rfl) (fun r_75 u_75 H locs hp_75 hB => ?_)
              obtain ⟨rfl, rfl⟩ := hp_75
              refine lv_if_ne (tgt := 99) hx hb dX8_copy_78 (by decide) (fun c_78 => ?_) (fun c_78 => ?_)
              · refine lv_bipush (v := (-13 : Int32)) hx hb dX8_copy_99 (by decide) ?_
                exact j_iret hC hB dX8_copy_101 (⟨by simp [cpRA, cpRf, tN, nIc (show aa < 2147483648 by omega), nIc (show bb < 2147483648 by omega), c_4, c_11, c_24, c_35, eq_true c_53, c_61, c_78, nI_pos' (show kk < 2147483648 by omega)], by simp [cpRok, tN, nIc (show aa < 2147483648 by omega), nIc (show bb < 2147483648 by omega), c_4, c_11, c_24, c_35, eq_true c_53, c_61, c_78, nI_pos' (show kk < 2147483648 by omega)]⟩)
              · refine lv_aload_n hx hb dX8_copy_81 rfl (lv_at hl 0 rfl) ?_
                refine lv_iload_n hx hb dX8_copy_82 rfl (lv_at hl 3 rfl) ?_
                refine lv_aload_n hx hb dX8_copy_83 rfl (lv_at hl 0 rfl) ?_
                refine j_get (20, 0, 0) 16 (v := .ref (G.2.2.1 (21, 50, 0))) hC hB in_X8 lk_44 dX8_copy_84 jk20 rfl rfl (by decide) rfl ?_
                refine lv_iload_n hx hb dX8_copy_87 rfl (lv_at hl 3 rfl) ?_
                refine j_iLd 50 bb hC hB dX8_copy_88 (by decide) rfl (by simp only [lenI_50]; omega) ?_
                refine j_eqi (y := (I 50) bb) rfl ?_
                refine lv_iload hx hb dX8_copy_89 (lv_at hl 4 rfl) ?_
                refine lv_iload hx hb dX8_copy_91 (lv_at hl 5 rfl) ?_
                refine j_cvi (20, 0, 0) [.int (nI bb), .int ((I 50) bb), .int j, .int (nI kk)] hC hB hl.1 (c_X8_refusesItems l_ G I J O bb ((I 50) bb) j (nI kk) (by omega)) (cwV 4 hts gX8_copy_X8_refusesItems rfl rfl rfl (by decide +kernel) ⟨by decide, by decide⟩) dX8_copy_93 jk20 rfl rfl rfl rfl (Nat.le_of_ble_eq_true rfl) (fun r_93 u_93 H locs hp_93 hB => ?_)
                obtain ⟨rfl, rfl⟩ := hp_93
                refine lv_if_eq (tgt := 102) hx hb dX8_copy_96 (by decide) (fun c_96 => ?_) (fun c_96 => ?_)
                · obtain ⟨za, hza, eza⟩ := hSzR aa haa
                  obtain ⟨hlza, h4za, x2, hx2, rfl⟩ := rfF_nat eza hza (by omega) c_78
                  obtain ⟨zb, hzb, ezb⟩ := hSzR bb hbb
                  obtain ⟨hlzb, h4zb, x1, hx1, rfl⟩ := rfF_nat ezb hzb (by omega) c_96
                  refine lv_iconst (v := nI 0) hx hb dX8_copy_102 (by decide) ?_
                  refine lv_istore (lv' := [(6, .int (nI 0)), (0, .ref (G.2.2.1 (20, 0, 0))), (1, .int (nI aa)), (2, .int (nI x2)), (3, .int (nI bb)), (4, .int (nI x1)), (5, .int (nI kk))]) hx hb dX8_copy_103 hl (by decide) rfl (fun ls hl => ?_)
                  have lp_105 : ∀ (fu : Nat) (y : Nat → Int64) (k : Nat), kk - k < fu → (k ≤ kk) → (y = va_cpy (J 12) (J 13) (24 * aa + x2) 0 k) → ∀ H locs ls, jB G A s_.heap (I, srJ J 13 (y), O) H locs → lv_has ls 7 [(6, .int (nI k)), (0, .ref (G.2.2.1 (20, 0, 0))), (1, .int (nI aa)), (2, .int (nI x2)), (3, .int (nI bb)), (4, .int (nI x1)), (5, .int (nI kk))] → W pg_ l_ ev_ ({ frames := 2, cells := 0, slots := 0, locals := 49 }) s_ mi_ ([.ref (G.2.2.1 (20, 0, 0)), .int (nI aa), .int (nI x2), .int (nI bb), .int (nI x1), .int (nI kk)]).toArray below meth cd_ H locs 0 0 (jQi G A below [.ref (G.2.2.1 (20, 0, 0)), .int (nI aa), .int (nI x2), .int (nI bb), .int (nI x1), .int (nI kk)] s_ (fun r u => r = cpRA (I 50) (I 51) (nI aa) (nI x2) (nI bb) (nI x1) (nI kk) ∧ u = (I, if cpRok (I 50) (I 51) (nI aa) (nI x2) (nI bb) (nI x1) (nI kk) = true then cpRJ J (tN (nI aa)) (tN (nI x2)) (tN (nI bb)) (tN (nI x1)) (tN (nI kk)) else J, O))) (F0 mi_ 105 ls []) := by
                    intro fu
                    induction fu with
                    | zero => intro y k hf; exact absurd hf (Nat.not_lt_zero _)
                    | succ fu ih_105 =>
                      intro y k hf_105 hk hy H locs ls hB hl
                      refine lv_iload hx hb dX8_copy_105 (lv_at hl 0 rfl) ?_
                      refine lv_iload hx hb dX8_copy_107 (lv_at hl 6 rfl) ?_
                      refine jn_icmp_ge (tgt := 139) hx hb dX8_copy_109 (by decide) (by omega) (by omega) (fun c_109 => ?_) (fun c_109 => ?_)
                      · refine lv_iconst (v := nI 0) hx hb dX8_copy_139 (by decide) ?_
                        refine lv_istore (lv' := [(6, .int (nI 0)), (0, .ref (G.2.2.1 (20, 0, 0))), (1, .int (nI aa)), (2, .int (nI x2)), (3, .int (nI bb)), (4, .int (nI x1)), (5, .int (nI kk))]) hx hb dX8_copy_140 hl (by decide) rfl (fun ls hl => ?_)
                        have lp_142 : ∀ (fu : Nat) (y2 : Nat → Int64) (q : Nat), kk - q < fu → (q ≤ kk) → (y2 = va_cpy y (J 12) 0 (24 * bb + x1) q) → ∀ H locs ls, jB G A s_.heap (I, srJ (srJ J 13 (y)) 12 (y2), O) H locs → lv_has ls 7 [(6, .int (nI q)), (0, .ref (G.2.2.1 (20, 0, 0))), (1, .int (nI aa)), (2, .int (nI x2)), (3, .int (nI bb)), (4, .int (nI x1)), (5, .int (nI kk))] → W pg_ l_ ev_ ({ frames := 2, cells := 0, slots := 0, locals := 49 }) s_ mi_ ([.ref (G.2.2.1 (20, 0, 0)), .int (nI aa), .int (nI x2), .int (nI bb), .int (nI x1), .int (nI kk)]).toArray below meth cd_ H locs 0 0 (jQi G A below [.ref (G.2.2.1 (20, 0, 0)), .int (nI aa), .int (nI x2), .int (nI bb), .int (nI x1), .int (nI kk)] s_ (fun r u => r = cpRA (I 50) (I 51) (nI aa) (nI x2) (nI bb) (nI x1) (nI kk) ∧ u = (I, if cpRok (I 50) (I 51) (nI aa) (nI x2) (nI bb) (nI x1) (nI kk) = true then cpRJ J (tN (nI aa)) (tN (nI x2)) (tN (nI bb)) (tN (nI x1)) (tN (nI kk)) else J, O))) (F0 mi_ 142 ls []) := by
                          intro fu
                          induction fu with
                          | zero => intro y2 q hf; exact absurd hf (Nat.not_lt_zero _)
                          | succ fu ih_142 =>
                            intro y2 q hf_142 hq hy2 H locs ls hB hl
                            refine lv_iload hx hb dX8_copy_142 (lv_at hl 0 rfl) ?_
                            refine lv_iload hx hb dX8_copy_144 (lv_at hl 6 rfl) ?_
                            refine jn_icmp_ge (tgt := 177) hx hb dX8_copy_146 (by decide) (by omega) (by omega) (fun c_146 => ?_) (fun c_146 => ?_)
                            · refine lv_iload hx hb dX8_copy_177 (lv_at hl 6 rfl) ?_
                              exact j_iret hC hB dX8_copy_179 (⟨by simp [cpRA, cpRf, tN, nIc (show aa < 2147483648 by omega), nIc (show bb < 2147483648 by omega), c_4, c_11, c_24, c_35, eq_true c_53, c_61, eq_true c_78, eq_true c_96, c_109, c_146, nI_pos' (show kk < 2147483648 by omega), nIc (show kk < 2147483648 by omega), nIc (show x1 < 2147483648 by omega), nIc (show x2 < 2147483648 by omega)], by rw [hy2, hy, show k = kk by omega, show q = kk by omega]; simp [cpRok, cpRJ, tN, nIc (show aa < 2147483648 by omega), nIc (show bb < 2147483648 by omega), c_4, c_11, c_24, c_35, eq_true c_53, c_61, eq_true c_78, eq_true c_96, c_109, c_146, nI_pos' (show kk < 2147483648 by omega), nIc (show kk < 2147483648 by omega), nIc (show x1 < 2147483648 by omega), nIc (show x2 < 2147483648 by omega)]⟩)
                            · refine lv_aload_n hx hb dX8_copy_149 rfl (lv_at hl 1 rfl) ?_
                              refine j_get (20, 0, 0) 18 (v := .ref (G.2.2.1 (22, 12, 0))) hC hB in_X8 lk_50 dX8_copy_150 jk20 rfl rfl (by decide) rfl ?_
                              refine lv_bipush (v := nI 24) hx hb dX8_copy_153 (by decide) ?_
                              refine lv_iload_n hx hb dX8_copy_155 rfl (lv_at hl 4 rfl) ?_
                              refine jn_imul hx hb dX8_copy_156 ?_
                              refine lv_iload hx hb dX8_copy_157 (lv_at hl 5 rfl) ?_
                              refine jn_iadd hx hb dX8_copy_159 ?_
                              refine lv_iload hx hb dX8_copy_160 (lv_at hl 0 rfl) ?_
                              refine jn_iadd hx hb dX8_copy_162 ?_
                              refine lv_aload_n hx hb dX8_copy_163 rfl (lv_at hl 1 rfl) ?_
                              refine j_get (20, 0, 0) 19 (v := .ref (G.2.2.1 (22, 13, 0))) hC hB in_X8 lk_53 dX8_copy_164 jk20 rfl rfl (by decide) rfl ?_
                              refine lv_iload hx hb dX8_copy_167 (lv_at hl 0 rfl) ?_
                              refine j_lLd 13 q hC hB dX8_copy_169 (by decide) rfl (by simp only [lenJ_13]; omega) ?_
                              refine j_eql (x := (srJ (srJ J 13 (y)) 12 (y2)) 13 q) (y := y q) ((srJ_nj (show (13 : Nat) ≠ 12 by omega)).trans (srJ_sj)) ?_
                              refine j_lSt 12 (24 * bb + x1 + q) hC hB dX8_copy_170 (by decide) rfl (by simp only [lenJ_12]; omega) (fun H locs hB => ?_)
                              have hB : jB G A s_.heap (I, srJ (srJ J 13 (y)) 12 (vp_updL (y2) (24 * bb + x1 + q) (y q)), O) H locs := by rw [show srJ (srJ J 13 (y)) 12 (vp_updL (y2) (24 * bb + x1 + q) (y q)) = v2 (srJ (srJ J 13 (y)) 12 (y2)) 12 (24 * bb + x1 + q) (y q) from (v2_srJ _ _ _ _ _).symm]; exact hB
                              refine lv_iinc (v := nI (q + 1)) (lv' := [(6, .int (nI (q + 1))), (0, .ref (G.2.2.1 (20, 0, 0))), (1, .int (nI aa)), (2, .int (nI x2)), (3, .int (nI bb)), (4, .int (nI x1)), (5, .int (nI kk))]) hx hb dX8_copy_171 hl (k := 0) rfl (jn_inc _ 1) (by decide) rfl (fun ls hl => ?_)
                              refine lv_goto (tgt := 142) hx hb dX8_copy_174 (by decide) ?_
                              exact ih_142 (vp_updL (y2) (24 * bb + x1 + q) (y q)) (q + 1) (by omega) (by omega) (by rw [hy2, ← cpJ_step, Nat.zero_add]) _ _ _ hB (lv_sub hl [0, 1, 2, 3, 4, 5, 6] rfl)
                        exact lp_142 _ (J 12) 0 (Nat.lt_succ_self _) (by omega) ((cpJ_0 _ _).symm) _ _ _ (jB_cast2 hB rfl (by first | exact (srJ_id _ _).symm | (funext a_; simp +decide only [srJ]; (repeat' split) <;> first | rfl | (exfalso; omega) | (subst_vars; rfl)))) (lv_sub hl [0, 1, 2, 3, 4, 5, 6] rfl)
                      · refine lv_aload_n hx hb dX8_copy_112 rfl (lv_at hl 1 rfl) ?_
                        refine j_get (20, 0, 0) 19 (v := .ref (G.2.2.1 (22, 13, 0))) hC hB in_X8 lk_53 dX8_copy_113 jk20 rfl rfl (by decide) rfl ?_
                        refine lv_iload hx hb dX8_copy_116 (lv_at hl 0 rfl) ?_
                        refine lv_aload_n hx hb dX8_copy_118 rfl (lv_at hl 1 rfl) ?_
                        refine j_get (20, 0, 0) 18 (v := .ref (G.2.2.1 (22, 12, 0))) hC hB in_X8 lk_50 dX8_copy_119 jk20 rfl rfl (by decide) rfl ?_
                        refine lv_bipush (v := nI 24) hx hb dX8_copy_122 (by decide) ?_
                        refine lv_iload_n hx hb dX8_copy_124 rfl (lv_at hl 2 rfl) ?_
                        refine jn_imul hx hb dX8_copy_125 ?_
                        refine lv_iload_n hx hb dX8_copy_126 rfl (lv_at hl 3 rfl) ?_
                        refine jn_iadd hx hb dX8_copy_127 ?_
                        refine lv_iload hx hb dX8_copy_128 (lv_at hl 0 rfl) ?_
                        refine jn_iadd hx hb dX8_copy_130 ?_
                        refine j_lLd 12 (24 * aa + x2 + k) hC hB dX8_copy_131 (by decide) rfl (by simp only [lenJ_12]; omega) ?_
                        refine j_eql (x := (srJ J 13 (y)) 12 (24 * aa + x2 + k)) (y := (J 12) (24 * aa + x2 + k)) ((srJ_nj (show (12 : Nat) ≠ 13 by omega))) ?_
                        refine j_lSt 13 k hC hB dX8_copy_132 (by decide) rfl (by simp only [lenJ_13]; omega) (fun H locs hB => ?_)
                        have hB : jB G A s_.heap (I, srJ J 13 (vp_updL (y) k ((J 12) (24 * aa + x2 + k))), O) H locs := by rw [show srJ J 13 (vp_updL (y) k ((J 12) (24 * aa + x2 + k))) = v2 (srJ J 13 (y)) 13 k ((J 12) (24 * aa + x2 + k)) from (v2_srJ _ _ _ _ _).symm]; exact hB
                        refine lv_iinc (v := nI (k + 1)) (lv' := [(6, .int (nI (k + 1))), (0, .ref (G.2.2.1 (20, 0, 0))), (1, .int (nI aa)), (2, .int (nI x2)), (3, .int (nI bb)), (4, .int (nI x1)), (5, .int (nI kk))]) hx hb dX8_copy_133 hl (k := 0) rfl (jn_inc _ 1) (by decide) rfl (fun ls hl => ?_)
                        refine lv_goto (tgt := 105) hx hb dX8_copy_136 (by decide) ?_
                        exact ih_105 (vp_updL (y) k ((J 12) (24 * aa + x2 + k))) (k + 1) (by omega) (by omega) (by rw [hy]; exact cpJ_step0 _ _) _ _ _ hB (lv_sub hl [0, 1, 2, 3, 4, 5, 6] rfl)
                  exact lp_105 _ (J 13) 0 (Nat.lt_succ_self _) (by omega) ((cpJ_0 _ _).symm) _ _ _ (jB_cast2 hB rfl (by first | exact (srJ_id _ _).symm | (funext a_; simp +decide only [srJ]; (repeat' split) <;> first | rfl | (exfalso; omega) | (subst_vars; rfl)))) (lv_sub hl [0, 1, 2, 3, 4, 5, 6] rfl)
                · refine lv_bipush (v := (-13 : Int32)) hx hb dX8_copy_99 (by decide) ?_
                  exact j_iret hC hB dX8_copy_101 (⟨by simp [cpRA, cpRf, tN, nIc (show aa < 2147483648 by omega), nIc (show bb < 2147483648 by omega), c_4, c_11, c_24, c_35, eq_true c_53, c_61, eq_true c_78, c_96, nI_pos' (show kk < 2147483648 by omega)], by simp [cpRok, tN, nIc (show aa < 2147483648 by omega), nIc (show bb < 2147483648 by omega), c_4, c_11, c_24, c_35, eq_true c_53, c_61, eq_true c_78, c_96, nI_pos' (show kk < 2147483648 by omega)]⟩)
          · refine lv_bipush (v := (-12 : Int32)) hx hb dX8_copy_56 (by decide) ?_
            exact j_iret hC hB dX8_copy_58 (⟨by simp [cpRA, cpRf, tN, nIc (show aa < 2147483648 by omega), nIc (show bb < 2147483648 by omega), c_4, c_11, c_24, c_35, c_53], by simp [cpRok, tN, nIc (show aa < 2147483648 by omega), nIc (show bb < 2147483648 by omega), c_4, c_11, c_24, c_35, c_53]⟩)
        · refine lv_bipush (v := (-11 : Int32)) hx hb dX8_copy_38 (by decide) ?_
          exact j_iret hC hB dX8_copy_40 (⟨by simp [cpRA, cpRf, tN, nIc (show aa < 2147483648 by omega), nIc (show bb < 2147483648 by omega), c_4, c_11, c_24, eq_true c_35], by simp [cpRok, tN, nIc (show aa < 2147483648 by omega), nIc (show bb < 2147483648 by omega), c_4, c_11, c_24, eq_true c_35]⟩)
    · refine lv_iconst (v := (-1 : Int32)) hx hb dX8_copy_14 (by decide) ?_
      exact j_iret hC hB dX8_copy_15 (⟨by simp [cpRA, c_4, c_11], by simp [cpRok, c_4, c_11]⟩)

set_option maxHeartbeats 4000000 in
set_option maxRecDepth 100000 in
theorem c_X8_isHeardBy (l_ : Launch) (G : jG) (I : Nat → Nat → Int32) (J : Nat → Nat → Int64) (O : Nat → Nat → Nat) (m : Nat) (kind wit : Int32) (n : Nat) (hm : m < 4) (hn8 : n ≤ 8) {nd : Nat} (hnd : nd ≤ 10) (hD : I 41 0 = nI nd) (hHD : ∀ k, k < n → ∃ d, d < nd ∧ I 52 k = nI d) : jMi l_ G yX8_isHeardBy wsX8_isHeardBy ({ frames := 1, cells := 0, slots := 0, locals := 27 }) [.ref (G.2.2.1 (20, 0, 0)), .int (nI m), .int kind, .int wit, .int (nI n)] (I, J, O) (fun r u => r = b2 (heB (I 41) (I 52) (I 53) m kind wit n) ∧ u = (I, J, O)) := by
  refine jMi_of (cc := cX8_isHeardBy) (maxL := 12) (ret := (some .boolean)) (lv0 := [(0, .ref (G.2.2.1 (20, 0, 0))), (1, .int (nI m)), (2, .int kind), (3, .int wit), (4, .int (nI n))]) (by decide) rfl (Nat.le_of_ble_eq_true rfl) rfl ?_
  intro pg_ ev_ s_ mi_ below meth cd_ A ls hC hB hl
  obtain ⟨hx, hb, hr, hml, hown, hts, hlocks, hK, hA⟩ := id hC
  have lk_7 := hts (.fieldLink RX8 7 "RiddlePrisonModel" "now" "[I") (by decide +kernel)
  have lk_56 := hts (.fieldLink RX8 56 "RiddlePrisonModel" "heardDoors" "[I") (by decide +kernel)
  have lk_59 := hts (.fieldLink RX8 59 "RiddlePrisonModel" "heardPassed" "[I") (by decide +kernel)
  have in_X8 := (fun w h => List.mem_cons_of_mem _ (List.mem_append_right _ h) : ∀ w ∈ wsX80, w ∈ wsX8_isHeardBy)
  refine lv_aload_n hx hb dX8_isHeardBy_0 rfl (lv_at hl 0 rfl) ?_
  refine j_get (20, 0, 0) 0 (v := .ref (G.2.2.1 (21, 41, 0))) hC hB in_X8 lk_7 dX8_isHeardBy_1 jk20 rfl rfl (by decide) rfl ?_
  refine lv_bipush (v := nI 51) hx hb dX8_isHeardBy_4 (by decide) ?_
  refine lv_iload_n hx hb dX8_isHeardBy_6 rfl (lv_at hl 1 rfl) ?_
  refine jn_iadd hx hb dX8_isHeardBy_7 ?_
  refine j_iLd 41 (51 + m) hC hB dX8_isHeardBy_8 (by decide) rfl (by simp only [lenI_41]; omega) ?_
  refine j_eqi (y := (I 41) (51 + m)) rfl ?_
  refine lv_istore (lv' := [(5, .int ((I 41) (51 + m))), (0, .ref (G.2.2.1 (20, 0, 0))), (1, .int (nI m)), (2, .int kind), (3, .int wit), (4, .int (nI n))]) hx hb dX8_isHeardBy_9 hl (by decide) rfl (fun ls hl => ?_)
  refine lv_aload_n hx hb dX8_isHeardBy_11 rfl (lv_at hl 1 rfl) ?_
  refine j_get (20, 0, 0) 0 (v := .ref (G.2.2.1 (21, 41, 0))) hC hB in_X8 lk_7 dX8_isHeardBy_12 jk20 rfl rfl (by decide) rfl ?_
  refine lv_bipush (v := nI 59) hx hb dX8_isHeardBy_15 (by decide) ?_
  refine lv_iload_n hx hb dX8_isHeardBy_17 rfl (lv_at hl 2 rfl) ?_
  refine jn_iadd hx hb dX8_isHeardBy_18 ?_
  refine j_iLd 41 (59 + m) hC hB dX8_isHeardBy_19 (by decide) rfl (by simp only [lenI_41]; omega) ?_
  refine j_eqi (y := (I 41) (59 + m)) rfl ?_
  refine lv_istore (lv' := [(6, .int ((I 41) (59 + m))), (5, .int ((I 41) (51 + m))), (0, .ref (G.2.2.1 (20, 0, 0))), (1, .int (nI m)), (2, .int kind), (3, .int wit), (4, .int (nI n))]) hx hb dX8_isHeardBy_20 hl (by decide) rfl (fun ls hl => ?_)
  refine lv_iconst (v := nI 1) hx hb dX8_isHeardBy_22 (by decide) ?_
  refine lv_istore (lv' := [(7, .int (nI 1)), (6, .int ((I 41) (59 + m))), (5, .int ((I 41) (51 + m))), (0, .ref (G.2.2.1 (20, 0, 0))), (1, .int (nI m)), (2, .int kind), (3, .int wit), (4, .int (nI n))]) hx hb dX8_isHeardBy_23 hl (by decide) rfl (fun ls hl => ?_)
  refine lv_iconst (v := nI 0) hx hb dX8_isHeardBy_25 (by decide) ?_
  refine lv_istore (lv' := [(8, .int (nI 0)), (7, .int (nI 1)), (6, .int ((I 41) (59 + m))), (5, .int ((I 41) (51 + m))), (0, .ref (G.2.2.1 (20, 0, 0))), (1, .int (nI m)), (2, .int kind), (3, .int wit), (4, .int (nI n))]) hx hb dX8_isHeardBy_26 hl (by decide) rfl (fun ls hl => ?_)
  have lp_28 : ∀ (fu : Nat) (ce : Int32) (fa : Int32) (is_ : Bool) (k : Nat), n - k < fu → (k ≤ n) → ((ce, fa, is_) = it (heS (I 41) (I 52) (I 53) m kind wit) k (I 41 (51 + m), I 41 (59 + m), true)) → ∀ H locs ls, jB G A s_.heap (I, J, O) H locs → lv_has ls 12 [(8, .int (nI k)), (7, .int (b2 is_)), (6, .int fa), (5, .int ce), (0, .ref (G.2.2.1 (20, 0, 0))), (1, .int (nI m)), (2, .int kind), (3, .int wit), (4, .int (nI n))] → W pg_ l_ ev_ ({ frames := 1, cells := 0, slots := 0, locals := 27 }) s_ mi_ ([.ref (G.2.2.1 (20, 0, 0)), .int (nI m), .int kind, .int wit, .int (nI n)]).toArray below meth cd_ H locs 0 0 (jQi G A below [.ref (G.2.2.1 (20, 0, 0)), .int (nI m), .int kind, .int wit, .int (nI n)] s_ (fun r u => r = b2 (heB (I 41) (I 52) (I 53) m kind wit n) ∧ u = (I, J, O))) (F0 mi_ 28 ls []) := by
    intro fu
    induction fu with
    | zero => intro ce fa is_ k hf; exact absurd hf (Nat.not_lt_zero _)
    | succ fu ih_28 =>
      intro ce fa is_ k hf_28 hk hs H locs ls hB hl
      refine lv_iload hx hb dX8_isHeardBy_28 (lv_at hl 0 rfl) ?_
      refine lv_iload hx hb dX8_isHeardBy_30 (lv_at hl 8 rfl) ?_
      refine jn_icmp_ge (tgt := 208) hx hb dX8_isHeardBy_32 (by decide) (by omega) (by omega) (fun c_32 => ?_) (fun c_32 => ?_)
      · refine lv_iload hx hb dX8_isHeardBy_208 (lv_at hl 1 rfl) ?_
        exact j_zret hC hB dX8_isHeardBy_210 (b2_01 _) (⟨by unfold heB; rw [show n = k by omega, ← hs], rfl⟩)
      · refine lv_iload hx hb dX8_isHeardBy_35 (lv_at hl 1 rfl) ?_
        refine jb_if_eq (tgt := 208) hx hb dX8_isHeardBy_37 (by decide) (fun c_37 => ?_) (fun c_37 => ?_)
        · refine lv_iload hx hb dX8_isHeardBy_208 (lv_at hl 1 rfl) ?_
          exact j_zret hC hB dX8_isHeardBy_210 (b2_01 _) (⟨by rw [c_37] at hs ⊢; rw [heB, heS_stop hk hs], rfl⟩)
        · refine lv_aload_n hx hb dX8_isHeardBy_40 rfl (lv_at hl 4 rfl) ?_
          refine j_get (20, 0, 0) 20 (v := .ref (G.2.2.1 (21, 52, 0))) hC hB in_X8 lk_56 dX8_isHeardBy_41 jk20 rfl rfl (by decide) rfl ?_
          refine lv_iload hx hb dX8_isHeardBy_44 (lv_at hl 0 rfl) ?_
          refine j_iLd 52 k hC hB dX8_isHeardBy_46 (by decide) rfl (by simp only [lenI_52]; omega) ?_
          refine j_eqi (y := (I 52) k) rfl ?_
          obtain ⟨d, hd, ed⟩ := hHD k (by omega)
          refine j_eqi (y := nI d) ed ?_
          refine lv_istore (lv' := [(9, .int (nI d)), (8, .int (nI k)), (7, .int (b2 is_)), (6, .int fa), (5, .int ce), (0, .ref (G.2.2.1 (20, 0, 0))), (1, .int (nI m)), (2, .int kind), (3, .int wit), (4, .int (nI n))]) hx hb dX8_isHeardBy_47 hl (by decide) rfl (fun ls hl => ?_)
          refine lv_aload_n hx hb dX8_isHeardBy_49 rfl (lv_at hl 5 rfl) ?_
          refine lv_iload hx hb dX8_isHeardBy_50 (lv_at hl 0 rfl) ?_
          refine lv_iload hx hb dX8_isHeardBy_52 (lv_at hl 4 rfl) ?_
          refine j_cvi (20, 0, 0) [.int (nI d), .int ce] hC hB hl.1 (c_X8_behind l_ G I J O d ce (by omega)) (cwV 2 hts gX8_isHeardBy_X8_behind rfl rfl rfl (by decide +kernel) ⟨by decide, by decide⟩) dX8_isHeardBy_54 jk20 rfl rfl rfl rfl (Nat.le_of_ble_eq_true rfl) (fun r_54 u_54 H locs hp_54 hB => ?_)
          obtain ⟨rfl, rfl⟩ := hp_54
          refine lv_istore (lv' := [(10, .int (bhF (I 41) d ce)), (9, .int (nI d)), (8, .int (nI k)), (7, .int (b2 is_)), (6, .int fa), (5, .int ce), (0, .ref (G.2.2.1 (20, 0, 0))), (1, .int (nI m)), (2, .int kind), (3, .int wit), (4, .int (nI n))]) hx hb dX8_isHeardBy_57 hl (by decide) rfl (fun ls hl => ?_)
          refine lv_iload hx hb dX8_isHeardBy_59 (lv_at hl 0 rfl) ?_
          refine lv_bipush (v := (-4 : Int32)) hx hb dX8_isHeardBy_61 (by decide) ?_
          refine lv_icmp_eq (tgt := 128) hx hb dX8_isHeardBy_63 (by decide) (fun c_63 => ?_) (fun c_63 => ?_)
          · refine lv_iconst (v := nI 0) hx hb dX8_isHeardBy_128 (by decide) ?_
            refine lv_istore (lv' := [(11, .int (nI 0)), (10, .int (bhF (I 41) d ce)), (9, .int (nI d)), (8, .int (nI k)), (7, .int (b2 is_)), (6, .int fa), (5, .int ce), (0, .ref (G.2.2.1 (20, 0, 0))), (1, .int (nI m)), (2, .int kind), (3, .int wit), (4, .int (nI n))]) hx hb dX8_isHeardBy_129 hl (by decide) rfl (fun ls hl => ?_)
            refine lv_iload hx hb dX8_isHeardBy_131 (lv_at hl 0 rfl) ?_
            refine lv_aload_n hx hb dX8_isHeardBy_133 rfl (lv_at hl 7 rfl) ?_
            refine j_get (20, 0, 0) 21 (v := .ref (G.2.2.1 (21, 53, 0))) hC hB in_X8 lk_59 dX8_isHeardBy_134 jk20 rfl rfl (by decide) rfl ?_
            refine lv_iload hx hb dX8_isHeardBy_137 (lv_at hl 3 rfl) ?_
            refine j_iLd 53 k hC hB dX8_isHeardBy_139 (by decide) rfl (by simp only [lenI_53]; omega) ?_
            refine j_eqi (y := (I 53) k) rfl ?_
            refine lv_iconst (v := nI 1) hx hb dX8_isHeardBy_140 (by decide) ?_
            refine lv_icmp_ne (tgt := 148) hx hb dX8_isHeardBy_141 (by decide) (fun c_141 => ?_) (fun c_141 => ?_)
            · refine lv_iconst (v := nI 0) hx hb dX8_isHeardBy_148 (by decide) ?_
              refine jn_icmp_ne (tgt := 156) hx hb dX8_isHeardBy_149 (by decide) (by omega) (by omega) (fun c_149 => ?_) (fun c_149 => ?_)
              · exact absurd rfl c_149
              · refine lv_iconst (v := nI 1) hx hb dX8_isHeardBy_152 (by decide) ?_
                refine lv_goto (tgt := 157) hx hb dX8_isHeardBy_153 (by decide) ?_
                refine lv_istore (lv' := [(7, .int (nI 1)), (11, .int (nI 0)), (10, .int (bhF (I 41) d ce)), (9, .int (nI d)), (8, .int (nI k)), (6, .int fa), (5, .int ce), (0, .ref (G.2.2.1 (20, 0, 0))), (1, .int (nI m)), (2, .int kind), (3, .int wit), (4, .int (nI n))]) hx hb dX8_isHeardBy_157 hl (by decide) rfl (fun ls hl => ?_)
                refine lv_iload hx hb dX8_isHeardBy_159 (lv_at hl 5 rfl) ?_
                refine lv_iload hx hb dX8_isHeardBy_161 (lv_at hl 2 rfl) ?_
                refine lv_bipush (v := (-4 : Int32)) hx hb dX8_isHeardBy_163 (by decide) ?_
                refine lv_icmp_eq (tgt := 184) hx hb dX8_isHeardBy_165 (by decide) (fun c_165 => ?_) (fun c_165 => ?_)
                · refine lv_iconst (v := nI 0) hx hb dX8_isHeardBy_184 (by decide) ?_
                  refine lv_iadd hx hb dX8_isHeardBy_185 ?_
                  refine lv_istore (lv' := [(6, .int (fa + (nI 0))), (7, .int (nI 1)), (11, .int (nI 0)), (10, .int (bhF (I 41) d ce)), (9, .int (nI d)), (8, .int (nI k)), (5, .int ce), (0, .ref (G.2.2.1 (20, 0, 0))), (1, .int (nI m)), (2, .int kind), (3, .int wit), (4, .int (nI n))]) hx hb dX8_isHeardBy_186 hl (by decide) rfl (fun ls hl => ?_)
                  refine lv_iload hx hb dX8_isHeardBy_188 (lv_at hl 2 rfl) ?_
                  refine jn_if_eq (tgt := 198) hx hb dX8_isHeardBy_190 (by decide) (by omega) (fun c_190 => ?_) (fun c_190 => ?_)
                  · refine lv_iload hx hb dX8_isHeardBy_198 (lv_at hl 6 rfl) ?_
                    refine lv_istore (lv' := [(5, .int ce), (6, .int (fa + (nI 0))), (7, .int (nI 1)), (11, .int (nI 0)), (10, .int (bhF (I 41) d ce)), (9, .int (nI d)), (8, .int (nI k)), (0, .ref (G.2.2.1 (20, 0, 0))), (1, .int (nI m)), (2, .int kind), (3, .int wit), (4, .int (nI n))]) hx hb dX8_isHeardBy_200 hl (by decide) rfl (fun ls hl => ?_)
                    refine lv_iinc (v := nI (k + 1)) (lv' := [(8, .int (nI (k + 1))), (5, .int ce), (6, .int (fa + (nI 0))), (7, .int (nI 1)), (11, .int (nI 0)), (10, .int (bhF (I 41) d ce)), (9, .int (nI d)), (0, .ref (G.2.2.1 (20, 0, 0))), (1, .int (nI m)), (2, .int kind), (3, .int wit), (4, .int (nI n))]) hx hb dX8_isHeardBy_202 hl (k := 6) rfl (jn_inc _ 1) (by decide) rfl (fun ls hl => ?_)
                    refine lv_goto (tgt := 28) hx hb dX8_isHeardBy_205 (by decide) ?_
                    exact ih_28 ce (fa + (nI 0)) true (k + 1) (by omega) (by omega) (by rw [it_s, ← hs]; simp [heS, tN, ed, nIc (show d < 2147483648 by omega), c_37, eq_true c_63, c_141]) _ _ _ hB (lv_sub hl [0, 3, 2, 1, 7, 8, 9, 10, 11] rfl)
                  · exact absurd rfl c_190
                · exact absurd c_63 c_165
            · refine lv_iconst (v := nI 1) hx hb dX8_isHeardBy_144 (by decide) ?_
              refine lv_goto (tgt := 149) hx hb dX8_isHeardBy_145 (by decide) ?_
              refine jn_icmp_ne (tgt := 156) hx hb dX8_isHeardBy_149 (by decide) (by omega) (by omega) (fun c_149 => ?_) (fun c_149 => ?_)
              · refine lv_iconst (v := nI 0) hx hb dX8_isHeardBy_156 (by decide) ?_
                refine lv_istore (lv' := [(7, .int (nI 0)), (11, .int (nI 0)), (10, .int (bhF (I 41) d ce)), (9, .int (nI d)), (8, .int (nI k)), (6, .int fa), (5, .int ce), (0, .ref (G.2.2.1 (20, 0, 0))), (1, .int (nI m)), (2, .int kind), (3, .int wit), (4, .int (nI n))]) hx hb dX8_isHeardBy_157 hl (by decide) rfl (fun ls hl => ?_)
                refine lv_iload hx hb dX8_isHeardBy_159 (lv_at hl 5 rfl) ?_
                refine lv_iload hx hb dX8_isHeardBy_161 (lv_at hl 2 rfl) ?_
                refine lv_bipush (v := (-4 : Int32)) hx hb dX8_isHeardBy_163 (by decide) ?_
                refine lv_icmp_eq (tgt := 184) hx hb dX8_isHeardBy_165 (by decide) (fun c_165 => ?_) (fun c_165 => ?_)
                · refine lv_iconst (v := nI 0) hx hb dX8_isHeardBy_184 (by decide) ?_
                  refine lv_iadd hx hb dX8_isHeardBy_185 ?_
                  refine lv_istore (lv' := [(6, .int (fa + (nI 0))), (7, .int (nI 0)), (11, .int (nI 0)), (10, .int (bhF (I 41) d ce)), (9, .int (nI d)), (8, .int (nI k)), (5, .int ce), (0, .ref (G.2.2.1 (20, 0, 0))), (1, .int (nI m)), (2, .int kind), (3, .int wit), (4, .int (nI n))]) hx hb dX8_isHeardBy_186 hl (by decide) rfl (fun ls hl => ?_)
                  refine lv_iload hx hb dX8_isHeardBy_188 (lv_at hl 2 rfl) ?_
                  refine jn_if_eq (tgt := 198) hx hb dX8_isHeardBy_190 (by decide) (by omega) (fun c_190 => ?_) (fun c_190 => ?_)
                  · refine lv_iload hx hb dX8_isHeardBy_198 (lv_at hl 6 rfl) ?_
                    refine lv_istore (lv' := [(5, .int ce), (6, .int (fa + (nI 0))), (7, .int (nI 0)), (11, .int (nI 0)), (10, .int (bhF (I 41) d ce)), (9, .int (nI d)), (8, .int (nI k)), (0, .ref (G.2.2.1 (20, 0, 0))), (1, .int (nI m)), (2, .int kind), (3, .int wit), (4, .int (nI n))]) hx hb dX8_isHeardBy_200 hl (by decide) rfl (fun ls hl => ?_)
                    refine lv_iinc (v := nI (k + 1)) (lv' := [(8, .int (nI (k + 1))), (5, .int ce), (6, .int (fa + (nI 0))), (7, .int (nI 0)), (11, .int (nI 0)), (10, .int (bhF (I 41) d ce)), (9, .int (nI d)), (0, .ref (G.2.2.1 (20, 0, 0))), (1, .int (nI m)), (2, .int kind), (3, .int wit), (4, .int (nI n))]) hx hb dX8_isHeardBy_202 hl (k := 6) rfl (jn_inc _ 1) (by decide) rfl (fun ls hl => ?_)
                    refine lv_goto (tgt := 28) hx hb dX8_isHeardBy_205 (by decide) ?_
                    exact ih_28 ce (fa + (nI 0)) false (k + 1) (by omega) (by omega) (by rw [it_s, ← hs]; simp [heS, tN, ed, nIc (show d < 2147483648 by omega), c_37, eq_true c_63, eq_true c_141]) _ _ _ hB (lv_sub hl [0, 3, 2, 1, 7, 8, 9, 10, 11] rfl)
                  · exact absurd rfl c_190
                · exact absurd c_63 c_165
              · exact absurd c_149 (by decide)
          · refine lv_aload_n hx hb dX8_isHeardBy_66 rfl (lv_at hl 6 rfl) ?_
            refine j_get (20, 0, 0) 0 (v := .ref (G.2.2.1 (21, 41, 0))) hC hB in_X8 lk_7 dX8_isHeardBy_67 jk20 rfl rfl (by decide) rfl ?_
            refine lv_bipush (v := nI 55) hx hb dX8_isHeardBy_70 (by decide) ?_
            refine lv_iload_n hx hb dX8_isHeardBy_72 rfl (lv_at hl 7 rfl) ?_
            refine jn_iadd hx hb dX8_isHeardBy_73 ?_
            refine j_iLd 41 (55 + m) hC hB dX8_isHeardBy_74 (by decide) rfl (by simp only [lenI_41]; omega) ?_
            refine j_eqi (y := (I 41) (55 + m)) rfl ?_
            refine lv_iload hx hb dX8_isHeardBy_75 (lv_at hl 1 rfl) ?_
            refine j_csi [.int ((I 41) (55 + m)), .int (nI d)] hC hB hl.1 (c_X8_has l_ G I J O ((I 41) (55 + m)) d) (va_cwS 2 hts gX8_isHeardBy_X8_has rfl rfl rfl (by decide +kernel) ⟨by decide, by decide⟩) dX8_isHeardBy_77 rfl rfl (Nat.le_of_ble_eq_true rfl) (fun r_77 u_77 H locs hp_77 hB => ?_)
            obtain ⟨rfl, rfl⟩ := hp_77
            refine jb_if_ne (tgt := 124) hx hb dX8_isHeardBy_80 (by decide) (fun c_80 => ?_) (fun c_80 => ?_)
            · refine lv_iconst (v := nI 1) hx hb dX8_isHeardBy_124 (by decide) ?_
              refine lv_goto (tgt := 129) hx hb dX8_isHeardBy_125 (by decide) ?_
              refine lv_istore (lv' := [(11, .int (nI 1)), (10, .int (bhF (I 41) d ce)), (9, .int (nI d)), (8, .int (nI k)), (7, .int (b2 is_)), (6, .int fa), (5, .int ce), (0, .ref (G.2.2.1 (20, 0, 0))), (1, .int (nI m)), (2, .int kind), (3, .int wit), (4, .int (nI n))]) hx hb dX8_isHeardBy_129 hl (by decide) rfl (fun ls hl => ?_)
              refine lv_iload hx hb dX8_isHeardBy_131 (lv_at hl 0 rfl) ?_
              refine lv_aload_n hx hb dX8_isHeardBy_133 rfl (lv_at hl 7 rfl) ?_
              refine j_get (20, 0, 0) 21 (v := .ref (G.2.2.1 (21, 53, 0))) hC hB in_X8 lk_59 dX8_isHeardBy_134 jk20 rfl rfl (by decide) rfl ?_
              refine lv_iload hx hb dX8_isHeardBy_137 (lv_at hl 3 rfl) ?_
              refine j_iLd 53 k hC hB dX8_isHeardBy_139 (by decide) rfl (by simp only [lenI_53]; omega) ?_
              refine j_eqi (y := (I 53) k) rfl ?_
              refine lv_iconst (v := nI 1) hx hb dX8_isHeardBy_140 (by decide) ?_
              refine lv_icmp_ne (tgt := 148) hx hb dX8_isHeardBy_141 (by decide) (fun c_141 => ?_) (fun c_141 => ?_)
              · refine lv_iconst (v := nI 0) hx hb dX8_isHeardBy_148 (by decide) ?_
                refine jn_icmp_ne (tgt := 156) hx hb dX8_isHeardBy_149 (by decide) (by omega) (by omega) (fun c_149 => ?_) (fun c_149 => ?_)
                · refine lv_iconst (v := nI 0) hx hb dX8_isHeardBy_156 (by decide) ?_
                  refine lv_istore (lv' := [(7, .int (nI 0)), (11, .int (nI 1)), (10, .int (bhF (I 41) d ce)), (9, .int (nI d)), (8, .int (nI k)), (6, .int fa), (5, .int ce), (0, .ref (G.2.2.1 (20, 0, 0))), (1, .int (nI m)), (2, .int kind), (3, .int wit), (4, .int (nI n))]) hx hb dX8_isHeardBy_157 hl (by decide) rfl (fun ls hl => ?_)
                  refine lv_iload hx hb dX8_isHeardBy_159 (lv_at hl 5 rfl) ?_
                  refine lv_iload hx hb dX8_isHeardBy_161 (lv_at hl 2 rfl) ?_
                  refine lv_bipush (v := (-4 : Int32)) hx hb dX8_isHeardBy_163 (by decide) ?_
                  refine lv_icmp_eq (tgt := 184) hx hb dX8_isHeardBy_165 (by decide) (fun c_165 => ?_) (fun c_165 => ?_)
                  · exact absurd c_165 c_63
                  · refine lv_iload hx hb dX8_isHeardBy_168 (lv_at hl 1 rfl) ?_
                    refine jn_if_ne (tgt := 184) hx hb dX8_isHeardBy_170 (by decide) (by omega) (fun c_170 => ?_) (fun c_170 => ?_)
                    · refine lv_iconst (v := nI 0) hx hb dX8_isHeardBy_184 (by decide) ?_
                      refine lv_iadd hx hb dX8_isHeardBy_185 ?_
                      refine lv_istore (lv' := [(6, .int (fa + (nI 0))), (7, .int (nI 0)), (11, .int (nI 1)), (10, .int (bhF (I 41) d ce)), (9, .int (nI d)), (8, .int (nI k)), (5, .int ce), (0, .ref (G.2.2.1 (20, 0, 0))), (1, .int (nI m)), (2, .int kind), (3, .int wit), (4, .int (nI n))]) hx hb dX8_isHeardBy_186 hl (by decide) rfl (fun ls hl => ?_)
                      refine lv_iload hx hb dX8_isHeardBy_188 (lv_at hl 2 rfl) ?_
                      refine jn_if_eq (tgt := 198) hx hb dX8_isHeardBy_190 (by decide) (by omega) (fun c_190 => ?_) (fun c_190 => ?_)
                      · exact absurd c_190 (by decide)
                      · refine lv_iload hx hb dX8_isHeardBy_193 (lv_at hl 3 rfl) ?_
                        refine lv_goto (tgt := 200) hx hb dX8_isHeardBy_195 (by decide) ?_
                        refine lv_istore (lv' := [(5, .int (bhF (I 41) d ce)), (6, .int (fa + (nI 0))), (7, .int (nI 0)), (11, .int (nI 1)), (10, .int (bhF (I 41) d ce)), (9, .int (nI d)), (8, .int (nI k)), (0, .ref (G.2.2.1 (20, 0, 0))), (1, .int (nI m)), (2, .int kind), (3, .int wit), (4, .int (nI n))]) hx hb dX8_isHeardBy_200 hl (by decide) rfl (fun ls hl => ?_)
                        refine lv_iinc (v := nI (k + 1)) (lv' := [(8, .int (nI (k + 1))), (5, .int (bhF (I 41) d ce)), (6, .int (fa + (nI 0))), (7, .int (nI 0)), (11, .int (nI 1)), (10, .int (bhF (I 41) d ce)), (9, .int (nI d)), (0, .ref (G.2.2.1 (20, 0, 0))), (1, .int (nI m)), (2, .int kind), (3, .int wit), (4, .int (nI n))]) hx hb dX8_isHeardBy_202 hl (k := 6) rfl (jn_inc _ 1) (by decide) rfl (fun ls hl => ?_)
                        refine lv_goto (tgt := 28) hx hb dX8_isHeardBy_205 (by decide) ?_
                        exact ih_28 (bhF (I 41) d ce) (fa + (nI 0)) false (k + 1) (by omega) (by omega) (by rw [it_s, ← hs]; simp [heS, tN, ed, nIc (show d < 2147483648 by omega), c_37, c_63, c_80, c_141]) _ _ _ hB (lv_sub hl [0, 3, 2, 1, 7, 8, 9, 10, 11] rfl)
                    · exact absurd c_170 (by decide)
                · exact absurd c_149 (by decide)
              · refine lv_iconst (v := nI 1) hx hb dX8_isHeardBy_144 (by decide) ?_
                refine lv_goto (tgt := 149) hx hb dX8_isHeardBy_145 (by decide) ?_
                refine jn_icmp_ne (tgt := 156) hx hb dX8_isHeardBy_149 (by decide) (by omega) (by omega) (fun c_149 => ?_) (fun c_149 => ?_)
                · exact absurd rfl c_149
                · refine lv_iconst (v := nI 1) hx hb dX8_isHeardBy_152 (by decide) ?_
                  refine lv_goto (tgt := 157) hx hb dX8_isHeardBy_153 (by decide) ?_
                  refine lv_istore (lv' := [(7, .int (nI 1)), (11, .int (nI 1)), (10, .int (bhF (I 41) d ce)), (9, .int (nI d)), (8, .int (nI k)), (6, .int fa), (5, .int ce), (0, .ref (G.2.2.1 (20, 0, 0))), (1, .int (nI m)), (2, .int kind), (3, .int wit), (4, .int (nI n))]) hx hb dX8_isHeardBy_157 hl (by decide) rfl (fun ls hl => ?_)
                  refine lv_iload hx hb dX8_isHeardBy_159 (lv_at hl 5 rfl) ?_
                  refine lv_iload hx hb dX8_isHeardBy_161 (lv_at hl 2 rfl) ?_
                  refine lv_bipush (v := (-4 : Int32)) hx hb dX8_isHeardBy_163 (by decide) ?_
                  refine lv_icmp_eq (tgt := 184) hx hb dX8_isHeardBy_165 (by decide) (fun c_165 => ?_) (fun c_165 => ?_)
                  · exact absurd c_165 c_63
                  · refine lv_iload hx hb dX8_isHeardBy_168 (lv_at hl 1 rfl) ?_
                    refine jn_if_ne (tgt := 184) hx hb dX8_isHeardBy_170 (by decide) (by omega) (fun c_170 => ?_) (fun c_170 => ?_)
                    · refine lv_iconst (v := nI 0) hx hb dX8_isHeardBy_184 (by decide) ?_
                      refine lv_iadd hx hb dX8_isHeardBy_185 ?_
                      refine lv_istore (lv' := [(6, .int (fa + (nI 0))), (7, .int (nI 1)), (11, .int (nI 1)), (10, .int (bhF (I 41) d ce)), (9, .int (nI d)), (8, .int (nI k)), (5, .int ce), (0, .ref (G.2.2.1 (20, 0, 0))), (1, .int (nI m)), (2, .int kind), (3, .int wit), (4, .int (nI n))]) hx hb dX8_isHeardBy_186 hl (by decide) rfl (fun ls hl => ?_)
                      refine lv_iload hx hb dX8_isHeardBy_188 (lv_at hl 2 rfl) ?_
                      refine jn_if_eq (tgt := 198) hx hb dX8_isHeardBy_190 (by decide) (by omega) (fun c_190 => ?_) (fun c_190 => ?_)
                      · exact absurd c_190 (by decide)
                      · refine lv_iload hx hb dX8_isHeardBy_193 (lv_at hl 3 rfl) ?_
                        refine lv_goto (tgt := 200) hx hb dX8_isHeardBy_195 (by decide) ?_
                        refine lv_istore (lv' := [(5, .int (bhF (I 41) d ce)), (6, .int (fa + (nI 0))), (7, .int (nI 1)), (11, .int (nI 1)), (10, .int (bhF (I 41) d ce)), (9, .int (nI d)), (8, .int (nI k)), (0, .ref (G.2.2.1 (20, 0, 0))), (1, .int (nI m)), (2, .int kind), (3, .int wit), (4, .int (nI n))]) hx hb dX8_isHeardBy_200 hl (by decide) rfl (fun ls hl => ?_)
                        refine lv_iinc (v := nI (k + 1)) (lv' := [(8, .int (nI (k + 1))), (5, .int (bhF (I 41) d ce)), (6, .int (fa + (nI 0))), (7, .int (nI 1)), (11, .int (nI 1)), (10, .int (bhF (I 41) d ce)), (9, .int (nI d)), (0, .ref (G.2.2.1 (20, 0, 0))), (1, .int (nI m)), (2, .int kind), (3, .int wit), (4, .int (nI n))]) hx hb dX8_isHeardBy_202 hl (k := 6) rfl (jn_inc _ 1) (by decide) rfl (fun ls hl => ?_)
                        refine lv_goto (tgt := 28) hx hb dX8_isHeardBy_205 (by decide) ?_
                        exact ih_28 (bhF (I 41) d ce) (fa + (nI 0)) true (k + 1) (by omega) (by omega) (by rw [it_s, ← hs]; simp [heS, tN, ed, nIc (show d < 2147483648 by omega), c_37, c_63, c_80, eq_true c_141]) _ _ _ hB (lv_sub hl [0, 3, 2, 1, 7, 8, 9, 10, 11] rfl)
                    · exact absurd c_170 (by decide)
            · refine lv_iload_n hx hb dX8_isHeardBy_83 rfl (lv_at hl 8 rfl) ?_
              refine lv_iload_n hx hb dX8_isHeardBy_84 rfl (lv_at hl 9 rfl) ?_
              refine lv_aload_n hx hb dX8_isHeardBy_85 rfl (lv_at hl 6 rfl) ?_
              refine j_get (20, 0, 0) 0 (v := .ref (G.2.2.1 (21, 41, 0))) hC hB in_X8 lk_7 dX8_isHeardBy_86 jk20 rfl rfl (by decide) rfl ?_
              refine lv_bipush (v := nI 7) hx hb dX8_isHeardBy_89 (by decide) ?_
              refine lv_iload_n hx hb dX8_isHeardBy_91 rfl (lv_at hl 7 rfl) ?_
              refine jn_iadd hx hb dX8_isHeardBy_92 ?_
              refine j_iLd 41 (7 + m) hC hB dX8_isHeardBy_93 (by decide) rfl (by simp only [lenI_41]; omega) ?_
              refine j_eqi (y := (I 41) (7 + m)) rfl ?_
              refine lv_iload hx hb dX8_isHeardBy_94 (lv_at hl 5 rfl) ?_
              refine lv_iload hx hb dX8_isHeardBy_96 (lv_at hl 4 rfl) ?_
              refine lv_aload_n hx hb dX8_isHeardBy_98 rfl (lv_at hl 6 rfl) ?_
              refine j_get (20, 0, 0) 0 (v := .ref (G.2.2.1 (21, 41, 0))) hC hB in_X8 lk_7 dX8_isHeardBy_99 jk20 rfl rfl (by decide) rfl ?_
              refine lv_bipush (v := nI 31) hx hb dX8_isHeardBy_102 (by decide) ?_
              refine lv_iload hx hb dX8_isHeardBy_104 (lv_at hl 1 rfl) ?_
              refine jn_iadd hx hb dX8_isHeardBy_106 ?_
              refine j_iLd 41 (31 + d) hC hB dX8_isHeardBy_107 (by decide) rfl (by simp only [lenI_41]; omega) ?_
              refine j_eqi (y := (I 41) (31 + d)) rfl ?_
              refine j_csi [.int kind, .int wit, .int ((I 41) (7 + m)), .int ce, .int fa, .int ((I 41) (31 + d))] hC hB hl.1 (c_X8_powerAs l_ G I J O kind wit ((I 41) (7 + m)) ce fa ((I 41) (31 + d))) (va_cwS 6 hts gX8_isHeardBy_X8_powerAs rfl rfl rfl (by decide +kernel) ⟨by decide, by decide⟩) dX8_isHeardBy_108 rfl rfl (Nat.le_of_ble_eq_true rfl) (fun r_108 u_108 H locs hp_108 hB => ?_)
              obtain ⟨rfl, rfl⟩ := hp_108
              refine lv_aload_n hx hb dX8_isHeardBy_111 rfl (lv_at hl 6 rfl) ?_
              refine j_get (20, 0, 0) 0 (v := .ref (G.2.2.1 (21, 41, 0))) hC hB in_X8 lk_7 dX8_isHeardBy_112 jk20 rfl rfl (by decide) rfl ?_
              refine lv_bipush (v := nI 41) hx hb dX8_isHeardBy_115 (by decide) ?_
              refine lv_iload hx hb dX8_isHeardBy_117 (lv_at hl 1 rfl) ?_
              refine jn_iadd hx hb dX8_isHeardBy_119 ?_
              refine j_iLd 41 (41 + d) hC hB dX8_isHeardBy_120 (by decide) rfl (by simp only [lenI_41]; omega) ?_
              refine j_eqi (y := (I 41) (41 + d)) rfl ?_
              refine lv_icmp_lt (tgt := 128) hx hb dX8_isHeardBy_121 (by decide) (fun c_121 => ?_) (fun c_121 => ?_)
              · refine lv_iconst (v := nI 0) hx hb dX8_isHeardBy_128 (by decide) ?_
                refine lv_istore (lv' := [(11, .int (nI 0)), (10, .int (bhF (I 41) d ce)), (9, .int (nI d)), (8, .int (nI k)), (7, .int (b2 is_)), (6, .int fa), (5, .int ce), (0, .ref (G.2.2.1 (20, 0, 0))), (1, .int (nI m)), (2, .int kind), (3, .int wit), (4, .int (nI n))]) hx hb dX8_isHeardBy_129 hl (by decide) rfl (fun ls hl => ?_)
                refine lv_iload hx hb dX8_isHeardBy_131 (lv_at hl 0 rfl) ?_
                refine lv_aload_n hx hb dX8_isHeardBy_133 rfl (lv_at hl 7 rfl) ?_
                refine j_get (20, 0, 0) 21 (v := .ref (G.2.2.1 (21, 53, 0))) hC hB in_X8 lk_59 dX8_isHeardBy_134 jk20 rfl rfl (by decide) rfl ?_
                refine lv_iload hx hb dX8_isHeardBy_137 (lv_at hl 3 rfl) ?_
                refine j_iLd 53 k hC hB dX8_isHeardBy_139 (by decide) rfl (by simp only [lenI_53]; omega) ?_
                refine j_eqi (y := (I 53) k) rfl ?_
                refine lv_iconst (v := nI 1) hx hb dX8_isHeardBy_140 (by decide) ?_
                refine lv_icmp_ne (tgt := 148) hx hb dX8_isHeardBy_141 (by decide) (fun c_141 => ?_) (fun c_141 => ?_)
                · refine lv_iconst (v := nI 0) hx hb dX8_isHeardBy_148 (by decide) ?_
                  refine jn_icmp_ne (tgt := 156) hx hb dX8_isHeardBy_149 (by decide) (by omega) (by omega) (fun c_149 => ?_) (fun c_149 => ?_)
                  · exact absurd rfl c_149
                  · refine lv_iconst (v := nI 1) hx hb dX8_isHeardBy_152 (by decide) ?_
                    refine lv_goto (tgt := 157) hx hb dX8_isHeardBy_153 (by decide) ?_
                    refine lv_istore (lv' := [(7, .int (nI 1)), (11, .int (nI 0)), (10, .int (bhF (I 41) d ce)), (9, .int (nI d)), (8, .int (nI k)), (6, .int fa), (5, .int ce), (0, .ref (G.2.2.1 (20, 0, 0))), (1, .int (nI m)), (2, .int kind), (3, .int wit), (4, .int (nI n))]) hx hb dX8_isHeardBy_157 hl (by decide) rfl (fun ls hl => ?_)
                    refine lv_iload hx hb dX8_isHeardBy_159 (lv_at hl 5 rfl) ?_
                    refine lv_iload hx hb dX8_isHeardBy_161 (lv_at hl 2 rfl) ?_
                    refine lv_bipush (v := (-4 : Int32)) hx hb dX8_isHeardBy_163 (by decide) ?_
                    refine lv_icmp_eq (tgt := 184) hx hb dX8_isHeardBy_165 (by decide) (fun c_165 => ?_) (fun c_165 => ?_)
                    · exact absurd c_165 c_63
                    · refine lv_iload hx hb dX8_isHeardBy_168 (lv_at hl 1 rfl) ?_
                      refine jn_if_ne (tgt := 184) hx hb dX8_isHeardBy_170 (by decide) (by omega) (fun c_170 => ?_) (fun c_170 => ?_)
                      · exact absurd rfl c_170
                      · refine lv_iload hx hb dX8_isHeardBy_173 (lv_at hl 5 rfl) ?_
                        refine lv_bipush (v := nI 99) hx hb dX8_isHeardBy_175 (by decide) ?_
                        refine lv_icmp_ge (tgt := 184) hx hb dX8_isHeardBy_177 (by decide) (fun c_177 => ?_) (fun c_177 => ?_)
                        · refine lv_iconst (v := nI 0) hx hb dX8_isHeardBy_184 (by decide) ?_
                          refine lv_iadd hx hb dX8_isHeardBy_185 ?_
                          refine lv_istore (lv' := [(6, .int (fa + (nI 0))), (7, .int (nI 1)), (11, .int (nI 0)), (10, .int (bhF (I 41) d ce)), (9, .int (nI d)), (8, .int (nI k)), (5, .int ce), (0, .ref (G.2.2.1 (20, 0, 0))), (1, .int (nI m)), (2, .int kind), (3, .int wit), (4, .int (nI n))]) hx hb dX8_isHeardBy_186 hl (by decide) rfl (fun ls hl => ?_)
                          refine lv_iload hx hb dX8_isHeardBy_188 (lv_at hl 2 rfl) ?_
                          refine jn_if_eq (tgt := 198) hx hb dX8_isHeardBy_190 (by decide) (by omega) (fun c_190 => ?_) (fun c_190 => ?_)
                          · refine lv_iload hx hb dX8_isHeardBy_198 (lv_at hl 6 rfl) ?_
                            refine lv_istore (lv' := [(5, .int ce), (6, .int (fa + (nI 0))), (7, .int (nI 1)), (11, .int (nI 0)), (10, .int (bhF (I 41) d ce)), (9, .int (nI d)), (8, .int (nI k)), (0, .ref (G.2.2.1 (20, 0, 0))), (1, .int (nI m)), (2, .int kind), (3, .int wit), (4, .int (nI n))]) hx hb dX8_isHeardBy_200 hl (by decide) rfl (fun ls hl => ?_)
                            refine lv_iinc (v := nI (k + 1)) (lv' := [(8, .int (nI (k + 1))), (5, .int ce), (6, .int (fa + (nI 0))), (7, .int (nI 1)), (11, .int (nI 0)), (10, .int (bhF (I 41) d ce)), (9, .int (nI d)), (0, .ref (G.2.2.1 (20, 0, 0))), (1, .int (nI m)), (2, .int kind), (3, .int wit), (4, .int (nI n))]) hx hb dX8_isHeardBy_202 hl (k := 6) rfl (jn_inc _ 1) (by decide) rfl (fun ls hl => ?_)
                            refine lv_goto (tgt := 28) hx hb dX8_isHeardBy_205 (by decide) ?_
                            exact ih_28 ce (fa + (nI 0)) true (k + 1) (by omega) (by omega) (by rw [it_s, ← hs]; simp [heS, tN, ed, nIc (show d < 2147483648 by omega), c_37, c_63, c_80, c_121, c_141, c_177]) _ _ _ hB (lv_sub hl [0, 3, 2, 1, 7, 8, 9, 10, 11] rfl)
                          · exact absurd rfl c_190
                        · refine lv_iconst (v := nI 1) hx hb dX8_isHeardBy_180 (by decide) ?_
                          refine lv_goto (tgt := 185) hx hb dX8_isHeardBy_181 (by decide) ?_
                          refine lv_iadd hx hb dX8_isHeardBy_185 ?_
                          refine lv_istore (lv' := [(6, .int (fa + (nI 1))), (7, .int (nI 1)), (11, .int (nI 0)), (10, .int (bhF (I 41) d ce)), (9, .int (nI d)), (8, .int (nI k)), (5, .int ce), (0, .ref (G.2.2.1 (20, 0, 0))), (1, .int (nI m)), (2, .int kind), (3, .int wit), (4, .int (nI n))]) hx hb dX8_isHeardBy_186 hl (by decide) rfl (fun ls hl => ?_)
                          refine lv_iload hx hb dX8_isHeardBy_188 (lv_at hl 2 rfl) ?_
                          refine jn_if_eq (tgt := 198) hx hb dX8_isHeardBy_190 (by decide) (by omega) (fun c_190 => ?_) (fun c_190 => ?_)
                          · refine lv_iload hx hb dX8_isHeardBy_198 (lv_at hl 6 rfl) ?_
                            refine lv_istore (lv' := [(5, .int ce), (6, .int (fa + (nI 1))), (7, .int (nI 1)), (11, .int (nI 0)), (10, .int (bhF (I 41) d ce)), (9, .int (nI d)), (8, .int (nI k)), (0, .ref (G.2.2.1 (20, 0, 0))), (1, .int (nI m)), (2, .int kind), (3, .int wit), (4, .int (nI n))]) hx hb dX8_isHeardBy_200 hl (by decide) rfl (fun ls hl => ?_)
                            refine lv_iinc (v := nI (k + 1)) (lv' := [(8, .int (nI (k + 1))), (5, .int ce), (6, .int (fa + (nI 1))), (7, .int (nI 1)), (11, .int (nI 0)), (10, .int (bhF (I 41) d ce)), (9, .int (nI d)), (0, .ref (G.2.2.1 (20, 0, 0))), (1, .int (nI m)), (2, .int kind), (3, .int wit), (4, .int (nI n))]) hx hb dX8_isHeardBy_202 hl (k := 6) rfl (jn_inc _ 1) (by decide) rfl (fun ls hl => ?_)
                            refine lv_goto (tgt := 28) hx hb dX8_isHeardBy_205 (by decide) ?_
                            exact ih_28 ce (fa + (nI 1)) true (k + 1) (by omega) (by omega) (by rw [it_s, ← hs]; simp [heS, tN, ed, nIc (show d < 2147483648 by omega), c_37, c_63, c_80, c_121, c_141, c_177]) _ _ _ hB (lv_sub hl [0, 3, 2, 1, 7, 8, 9, 10, 11] rfl)
                          · exact absurd rfl c_190
                · refine lv_iconst (v := nI 1) hx hb dX8_isHeardBy_144 (by decide) ?_
                  refine lv_goto (tgt := 149) hx hb dX8_isHeardBy_145 (by decide) ?_
                  refine jn_icmp_ne (tgt := 156) hx hb dX8_isHeardBy_149 (by decide) (by omega) (by omega) (fun c_149 => ?_) (fun c_149 => ?_)
                  · refine lv_iconst (v := nI 0) hx hb dX8_isHeardBy_156 (by decide) ?_
                    refine lv_istore (lv' := [(7, .int (nI 0)), (11, .int (nI 0)), (10, .int (bhF (I 41) d ce)), (9, .int (nI d)), (8, .int (nI k)), (6, .int fa), (5, .int ce), (0, .ref (G.2.2.1 (20, 0, 0))), (1, .int (nI m)), (2, .int kind), (3, .int wit), (4, .int (nI n))]) hx hb dX8_isHeardBy_157 hl (by decide) rfl (fun ls hl => ?_)
                    refine lv_iload hx hb dX8_isHeardBy_159 (lv_at hl 5 rfl) ?_
                    refine lv_iload hx hb dX8_isHeardBy_161 (lv_at hl 2 rfl) ?_
                    refine lv_bipush (v := (-4 : Int32)) hx hb dX8_isHeardBy_163 (by decide) ?_
                    refine lv_icmp_eq (tgt := 184) hx hb dX8_isHeardBy_165 (by decide) (fun c_165 => ?_) (fun c_165 => ?_)
                    · exact absurd c_165 c_63
                    · refine lv_iload hx hb dX8_isHeardBy_168 (lv_at hl 1 rfl) ?_
                      refine jn_if_ne (tgt := 184) hx hb dX8_isHeardBy_170 (by decide) (by omega) (fun c_170 => ?_) (fun c_170 => ?_)
                      · exact absurd rfl c_170
                      · refine lv_iload hx hb dX8_isHeardBy_173 (lv_at hl 5 rfl) ?_
                        refine lv_bipush (v := nI 99) hx hb dX8_isHeardBy_175 (by decide) ?_
                        refine lv_icmp_ge (tgt := 184) hx hb dX8_isHeardBy_177 (by decide) (fun c_177 => ?_) (fun c_177 => ?_)
                        · refine lv_iconst (v := nI 0) hx hb dX8_isHeardBy_184 (by decide) ?_
                          refine lv_iadd hx hb dX8_isHeardBy_185 ?_
                          refine lv_istore (lv' := [(6, .int (fa + (nI 0))), (7, .int (nI 0)), (11, .int (nI 0)), (10, .int (bhF (I 41) d ce)), (9, .int (nI d)), (8, .int (nI k)), (5, .int ce), (0, .ref (G.2.2.1 (20, 0, 0))), (1, .int (nI m)), (2, .int kind), (3, .int wit), (4, .int (nI n))]) hx hb dX8_isHeardBy_186 hl (by decide) rfl (fun ls hl => ?_)
                          refine lv_iload hx hb dX8_isHeardBy_188 (lv_at hl 2 rfl) ?_
                          refine jn_if_eq (tgt := 198) hx hb dX8_isHeardBy_190 (by decide) (by omega) (fun c_190 => ?_) (fun c_190 => ?_)
                          · refine lv_iload hx hb dX8_isHeardBy_198 (lv_at hl 6 rfl) ?_
                            refine lv_istore (lv' := [(5, .int ce), (6, .int (fa + (nI 0))), (7, .int (nI 0)), (11, .int (nI 0)), (10, .int (bhF (I 41) d ce)), (9, .int (nI d)), (8, .int (nI k)), (0, .ref (G.2.2.1 (20, 0, 0))), (1, .int (nI m)), (2, .int kind), (3, .int wit), (4, .int (nI n))]) hx hb dX8_isHeardBy_200 hl (by decide) rfl (fun ls hl => ?_)
                            refine lv_iinc (v := nI (k + 1)) (lv' := [(8, .int (nI (k + 1))), (5, .int ce), (6, .int (fa + (nI 0))), (7, .int (nI 0)), (11, .int (nI 0)), (10, .int (bhF (I 41) d ce)), (9, .int (nI d)), (0, .ref (G.2.2.1 (20, 0, 0))), (1, .int (nI m)), (2, .int kind), (3, .int wit), (4, .int (nI n))]) hx hb dX8_isHeardBy_202 hl (k := 6) rfl (jn_inc _ 1) (by decide) rfl (fun ls hl => ?_)
                            refine lv_goto (tgt := 28) hx hb dX8_isHeardBy_205 (by decide) ?_
                            exact ih_28 ce (fa + (nI 0)) false (k + 1) (by omega) (by omega) (by rw [it_s, ← hs]; simp [heS, tN, ed, nIc (show d < 2147483648 by omega), c_37, c_63, c_80, c_121, eq_true c_141, c_177]) _ _ _ hB (lv_sub hl [0, 3, 2, 1, 7, 8, 9, 10, 11] rfl)
                          · exact absurd rfl c_190
                        · refine lv_iconst (v := nI 1) hx hb dX8_isHeardBy_180 (by decide) ?_
                          refine lv_goto (tgt := 185) hx hb dX8_isHeardBy_181 (by decide) ?_
                          refine lv_iadd hx hb dX8_isHeardBy_185 ?_
                          refine lv_istore (lv' := [(6, .int (fa + (nI 1))), (7, .int (nI 0)), (11, .int (nI 0)), (10, .int (bhF (I 41) d ce)), (9, .int (nI d)), (8, .int (nI k)), (5, .int ce), (0, .ref (G.2.2.1 (20, 0, 0))), (1, .int (nI m)), (2, .int kind), (3, .int wit), (4, .int (nI n))]) hx hb dX8_isHeardBy_186 hl (by decide) rfl (fun ls hl => ?_)
                          refine lv_iload hx hb dX8_isHeardBy_188 (lv_at hl 2 rfl) ?_
                          refine jn_if_eq (tgt := 198) hx hb dX8_isHeardBy_190 (by decide) (by omega) (fun c_190 => ?_) (fun c_190 => ?_)
                          · refine lv_iload hx hb dX8_isHeardBy_198 (lv_at hl 6 rfl) ?_
                            refine lv_istore (lv' := [(5, .int ce), (6, .int (fa + (nI 1))), (7, .int (nI 0)), (11, .int (nI 0)), (10, .int (bhF (I 41) d ce)), (9, .int (nI d)), (8, .int (nI k)), (0, .ref (G.2.2.1 (20, 0, 0))), (1, .int (nI m)), (2, .int kind), (3, .int wit), (4, .int (nI n))]) hx hb dX8_isHeardBy_200 hl (by decide) rfl (fun ls hl => ?_)
                            refine lv_iinc (v := nI (k + 1)) (lv' := [(8, .int (nI (k + 1))), (5, .int ce), (6, .int (fa + (nI 1))), (7, .int (nI 0)), (11, .int (nI 0)), (10, .int (bhF (I 41) d ce)), (9, .int (nI d)), (0, .ref (G.2.2.1 (20, 0, 0))), (1, .int (nI m)), (2, .int kind), (3, .int wit), (4, .int (nI n))]) hx hb dX8_isHeardBy_202 hl (k := 6) rfl (jn_inc _ 1) (by decide) rfl (fun ls hl => ?_)
                            refine lv_goto (tgt := 28) hx hb dX8_isHeardBy_205 (by decide) ?_
                            exact ih_28 ce (fa + (nI 1)) false (k + 1) (by omega) (by omega) (by rw [it_s, ← hs]; simp [heS, tN, ed, nIc (show d < 2147483648 by omega), c_37, c_63, c_80, c_121, eq_true c_141, c_177]) _ _ _ hB (lv_sub hl [0, 3, 2, 1, 7, 8, 9, 10, 11] rfl)
                          · exact absurd rfl c_190
                  · exact absurd c_149 (by decide)
              · refine lv_iconst (v := nI 1) hx hb dX8_isHeardBy_124 (by decide) ?_
                refine lv_goto (tgt := 129) hx hb dX8_isHeardBy_125 (by decide) ?_
                refine lv_istore (lv' := [(11, .int (nI 1)), (10, .int (bhF (I 41) d ce)), (9, .int (nI d)), (8, .int (nI k)), (7, .int (b2 is_)), (6, .int fa), (5, .int ce), (0, .ref (G.2.2.1 (20, 0, 0))), (1, .int (nI m)), (2, .int kind), (3, .int wit), (4, .int (nI n))]) hx hb dX8_isHeardBy_129 hl (by decide) rfl (fun ls hl => ?_)
                refine lv_iload hx hb dX8_isHeardBy_131 (lv_at hl 0 rfl) ?_
                refine lv_aload_n hx hb dX8_isHeardBy_133 rfl (lv_at hl 7 rfl) ?_
                refine j_get (20, 0, 0) 21 (v := .ref (G.2.2.1 (21, 53, 0))) hC hB in_X8 lk_59 dX8_isHeardBy_134 jk20 rfl rfl (by decide) rfl ?_
                refine lv_iload hx hb dX8_isHeardBy_137 (lv_at hl 3 rfl) ?_
                refine j_iLd 53 k hC hB dX8_isHeardBy_139 (by decide) rfl (by simp only [lenI_53]; omega) ?_
                refine j_eqi (y := (I 53) k) rfl ?_
                refine lv_iconst (v := nI 1) hx hb dX8_isHeardBy_140 (by decide) ?_
                refine lv_icmp_ne (tgt := 148) hx hb dX8_isHeardBy_141 (by decide) (fun c_141 => ?_) (fun c_141 => ?_)
                · refine lv_iconst (v := nI 0) hx hb dX8_isHeardBy_148 (by decide) ?_
                  refine jn_icmp_ne (tgt := 156) hx hb dX8_isHeardBy_149 (by decide) (by omega) (by omega) (fun c_149 => ?_) (fun c_149 => ?_)
                  · refine lv_iconst (v := nI 0) hx hb dX8_isHeardBy_156 (by decide) ?_
                    refine lv_istore (lv' := [(7, .int (nI 0)), (11, .int (nI 1)), (10, .int (bhF (I 41) d ce)), (9, .int (nI d)), (8, .int (nI k)), (6, .int fa), (5, .int ce), (0, .ref (G.2.2.1 (20, 0, 0))), (1, .int (nI m)), (2, .int kind), (3, .int wit), (4, .int (nI n))]) hx hb dX8_isHeardBy_157 hl (by decide) rfl (fun ls hl => ?_)
                    refine lv_iload hx hb dX8_isHeardBy_159 (lv_at hl 5 rfl) ?_
                    refine lv_iload hx hb dX8_isHeardBy_161 (lv_at hl 2 rfl) ?_
                    refine lv_bipush (v := (-4 : Int32)) hx hb dX8_isHeardBy_163 (by decide) ?_
                    refine lv_icmp_eq (tgt := 184) hx hb dX8_isHeardBy_165 (by decide) (fun c_165 => ?_) (fun c_165 => ?_)
                    · exact absurd c_165 c_63
                    · refine lv_iload hx hb dX8_isHeardBy_168 (lv_at hl 1 rfl) ?_
                      refine jn_if_ne (tgt := 184) hx hb dX8_isHeardBy_170 (by decide) (by omega) (fun c_170 => ?_) (fun c_170 => ?_)
                      · refine lv_iconst (v := nI 0) hx hb dX8_isHeardBy_184 (by decide) ?_
                        refine lv_iadd hx hb dX8_isHeardBy_185 ?_
                        refine lv_istore (lv' := [(6, .int (fa + (nI 0))), (7, .int (nI 0)), (11, .int (nI 1)), (10, .int (bhF (I 41) d ce)), (9, .int (nI d)), (8, .int (nI k)), (5, .int ce), (0, .ref (G.2.2.1 (20, 0, 0))), (1, .int (nI m)), (2, .int kind), (3, .int wit), (4, .int (nI n))]) hx hb dX8_isHeardBy_186 hl (by decide) rfl (fun ls hl => ?_)
                        refine lv_iload hx hb dX8_isHeardBy_188 (lv_at hl 2 rfl) ?_
                        refine jn_if_eq (tgt := 198) hx hb dX8_isHeardBy_190 (by decide) (by omega) (fun c_190 => ?_) (fun c_190 => ?_)
                        · exact absurd c_190 (by decide)
                        · refine lv_iload hx hb dX8_isHeardBy_193 (lv_at hl 3 rfl) ?_
                          refine lv_goto (tgt := 200) hx hb dX8_isHeardBy_195 (by decide) ?_
                          refine lv_istore (lv' := [(5, .int (bhF (I 41) d ce)), (6, .int (fa + (nI 0))), (7, .int (nI 0)), (11, .int (nI 1)), (10, .int (bhF (I 41) d ce)), (9, .int (nI d)), (8, .int (nI k)), (0, .ref (G.2.2.1 (20, 0, 0))), (1, .int (nI m)), (2, .int kind), (3, .int wit), (4, .int (nI n))]) hx hb dX8_isHeardBy_200 hl (by decide) rfl (fun ls hl => ?_)
                          refine lv_iinc (v := nI (k + 1)) (lv' := [(8, .int (nI (k + 1))), (5, .int (bhF (I 41) d ce)), (6, .int (fa + (nI 0))), (7, .int (nI 0)), (11, .int (nI 1)), (10, .int (bhF (I 41) d ce)), (9, .int (nI d)), (0, .ref (G.2.2.1 (20, 0, 0))), (1, .int (nI m)), (2, .int kind), (3, .int wit), (4, .int (nI n))]) hx hb dX8_isHeardBy_202 hl (k := 6) rfl (jn_inc _ 1) (by decide) rfl (fun ls hl => ?_)
                          refine lv_goto (tgt := 28) hx hb dX8_isHeardBy_205 (by decide) ?_
                          exact ih_28 (bhF (I 41) d ce) (fa + (nI 0)) false (k + 1) (by omega) (by omega) (by rw [it_s, ← hs]; simp [heS, tN, ed, nIc (show d < 2147483648 by omega), c_37, c_63, c_80, c_121, c_141]) _ _ _ hB (lv_sub hl [0, 3, 2, 1, 7, 8, 9, 10, 11] rfl)
                      · exact absurd c_170 (by decide)
                  · exact absurd c_149 (by decide)
                · refine lv_iconst (v := nI 1) hx hb dX8_isHeardBy_144 (by decide) ?_
                  refine lv_goto (tgt := 149) hx hb dX8_isHeardBy_145 (by decide) ?_
                  refine jn_icmp_ne (tgt := 156) hx hb dX8_isHeardBy_149 (by decide) (by omega) (by omega) (fun c_149 => ?_) (fun c_149 => ?_)
                  · exact absurd rfl c_149
                  · refine lv_iconst (v := nI 1) hx hb dX8_isHeardBy_152 (by decide) ?_
                    refine lv_goto (tgt := 157) hx hb dX8_isHeardBy_153 (by decide) ?_
                    refine lv_istore (lv' := [(7, .int (nI 1)), (11, .int (nI 1)), (10, .int (bhF (I 41) d ce)), (9, .int (nI d)), (8, .int (nI k)), (6, .int fa), (5, .int ce), (0, .ref (G.2.2.1 (20, 0, 0))), (1, .int (nI m)), (2, .int kind), (3, .int wit), (4, .int (nI n))]) hx hb dX8_isHeardBy_157 hl (by decide) rfl (fun ls hl => ?_)
                    refine lv_iload hx hb dX8_isHeardBy_159 (lv_at hl 5 rfl) ?_
                    refine lv_iload hx hb dX8_isHeardBy_161 (lv_at hl 2 rfl) ?_
                    refine lv_bipush (v := (-4 : Int32)) hx hb dX8_isHeardBy_163 (by decide) ?_
                    refine lv_icmp_eq (tgt := 184) hx hb dX8_isHeardBy_165 (by decide) (fun c_165 => ?_) (fun c_165 => ?_)
                    · exact absurd c_165 c_63
                    · refine lv_iload hx hb dX8_isHeardBy_168 (lv_at hl 1 rfl) ?_
                      refine jn_if_ne (tgt := 184) hx hb dX8_isHeardBy_170 (by decide) (by omega) (fun c_170 => ?_) (fun c_170 => ?_)
                      · refine lv_iconst (v := nI 0) hx hb dX8_isHeardBy_184 (by decide) ?_
                        refine lv_iadd hx hb dX8_isHeardBy_185 ?_
                        refine lv_istore (lv' := [(6, .int (fa + (nI 0))), (7, .int (nI 1)), (11, .int (nI 1)), (10, .int (bhF (I 41) d ce)), (9, .int (nI d)), (8, .int (nI k)), (5, .int ce), (0, .ref (G.2.2.1 (20, 0, 0))), (1, .int (nI m)), (2, .int kind), (3, .int wit), (4, .int (nI n))]) hx hb dX8_isHeardBy_186 hl (by decide) rfl (fun ls hl => ?_)
                        refine lv_iload hx hb dX8_isHeardBy_188 (lv_at hl 2 rfl) ?_
                        refine jn_if_eq (tgt := 198) hx hb dX8_isHeardBy_190 (by decide) (by omega) (fun c_190 => ?_) (fun c_190 => ?_)
                        · exact absurd c_190 (by decide)
                        · refine lv_iload hx hb dX8_isHeardBy_193 (lv_at hl 3 rfl) ?_
                          refine lv_goto (tgt := 200) hx hb dX8_isHeardBy_195 (by decide) ?_
                          refine lv_istore (lv' := [(5, .int (bhF (I 41) d ce)), (6, .int (fa + (nI 0))), (7, .int (nI 1)), (11, .int (nI 1)), (10, .int (bhF (I 41) d ce)), (9, .int (nI d)), (8, .int (nI k)), (0, .ref (G.2.2.1 (20, 0, 0))), (1, .int (nI m)), (2, .int kind), (3, .int wit), (4, .int (nI n))]) hx hb dX8_isHeardBy_200 hl (by decide) rfl (fun ls hl => ?_)
                          refine lv_iinc (v := nI (k + 1)) (lv' := [(8, .int (nI (k + 1))), (5, .int (bhF (I 41) d ce)), (6, .int (fa + (nI 0))), (7, .int (nI 1)), (11, .int (nI 1)), (10, .int (bhF (I 41) d ce)), (9, .int (nI d)), (0, .ref (G.2.2.1 (20, 0, 0))), (1, .int (nI m)), (2, .int kind), (3, .int wit), (4, .int (nI n))]) hx hb dX8_isHeardBy_202 hl (k := 6) rfl (jn_inc _ 1) (by decide) rfl (fun ls hl => ?_)
                          refine lv_goto (tgt := 28) hx hb dX8_isHeardBy_205 (by decide) ?_
                          exact ih_28 (bhF (I 41) d ce) (fa + (nI 0)) true (k + 1) (by omega) (by omega) (by rw [it_s, ← hs]; simp [heS, tN, ed, nIc (show d < 2147483648 by omega), c_37, c_63, c_80, c_121, eq_true c_141]) _ _ _ hB (lv_sub hl [0, 3, 2, 1, 7, 8, 9, 10, 11] rfl)
                      · exact absurd c_170 (by decide)
  exact lp_28 _ ((I 41) (51 + m)) ((I 41) (59 + m)) true 0 (Nat.lt_succ_self _) (by omega) (rfl) _ _ _ hB (lv_sub hl [0, 1, 2, 3, 4, 5, 6, 7, 8] rfl)

set_option maxHeartbeats 4000000 in
set_option maxRecDepth 100000 in
theorem c_X8_heard (l_ : Launch) (G : jG) (I : Nat → Nat → Int32) (J : Nat → Nat → Int64) (O : Nat → Nat → Nat) (man sheet lane i n what : Int32) {nd : Nat} (hnd : nd ≤ 10) (hD : I 41 0 = nI nd) {nm : Nat} (hnm : nm ≤ 4) (hM : I 41 1 = nI nm) (hSzR : ∀ s, s < 4 → ∃ sz, sz ≤ 24 ∧ I 51 s = nI sz) : jMi l_ G yX8_heard wsX8_heard ({ frames := 2, cells := 0, slots := 0, locals := 58 }) [.ref (G.2.2.1 (20, 0, 0)), .int man, .int sheet, .int lane, .int i, .int n, .int what] (I, J, O) (fun r u => r = heaA (I 41) (I 50) (I 51) (J 12) nd nm man sheet lane i n what ∧ SMs (I, J, O) u) := by
  refine jMi_of (cc := cX8_heard) (maxL := 13) (ret := (some .int)) (lv0 := [(0, .ref (G.2.2.1 (20, 0, 0))), (1, .int man), (2, .int sheet), (3, .int lane), (4, .int i), (5, .int n), (6, .int what)]) (by decide) rfl (Nat.le_of_ble_eq_true rfl) rfl ?_
  intro pg_ ev_ s_ mi_ below meth cd_ A ls hC hB hl
  obtain ⟨hx, hb, hr, hml, hown, hts, hlocks, hK, hA⟩ := id hC
  have lk_7 := hts (.fieldLink RX8 7 "RiddlePrisonModel" "now" "[I") (by decide +kernel)
  have lk_50 := hts (.fieldLink RX8 50 "RiddlePrisonModel" "items" "[J") (by decide +kernel)
  have lk_56 := hts (.fieldLink RX8 56 "RiddlePrisonModel" "heardDoors" "[I") (by decide +kernel)
  have lk_59 := hts (.fieldLink RX8 59 "RiddlePrisonModel" "heardPassed" "[I") (by decide +kernel)
  have in_X8 := (fun w h => List.mem_cons_of_mem _ (List.mem_append_right _ h) : ∀ w ∈ wsX80, w ∈ wsX8_heard)
  refine lv_aload_n hx hb dX8_heard_0 rfl (lv_at hl 0 rfl) ?_
  refine lv_iload_n hx hb dX8_heard_1 rfl (lv_at hl 1 rfl) ?_
  refine j_cvi (20, 0, 0) [.int man] hC hB hl.1 (c_X8_isMan l_ G I J O man (by omega) (hM)) (cwV 1 hts gX8_heard_X8_isMan rfl rfl rfl (by decide +kernel) ⟨by decide, by decide⟩) dX8_heard_2 jk20 rfl rfl rfl rfl (Nat.le_of_ble_eq_true rfl) (fun r_2 u_2 H locs hp_2 hB => ?_)
  obtain ⟨rfl, rfl⟩ := hp_2
  refine jb_if_eq (tgt := 51) hx hb dX8_heard_5 (by decide) (fun c_5 => ?_) (fun c_5 => ?_)
  · refine lv_iconst (v := (-1 : Int32)) hx hb dX8_heard_51 (by decide) ?_
    exact j_iret hC hB dX8_heard_52 (⟨by simp [heaA, c_5], ⟨SM.rf, SMJ.rf, rfl⟩⟩)
  · obtain ⟨mm, hmm, rfl⟩ := isB_nat c_5 (by omega)
    refine lv_iload_n hx hb dX8_heard_8 rfl (lv_at hl 2 rfl) ?_
    refine j_csi [.int sheet] hC hB hl.1 (c_X8_isSheet l_ G I J O sheet) (va_cwS 1 hts gX8_heard_X8_isSheet rfl rfl rfl (by decide +kernel) ⟨by decide, by decide⟩) dX8_heard_9 rfl rfl (Nat.le_of_ble_eq_true rfl) (fun r_9 u_9 H locs hp_9 hB => ?_)
    obtain ⟨rfl, rfl⟩ := hp_9
    refine jb_if_eq (tgt := 51) hx hb dX8_heard_12 (by decide) (fun c_12 => ?_) (fun c_12 => ?_)
    · refine lv_iconst (v := (-1 : Int32)) hx hb dX8_heard_51 (by decide) ?_
      exact j_iret hC hB dX8_heard_52 (⟨by simp [heaA, c_5, c_12], ⟨SM.rf, SMJ.rf, rfl⟩⟩)
    · obtain ⟨ss, hss, rfl⟩ := isB_nat c_12 (by omega)
      refine lv_iload_n hx hb dX8_heard_15 rfl (lv_at hl 3 rfl) ?_
      refine lv_i2l (v := lane.toInt64) hx hb dX8_heard_16 rfl ?_
      refine lv_lconst (v := 0) hx hb dX8_heard_17 rfl ?_
      refine lv_ldc2 (v := 3) hx hb hown (hts (.constantLong RX8 68 (3)) (by decide +kernel)) dX8_heard_18 ?_
      refine j_csi [.long lane.toInt64, .long ((0 : Int64)), .long ((3 : Int64))] hC hB hl.1 (c_X8_in l_ G I J O lane.toInt64 ((0 : Int64)) ((3 : Int64))) (va_cwS 3 hts gX8_heard_X8_in rfl rfl rfl (by decide +kernel) ⟨by decide, by decide⟩) dX8_heard_21 rfl rfl (Nat.le_of_ble_eq_true rfl) (fun r_21 u_21 H locs hp_21 hB => ?_)
      obtain ⟨rfl, rfl⟩ := hp_21
      refine j_eqi (y := b2 (isB lane 4)) (by rw [inR_isB (n := 4) (by decide)]) ?_
      refine jb_if_eq (tgt := 51) hx hb dX8_heard_24 (by decide) (fun c_24 => ?_) (fun c_24 => ?_)
      · refine lv_iconst (v := (-1 : Int32)) hx hb dX8_heard_51 (by decide) ?_
        exact j_iret hC hB dX8_heard_52 (⟨by simp [heaA, c_5, c_12, c_24], ⟨SM.rf, SMJ.rf, rfl⟩⟩)
      · refine lv_iload hx hb dX8_heard_27 (lv_at hl 5 rfl) ?_
        refine lv_i2l (v := n.toInt64) hx hb dX8_heard_29 rfl ?_
        refine lv_lconst (v := 1) hx hb dX8_heard_30 rfl ?_
        refine lv_ldc2 (v := 8) hx hb hown (hts (.constantLong RX8 252 (8)) (by decide +kernel)) dX8_heard_31 ?_
        refine j_csi [.long n.toInt64, .long ((1 : Int64)), .long ((8 : Int64))] hC hB hl.1 (c_X8_in l_ G I J O n.toInt64 ((1 : Int64)) ((8 : Int64))) (va_cwS 3 hts gX8_heard_X8_in rfl rfl rfl (by decide +kernel) ⟨by decide, by decide⟩) dX8_heard_34 rfl rfl (Nat.le_of_ble_eq_true rfl) (fun r_34 u_34 H locs hp_34 hB => ?_)
        obtain ⟨rfl, rfl⟩ := hp_34
        refine jb_if_eq (tgt := 51) hx hb dX8_heard_37 (by decide) (fun c_37 => ?_) (fun c_37 => ?_)
        · refine lv_iconst (v := (-1 : Int32)) hx hb dX8_heard_51 (by decide) ?_
          exact j_iret hC hB dX8_heard_52 (⟨by simp [heaA, c_5, c_12, c_24, c_37], ⟨SM.rf, SMJ.rf, rfl⟩⟩)
        · obtain ⟨nn, hnnl, hnn, rfl⟩ := inR_rng (lo := 1) (hi := 8) (by decide) (by decide) (by decide) c_37
          refine lv_iload hx hb dX8_heard_40 (lv_at hl 6 rfl) ?_
          refine lv_i2l (v := what.toInt64) hx hb dX8_heard_42 rfl ?_
          refine lv_lconst (v := 0) hx hb dX8_heard_43 rfl ?_
          refine lv_lconst (v := 1) hx hb dX8_heard_44 rfl ?_
          refine j_csi [.long what.toInt64, .long ((0 : Int64)), .long ((1 : Int64))] hC hB hl.1 (c_X8_in l_ G I J O what.toInt64 ((0 : Int64)) ((1 : Int64))) (va_cwS 3 hts gX8_heard_X8_in rfl rfl rfl (by decide +kernel) ⟨by decide, by decide⟩) dX8_heard_45 rfl rfl (Nat.le_of_ble_eq_true rfl) (fun r_45 u_45 H locs hp_45 hB => ?_)
          obtain ⟨rfl, rfl⟩ := hp_45
          refine j_eqi (y := b2 (isB what 2)) (by rw [inR_isB (n := 2) (by decide)]) ?_
          refine jb_if_ne (tgt := 53) hx hb dX8_heard_48 (by decide) (fun c_48 => ?_) (fun c_48 => ?_)
          · obtain ⟨ww, hww, rfl⟩ := isB_nat c_48 (by omega)
            refine lv_aload_n hx hb dX8_heard_53 rfl (lv_at hl 0 rfl) ?_
            refine lv_iload_n hx hb dX8_heard_54 rfl (lv_at hl 2 rfl) ?_
            refine lv_iload_n hx hb dX8_heard_55 rfl (lv_at hl 3 rfl) ?_
            refine lv_iload hx hb dX8_heard_56 (lv_at hl 4 rfl) ?_
            refine lv_iconst (v := nI 2) hx hb dX8_heard_58 (by decide) ?_
            refine lv_iload hx hb dX8_heard_59 (lv_at hl 5 rfl) ?_
            refine jn_imul hx hb dX8_heard_61 ?_
            refine j_cvi (20, 0, 0) [.int (nI ss), .int lane, .int i, .int (nI (2 * nn))] hC hB hl.1 (c_X8_refusesItems l_ G I J O ss lane i (nI (2 * nn)) (by omega)) (cwV 4 hts gX8_heard_X8_refusesItems rfl rfl rfl (by decide +kernel) ⟨by decide, by decide⟩) dX8_heard_62 jk20 rfl rfl rfl rfl (Nat.le_of_ble_eq_true rfl) (fun r_62 u_62 H locs hp_62 hB => ?_)
            obtain ⟨rfl, rfl⟩ := hp_62
            refine lv_istore (lv' := [(7, .int (rfF (I 50) (I 51) ss lane i (nI (2 * nn)))), (0, .ref (G.2.2.1 (20, 0, 0))), (1, .int (nI mm)), (2, .int (nI ss)), (3, .int lane), (4, .int i), (5, .int (nI nn)), (6, .int (nI ww))]) hx hb dX8_heard_65 hl (by decide) rfl (fun ls hl => ?_)
            refine lv_iload hx hb dX8_heard_67 (lv_at hl 0 rfl) ?_
            refine lv_if_eq (tgt := 75) hx hb dX8_heard_69 (by decide) (fun c_69 => ?_) (fun c_69 => ?_)
            · obtain ⟨z, hz, ez⟩ := hSzR ss hss
              obtain ⟨hlz, h4z, j, hj, rfl⟩ := rfF_nat ez hz (by omega) c_69
              refine lv_iconst (v := nI 0) hx hb dX8_heard_75 (by decide) ?_
              refine lv_istore (lv' := [(8, .int (nI 0)), (7, .int (rfF (I 50) (I 51) ss lane (nI j) (nI (2 * nn)))), (0, .ref (G.2.2.1 (20, 0, 0))), (1, .int (nI mm)), (2, .int (nI ss)), (3, .int lane), (4, .int (nI j)), (5, .int (nI nn)), (6, .int (nI ww))]) hx hb dX8_heard_76 hl (by decide) rfl (fun ls hl => ?_)
              have lp_78 : ∀ (fu : Nat) (f52 : Nat → Int32) (f53 : Nat → Int32) (k : Nat), nn - k < fu → (k ≤ nn) → (f52 = hdF (J 12) (24 * ss + j) (I 52) k) → (f53 = hqF (J 12) (24 * ss + j) (I 53) k) → (hpB (J 12) (24 * ss + j) nd k = true) → ∀ H locs ls, jB G A s_.heap (sr (sr I 52 (f52)) 53 (f53), J, O) H locs → lv_has ls 13 [(8, .int (nI k)), (0, .ref (G.2.2.1 (20, 0, 0))), (1, .int (nI mm)), (2, .int (nI ss)), (3, .int lane), (4, .int (nI j)), (5, .int (nI nn)), (6, .int (nI ww))] → W pg_ l_ ev_ ({ frames := 2, cells := 0, slots := 0, locals := 58 }) s_ mi_ ([.ref (G.2.2.1 (20, 0, 0)), .int (nI mm), .int (nI ss), .int lane, .int (nI j), .int (nI nn), .int (nI ww)]).toArray below meth cd_ H locs 0 0 (jQi G A below [.ref (G.2.2.1 (20, 0, 0)), .int (nI mm), .int (nI ss), .int lane, .int (nI j), .int (nI nn), .int (nI ww)] s_ (fun r u => r = heaA (I 41) (I 50) (I 51) (J 12) nd nm (nI mm) (nI ss) lane (nI j) (nI nn) (nI ww) ∧ SMs (I, J, O) u)) (F0 mi_ 78 ls []) := by
                intro fu
                induction fu with
                | zero => intro f52 f53 k hf; exact absurd hf (Nat.not_lt_zero _)
                | succ fu ih_78 =>
                  intro f52 f53 k hf_78 hk h52 h53 hp H locs ls hB hl
                  refine lv_iload hx hb dX8_heard_78 (lv_at hl 0 rfl) ?_
                  refine lv_iload hx hb dX8_heard_80 (lv_at hl 6 rfl) ?_
                  refine jn_icmp_ge (tgt := 182) hx hb dX8_heard_82 (by decide) (by omega) (by omega) (fun c_82 => ?_) (fun c_82 => ?_)
                  · have hkn : k = nn := by omega
                    subst hkn
                    have hHD : ∀ q, q < k → ∃ d, d < nd ∧ f52 q = nI d := fun q hq => by obtain ⟨d, hd, e⟩ := dn_nat hnd (hpB_at hp q hq).1; exact ⟨d, hd, by rw [h52]; simp only [hdF]; rw [if_pos hq]; exact e⟩
                    obtain ⟨W_, eW, hW10⟩ : ∃ W_ : Nat, W_ = (if ww = 0 then 5 else 10) ∧ W_ ≤ 10 := ⟨_, rfl, by split <;> omega⟩
                    refine lv_iconst (v := nI 0) hx hb dX8_heard_182 (by decide) ?_
                    refine lv_istore (lv' := [(8, .int (nI 0)), (0, .ref (G.2.2.1 (20, 0, 0))), (1, .int (nI mm)), (2, .int (nI ss)), (3, .int lane), (4, .int (nI j)), (5, .int (nI k)), (6, .int (nI ww))]) hx hb dX8_heard_183 hl (by decide) rfl (fun ls hl => ?_)
                    refine lv_iconst (v := nI 0) hx hb dX8_heard_185 (by decide) ?_
                    refine lv_istore (lv' := [(9, .int (nI 0)), (8, .int (nI 0)), (0, .ref (G.2.2.1 (20, 0, 0))), (1, .int (nI mm)), (2, .int (nI ss)), (3, .int lane), (4, .int (nI j)), (5, .int (nI k)), (6, .int (nI ww))]) hx hb dX8_heard_186 hl (by decide) rfl (fun ls hl => ?_)
                    have lp_188 : ∀ (fu : Nat) (set : Int32) (v : Nat), W_ - v < fu → (v ≤ W_) → (set = it (heAs (I 41) f52 f53 mm k ww) v (nI 0)) → ∀ H locs ls, jB G A s_.heap (sr (sr I 52 (f52)) 53 (f53), J, O) H locs → lv_has ls 13 [(9, .int (nI v)), (8, .int set), (0, .ref (G.2.2.1 (20, 0, 0))), (1, .int (nI mm)), (2, .int (nI ss)), (3, .int lane), (4, .int (nI j)), (5, .int (nI k)), (6, .int (nI ww))] → W pg_ l_ ev_ ({ frames := 2, cells := 0, slots := 0, locals := 58 }) s_ mi_ ([.ref (G.2.2.1 (20, 0, 0)), .int (nI mm), .int (nI ss), .int lane, .int (nI j), .int (nI (k)), .int (nI ww)]).toArray below meth cd_ H locs 0 0 (jQi G A below [.ref (G.2.2.1 (20, 0, 0)), .int (nI mm), .int (nI ss), .int lane, .int (nI j), .int (nI (k)), .int (nI ww)] s_ (fun r u => r = heaA (I 41) (I 50) (I 51) (J 12) nd nm (nI mm) (nI ss) lane (nI j) (nI (k)) (nI ww) ∧ SMs (I, J, O) u)) (F0 mi_ 188 ls []) := by
                      intro fu
                      induction fu with
                      | zero => intro set v hf; exact absurd hf (Nat.not_lt_zero _)
                      | succ fu ih_188 =>
                        intro set v hf_188 hv hs H locs ls hB hl
                        refine lv_iload hx hb dX8_heard_188 (lv_at hl 0 rfl) ?_
                        refine lv_iload hx hb dX8_heard_190 (lv_at hl 8 rfl) ?_
                        refine jn_if_ne (tgt := 199) hx hb dX8_heard_192 (by decide) (by omega) (fun c_192 => ?_) (fun c_192 => ?_)
                        · refine lv_bipush (v := nI 10) hx hb dX8_heard_199 (by decide) ?_
                          refine jn_icmp_ge (tgt := 273) hx hb dX8_heard_201 (by decide) (by omega) (by omega) (fun c_201 => ?_) (fun c_201 => ?_)
                          · refine lv_iload hx hb dX8_heard_273 (lv_at hl 1 rfl) ?_
                            exact j_iret hC hB dX8_heard_275 (⟨(by (have e5 : W_ = 10 := by rw [eW, if_neg c_192]); rw [hs, show v = W_ by omega, eW, heA_cong (hd2 := hdF (J 12) (24 * ss + j) (fun _ => nI 0) k) (hp2 := hqF (J 12) (24 * ss + j) (fun _ => nI 0) k) (fun q hq => by rw [h52]; simp [hdF, hq]) (fun q hq => by rw [h53]; simp [hqF, hq])]; simp [heaA, heaF, hp, tN, nIc (show mm < 2147483648 by omega), nIc (show ss < 2147483648 by omega), nIc (show j < 2147483648 by omega), nIc (show k < 2147483648 by omega), nIc (show ww < 2147483648 by omega), c_5, c_12, c_24, c_37, c_48, eq_true c_69]), ⟨SM.sr (SM.sr (SM.rf) scr52) scr53, SMJ.rf, rfl⟩⟩)
                          · refine lv_iload hx hb dX8_heard_204 (lv_at hl 8 rfl) ?_
                            refine jn_if_ne (tgt := 230) hx hb dX8_heard_206 (by decide) (by omega) (fun c_206 => ?_) (fun c_206 => ?_)
                            · refine lv_aload_n hx hb dX8_heard_230 rfl (lv_at hl 2 rfl) ?_
                              refine lv_iload_n hx hb dX8_heard_231 rfl (lv_at hl 3 rfl) ?_
                              refine lv_aload_n hx hb dX8_heard_232 rfl (lv_at hl 2 rfl) ?_
                              refine j_get (20, 0, 0) 0 (v := .ref (G.2.2.1 (21, 41, 0))) hC hB in_X8 lk_7 dX8_heard_233 jk20 rfl rfl (by decide) rfl ?_
                              refine lv_iconst (v := nI 3) hx hb dX8_heard_236 (by decide) ?_
                              refine lv_iload_n hx hb dX8_heard_237 rfl (lv_at hl 3 rfl) ?_
                              refine jn_iadd hx hb dX8_heard_238 ?_
                              refine j_iLd 41 (3 + mm) hC hB dX8_heard_239 (by decide) rfl (by simp only [lenI_41]; omega) ?_
                              refine j_eqi (x := (sr (sr I 52 (f52)) 53 (f53)) 41 (3 + mm)) (y := (I 41) (3 + mm)) ((sr_nj (show (41 : Nat) ≠ 53 by omega)).trans ((sr_nj (show (41 : Nat) ≠ 52 by omega)))) ?_
                              refine lv_iload hx hb dX8_heard_240 (lv_at hl 0 rfl) ?_
                              refine lv_iload hx hb dX8_heard_242 (lv_at hl 7 rfl) ?_
                              refine j_cvi (20, 0, 0) [.int (nI mm), .int ((I 41) (3 + mm)), .int (nI v), .int (nI k)] hC hB hl.1 (c_X8_isHeardBy l_ G (sr (sr I 52 (f52)) 53 (f53)) J O mm ((I 41) (3 + mm)) (nI v) k (by omega) (by omega) (by omega) ((sr_nj (show (41 : Nat) ≠ 53 by omega)).trans ((sr_nj (show (41 : Nat) ≠ 52 by omega)).trans (hD))) (hHD)) (cwV 4 hts gX8_heard_X8_isHeardBy rfl rfl rfl (by decide +kernel) ⟨by decide, by decide⟩) dX8_heard_244 jk20 rfl rfl rfl rfl (Nat.le_of_ble_eq_true rfl) (fun r_244 u_244 H locs hp_244 hB => ?_)
                              obtain ⟨rfl, rfl⟩ := hp_244
                              refine j_eqi (y := b2 (heB (I 41) (f52) (f53) mm ((I 41) (3 + mm)) (nI v) k)) (rfl) ?_
                              refine lv_istore (lv' := [(10, .int (b2 (heB (I 41) (f52) (f53) mm ((I 41) (3 + mm)) (nI v) k))), (9, .int (nI v)), (8, .int set), (0, .ref (G.2.2.1 (20, 0, 0))), (1, .int (nI mm)), (2, .int (nI ss)), (3, .int lane), (4, .int (nI j)), (5, .int (nI k)), (6, .int (nI ww))]) hx hb dX8_heard_247 hl (by decide) rfl (fun ls hl => ?_)
                              refine lv_iload hx hb dX8_heard_249 (lv_at hl 2 rfl) ?_
                              refine lv_iload hx hb dX8_heard_251 (lv_at hl 0 rfl) ?_
                              refine jb_if_eq (tgt := 263) hx hb dX8_heard_253 (by decide) (fun c_253 => ?_) (fun c_253 => ?_)
                              · refine lv_iconst (v := nI 0) hx hb dX8_heard_263 (by decide) ?_
                                refine lv_ior hx hb dX8_heard_264 ?_
                                refine lv_istore (lv' := [(8, .int (set ||| (nI 0))), (10, .int (b2 (heB (I 41) (f52) (f53) mm ((I 41) (3 + mm)) (nI v) k))), (9, .int (nI v)), (0, .ref (G.2.2.1 (20, 0, 0))), (1, .int (nI mm)), (2, .int (nI ss)), (3, .int lane), (4, .int (nI j)), (5, .int (nI k)), (6, .int (nI ww))]) hx hb dX8_heard_265 hl (by decide) rfl (fun ls hl => ?_)
                                refine lv_iinc (v := nI (v + 1)) (lv' := [(9, .int (nI (v + 1))), (8, .int (set ||| (nI 0))), (10, .int (b2 (heB (I 41) (f52) (f53) mm ((I 41) (3 + mm)) (nI v) k))), (0, .ref (G.2.2.1 (20, 0, 0))), (1, .int (nI mm)), (2, .int (nI ss)), (3, .int lane), (4, .int (nI j)), (5, .int (nI k)), (6, .int (nI ww))]) hx hb dX8_heard_267 hl (k := 2) rfl (jn_inc _ 1) (by decide) rfl (fun ls hl => ?_)
                                refine lv_goto (tgt := 188) hx hb dX8_heard_270 (by decide) ?_
                                exact ih_188 (set ||| (nI 0)) (v + 1) (by (have e5 : W_ = 10 := by rw [eW, if_neg c_192]); omega) (by (have e5 : W_ = 10 := by rw [eW, if_neg c_192]); omega) (by rw [it_s, ← hs]; simp [heAs, bitI, c_192, c_253]) _ _ _ hB (lv_sub hl [0, 1, 3, 4, 5, 6, 7, 8, 9] rfl)
                              · refine lv_iconst (v := nI 1) hx hb dX8_heard_256 (by decide) ?_
                                refine lv_iload hx hb dX8_heard_257 (lv_at hl 1 rfl) ?_
                                refine lv_ishl hx hb dX8_heard_259 ?_
                                refine lv_goto (tgt := 264) hx hb dX8_heard_260 (by decide) ?_
                                refine lv_ior hx hb dX8_heard_264 ?_
                                refine lv_istore (lv' := [(8, .int (set ||| ((nI 1) <<< ((nI v) &&& 31)))), (10, .int (b2 (heB (I 41) (f52) (f53) mm ((I 41) (3 + mm)) (nI v) k))), (9, .int (nI v)), (0, .ref (G.2.2.1 (20, 0, 0))), (1, .int (nI mm)), (2, .int (nI ss)), (3, .int lane), (4, .int (nI j)), (5, .int (nI k)), (6, .int (nI ww))]) hx hb dX8_heard_265 hl (by decide) rfl (fun ls hl => ?_)
                                refine lv_iinc (v := nI (v + 1)) (lv' := [(9, .int (nI (v + 1))), (8, .int (set ||| ((nI 1) <<< ((nI v) &&& 31)))), (10, .int (b2 (heB (I 41) (f52) (f53) mm ((I 41) (3 + mm)) (nI v) k))), (0, .ref (G.2.2.1 (20, 0, 0))), (1, .int (nI mm)), (2, .int (nI ss)), (3, .int lane), (4, .int (nI j)), (5, .int (nI k)), (6, .int (nI ww))]) hx hb dX8_heard_267 hl (k := 2) rfl (jn_inc _ 1) (by decide) rfl (fun ls hl => ?_)
                                refine lv_goto (tgt := 188) hx hb dX8_heard_270 (by decide) ?_
                                exact ih_188 (set ||| ((nI 1) <<< ((nI v) &&& 31))) (v + 1) (by (have e5 : W_ = 10 := by rw [eW, if_neg c_192]); omega) (by (have e5 : W_ = 10 := by rw [eW, if_neg c_192]); omega) (by rw [it_s, ← hs]; simp [heAs, bitI, c_192, c_253]) _ _ _ hB (lv_sub hl [0, 1, 3, 4, 5, 6, 7, 8, 9] rfl)
                            · exact absurd c_206 c_192
                        · refine lv_iconst (v := nI 5) hx hb dX8_heard_195 (by decide) ?_
                          refine lv_goto (tgt := 201) hx hb dX8_heard_196 (by decide) ?_
                          refine jn_icmp_ge (tgt := 273) hx hb dX8_heard_201 (by decide) (by omega) (by omega) (fun c_201 => ?_) (fun c_201 => ?_)
                          · refine lv_iload hx hb dX8_heard_273 (lv_at hl 1 rfl) ?_
                            exact j_iret hC hB dX8_heard_275 (⟨(by (have e5 : W_ = 5 := by rw [eW, if_pos c_192]); rw [hs, show v = W_ by omega, eW, heA_cong (hd2 := hdF (J 12) (24 * ss + j) (fun _ => nI 0) k) (hp2 := hqF (J 12) (24 * ss + j) (fun _ => nI 0) k) (fun q hq => by rw [h52]; simp [hdF, hq]) (fun q hq => by rw [h53]; simp [hqF, hq])]; simp [heaA, heaF, hp, tN, nIc (show mm < 2147483648 by omega), nIc (show ss < 2147483648 by omega), nIc (show j < 2147483648 by omega), nIc (show k < 2147483648 by omega), nIc (show ww < 2147483648 by omega), c_5, c_12, c_24, c_37, c_48, eq_true c_69]), ⟨SM.sr (SM.sr (SM.rf) scr52) scr53, SMJ.rf, rfl⟩⟩)
                          · refine lv_iload hx hb dX8_heard_204 (lv_at hl 8 rfl) ?_
                            refine jn_if_ne (tgt := 230) hx hb dX8_heard_206 (by decide) (by omega) (fun c_206 => ?_) (fun c_206 => ?_)
                            · exact absurd c_192 c_206
                            · refine lv_aload_n hx hb dX8_heard_209 rfl (lv_at hl 2 rfl) ?_
                              refine lv_iload_n hx hb dX8_heard_210 rfl (lv_at hl 3 rfl) ?_
                              refine lv_iload hx hb dX8_heard_211 (lv_at hl 0 rfl) ?_
                              refine lv_aload_n hx hb dX8_heard_213 rfl (lv_at hl 2 rfl) ?_
                              refine j_get (20, 0, 0) 0 (v := .ref (G.2.2.1 (21, 41, 0))) hC hB in_X8 lk_7 dX8_heard_214 jk20 rfl rfl (by decide) rfl ?_
                              refine lv_bipush (v := nI 63) hx hb dX8_heard_217 (by decide) ?_
                              refine lv_iload_n hx hb dX8_heard_219 rfl (lv_at hl 3 rfl) ?_
                              refine jn_iadd hx hb dX8_heard_220 ?_
                              refine j_iLd 41 (63 + mm) hC hB dX8_heard_221 (by decide) rfl (by simp only [lenI_41]; omega) ?_
                              refine j_eqi (x := (sr (sr I 52 (f52)) 53 (f53)) 41 (63 + mm)) (y := (I 41) (63 + mm)) ((sr_nj (show (41 : Nat) ≠ 53 by omega)).trans ((sr_nj (show (41 : Nat) ≠ 52 by omega)))) ?_
                              refine lv_iload hx hb dX8_heard_222 (lv_at hl 7 rfl) ?_
                              refine j_cvi (20, 0, 0) [.int (nI mm), .int (nI v), .int ((I 41) (63 + mm)), .int (nI k)] hC hB hl.1 (c_X8_isHeardBy l_ G (sr (sr I 52 (f52)) 53 (f53)) J O mm (nI v) ((I 41) (63 + mm)) k (by omega) (by omega) (by omega) ((sr_nj (show (41 : Nat) ≠ 53 by omega)).trans ((sr_nj (show (41 : Nat) ≠ 52 by omega)).trans (hD))) (hHD)) (cwV 4 hts gX8_heard_X8_isHeardBy rfl rfl rfl (by decide +kernel) ⟨by decide, by decide⟩) dX8_heard_224 jk20 rfl rfl rfl rfl (Nat.le_of_ble_eq_true rfl) (fun r_224 u_224 H locs hp_224 hB => ?_)
                              obtain ⟨rfl, rfl⟩ := hp_224
                              refine j_eqi (y := b2 (heB (I 41) (f52) (f53) mm (nI v) ((I 41) (63 + mm)) k)) (rfl) ?_
                              refine lv_goto (tgt := 247) hx hb dX8_heard_227 (by decide) ?_
                              refine lv_istore (lv' := [(10, .int (b2 (heB (I 41) (f52) (f53) mm (nI v) ((I 41) (63 + mm)) k))), (9, .int (nI v)), (8, .int set), (0, .ref (G.2.2.1 (20, 0, 0))), (1, .int (nI mm)), (2, .int (nI ss)), (3, .int lane), (4, .int (nI j)), (5, .int (nI k)), (6, .int (nI ww))]) hx hb dX8_heard_247 hl (by decide) rfl (fun ls hl => ?_)
                              refine lv_iload hx hb dX8_heard_249 (lv_at hl 2 rfl) ?_
                              refine lv_iload hx hb dX8_heard_251 (lv_at hl 0 rfl) ?_
                              refine jb_if_eq (tgt := 263) hx hb dX8_heard_253 (by decide) (fun c_253 => ?_) (fun c_253 => ?_)
                              · refine lv_iconst (v := nI 0) hx hb dX8_heard_263 (by decide) ?_
                                refine lv_ior hx hb dX8_heard_264 ?_
                                refine lv_istore (lv' := [(8, .int (set ||| (nI 0))), (10, .int (b2 (heB (I 41) (f52) (f53) mm (nI v) ((I 41) (63 + mm)) k))), (9, .int (nI v)), (0, .ref (G.2.2.1 (20, 0, 0))), (1, .int (nI mm)), (2, .int (nI ss)), (3, .int lane), (4, .int (nI j)), (5, .int (nI k)), (6, .int (nI ww))]) hx hb dX8_heard_265 hl (by decide) rfl (fun ls hl => ?_)
                                refine lv_iinc (v := nI (v + 1)) (lv' := [(9, .int (nI (v + 1))), (8, .int (set ||| (nI 0))), (10, .int (b2 (heB (I 41) (f52) (f53) mm (nI v) ((I 41) (63 + mm)) k))), (0, .ref (G.2.2.1 (20, 0, 0))), (1, .int (nI mm)), (2, .int (nI ss)), (3, .int lane), (4, .int (nI j)), (5, .int (nI k)), (6, .int (nI ww))]) hx hb dX8_heard_267 hl (k := 2) rfl (jn_inc _ 1) (by decide) rfl (fun ls hl => ?_)
                                refine lv_goto (tgt := 188) hx hb dX8_heard_270 (by decide) ?_
                                exact ih_188 (set ||| (nI 0)) (v + 1) (by (have e5 : W_ = 5 := by rw [eW, if_pos c_192]); omega) (by (have e5 : W_ = 5 := by rw [eW, if_pos c_192]); omega) (by rw [it_s, ← hs]; simp [heAs, bitI, eq_true c_192, c_253]) _ _ _ hB (lv_sub hl [0, 1, 3, 4, 5, 6, 7, 8, 9] rfl)
                              · refine lv_iconst (v := nI 1) hx hb dX8_heard_256 (by decide) ?_
                                refine lv_iload hx hb dX8_heard_257 (lv_at hl 1 rfl) ?_
                                refine lv_ishl hx hb dX8_heard_259 ?_
                                refine lv_goto (tgt := 264) hx hb dX8_heard_260 (by decide) ?_
                                refine lv_ior hx hb dX8_heard_264 ?_
                                refine lv_istore (lv' := [(8, .int (set ||| ((nI 1) <<< ((nI v) &&& 31)))), (10, .int (b2 (heB (I 41) (f52) (f53) mm (nI v) ((I 41) (63 + mm)) k))), (9, .int (nI v)), (0, .ref (G.2.2.1 (20, 0, 0))), (1, .int (nI mm)), (2, .int (nI ss)), (3, .int lane), (4, .int (nI j)), (5, .int (nI k)), (6, .int (nI ww))]) hx hb dX8_heard_265 hl (by decide) rfl (fun ls hl => ?_)
                                refine lv_iinc (v := nI (v + 1)) (lv' := [(9, .int (nI (v + 1))), (8, .int (set ||| ((nI 1) <<< ((nI v) &&& 31)))), (10, .int (b2 (heB (I 41) (f52) (f53) mm (nI v) ((I 41) (63 + mm)) k))), (0, .ref (G.2.2.1 (20, 0, 0))), (1, .int (nI mm)), (2, .int (nI ss)), (3, .int lane), (4, .int (nI j)), (5, .int (nI k)), (6, .int (nI ww))]) hx hb dX8_heard_267 hl (k := 2) rfl (jn_inc _ 1) (by decide) rfl (fun ls hl => ?_)
                                refine lv_goto (tgt := 188) hx hb dX8_heard_270 (by decide) ?_
                                exact ih_188 (set ||| ((nI 1) <<< ((nI v) &&& 31))) (v + 1) (by (have e5 : W_ = 5 := by rw [eW, if_pos c_192]); omega) (by (have e5 : W_ = 5 := by rw [eW, if_pos c_192]); omega) (by rw [it_s, ← hs]; simp [heAs, bitI, eq_true c_192, c_253]) _ _ _ hB (lv_sub hl [0, 1, 3, 4, 5, 6, 7, 8, 9] rfl)
                    exact lp_188 _ (nI 0) 0 (Nat.lt_succ_self _) (by omega) (rfl) _ _ _ hB (lv_sub hl [0, 1, 2, 3, 4, 5, 6, 7, 8] rfl)
                  · refine lv_aload_n hx hb dX8_heard_85 rfl (lv_at hl 1 rfl) ?_
                    refine j_get (20, 0, 0) 18 (v := .ref (G.2.2.1 (22, 12, 0))) hC hB in_X8 lk_50 dX8_heard_86 jk20 rfl rfl (by decide) rfl ?_
                    refine lv_bipush (v := nI 24) hx hb dX8_heard_89 (by decide) ?_
                    refine lv_iload_n hx hb dX8_heard_91 rfl (lv_at hl 3 rfl) ?_
                    refine jn_imul hx hb dX8_heard_92 ?_
                    refine lv_iload hx hb dX8_heard_93 (lv_at hl 5 rfl) ?_
                    refine jn_iadd hx hb dX8_heard_95 ?_
                    refine lv_iconst (v := nI 2) hx hb dX8_heard_96 (by decide) ?_
                    refine lv_iload hx hb dX8_heard_97 (lv_at hl 0 rfl) ?_
                    refine jn_imul hx hb dX8_heard_99 ?_
                    refine jn_iadd hx hb dX8_heard_100 ?_
                    refine j_lLd 12 (24 * ss + j + 2 * k) hC hB dX8_heard_101 (by decide) rfl (by simp only [lenJ_12]; omega) ?_
                    refine j_eql (y := (J 12) (24 * ss + j + 2 * k)) rfl ?_
                    refine lv_lstore (lv' := [(9, .long ((J 12) (24 * ss + j + 2 * k))), (8, .int (nI k)), (0, .ref (G.2.2.1 (20, 0, 0))), (1, .int (nI mm)), (2, .int (nI ss)), (3, .int lane), (4, .int (nI j)), (5, .int (nI nn)), (6, .int (nI ww))]) hx hb dX8_heard_102 hl (by decide) rfl (fun ls hl => ?_)
                    refine lv_aload_n hx hb dX8_heard_104 rfl (lv_at hl 2 rfl) ?_
                    refine j_get (20, 0, 0) 18 (v := .ref (G.2.2.1 (22, 12, 0))) hC hB in_X8 lk_50 dX8_heard_105 jk20 rfl rfl (by decide) rfl ?_
                    refine lv_bipush (v := nI 24) hx hb dX8_heard_108 (by decide) ?_
                    refine lv_iload_n hx hb dX8_heard_110 rfl (lv_at hl 4 rfl) ?_
                    refine jn_imul hx hb dX8_heard_111 ?_
                    refine lv_iload hx hb dX8_heard_112 (lv_at hl 6 rfl) ?_
                    refine jn_iadd hx hb dX8_heard_114 ?_
                    refine lv_iconst (v := nI 2) hx hb dX8_heard_115 (by decide) ?_
                    refine lv_iload hx hb dX8_heard_116 (lv_at hl 1 rfl) ?_
                    refine jn_imul hx hb dX8_heard_118 ?_
                    refine jn_iadd hx hb dX8_heard_119 ?_
                    refine lv_iconst (v := nI 1) hx hb dX8_heard_120 (by decide) ?_
                    refine jn_iadd hx hb dX8_heard_121 ?_
                    refine j_lLd 12 (24 * ss + j + 2 * k + 1) hC hB dX8_heard_122 (by decide) rfl (by simp only [lenJ_12]; omega) ?_
                    refine j_eql (y := (J 12) (24 * ss + j + 2 * k + 1)) rfl ?_
                    refine lv_lstore (lv' := [(11, .long ((J 12) (24 * ss + j + 2 * k + 1))), (9, .long ((J 12) (24 * ss + j + 2 * k))), (8, .int (nI k)), (0, .ref (G.2.2.1 (20, 0, 0))), (1, .int (nI mm)), (2, .int (nI ss)), (3, .int lane), (4, .int (nI j)), (5, .int (nI nn)), (6, .int (nI ww))]) hx hb dX8_heard_123 hl (by decide) rfl (fun ls hl => ?_)
                    refine lv_lload hx hb dX8_heard_125 (lv_at hl 1 rfl) ?_
                    refine lv_lconst (v := 0) hx hb dX8_heard_127 rfl ?_
                    refine lv_aload_n hx hb dX8_heard_128 rfl (lv_at hl 3 rfl) ?_
                    refine j_get (20, 0, 0) 0 (v := .ref (G.2.2.1 (21, 41, 0))) hC hB in_X8 lk_7 dX8_heard_129 jk20 rfl rfl (by decide) rfl ?_
                    refine lv_iconst (v := nI 0) hx hb dX8_heard_132 (by decide) ?_
                    refine j_iLd 41 0 hC hB dX8_heard_133 (by decide) rfl (by simp only [lenI_41]; omega) ?_
                    refine j_eqi (x := (sr (sr I 52 (f52)) 53 (f53)) 41 0) (y := nI nd) ((sr_nj (show (41 : Nat) ≠ 53 by omega)).trans ((sr_nj (show (41 : Nat) ≠ 52 by omega)).trans (hD))) ?_
                    refine lv_iconst (v := nI 1) hx hb dX8_heard_134 (by decide) ?_
                    refine lv_isub hx hb dX8_heard_135 ?_
                    refine lv_i2l (v := ((nI nd) - (nI 1)).toInt64) hx hb dX8_heard_136 rfl ?_
                    refine j_csi [.long ((J 12) (24 * ss + j + 2 * k)), .long ((0 : Int64)), .long (((nI nd) - (nI 1)).toInt64)] hC hB hl.1 (c_X8_in l_ G (sr (sr I 52 (f52)) 53 (f53)) J O ((J 12) (24 * ss + j + 2 * k)) ((0 : Int64)) (((nI nd) - (nI 1)).toInt64)) (va_cwS 3 hts gX8_heard_X8_in rfl rfl rfl (by decide +kernel) ⟨by decide, by decide⟩) dX8_heard_137 rfl rfl (Nat.le_of_ble_eq_true rfl) (fun r_137 u_137 H locs hp_137 hB => ?_)
                    obtain ⟨rfl, rfl⟩ := hp_137
                    refine j_eqi (y := b2 (inR ((J 12) (24 * ss + j + 2 * k)) ((0 : Int64)) (((nI nd) - (nI 1)).toInt64))) (rfl) ?_
                    refine jb_if_eq (tgt := 153) hx hb dX8_heard_140 (by decide) (fun c_140 => ?_) (fun c_140 => ?_)
                    · refine lv_bipush (v := (-2 : Int32)) hx hb dX8_heard_153 (by decide) ?_
                      exact j_iret hC hB dX8_heard_155 (⟨by have hz := hpB_stop (show hpB (J 12) (24 * ss + j) nd (k + 1) = false from by simp [hpB, c_140]) nn (by omega); simp [heaA, hz, tN, nIc (show mm < 2147483648 by omega), nIc (show ss < 2147483648 by omega), nIc (show j < 2147483648 by omega), nIc (show nn < 2147483648 by omega), c_5, c_12, c_24, c_37, c_48, eq_true c_69, c_82], ⟨SM.sr (SM.sr (SM.rf) scr52) scr53, SMJ.rf, rfl⟩⟩)
                    · refine lv_lload hx hb dX8_heard_143 (lv_at hl 0 rfl) ?_
                      refine lv_lconst (v := 0) hx hb dX8_heard_145 rfl ?_
                      refine lv_lconst (v := 1) hx hb dX8_heard_146 rfl ?_
                      refine j_csi [.long ((J 12) (24 * ss + j + 2 * k + 1)), .long ((0 : Int64)), .long ((1 : Int64))] hC hB hl.1 (c_X8_in l_ G (sr (sr I 52 (f52)) 53 (f53)) J O ((J 12) (24 * ss + j + 2 * k + 1)) ((0 : Int64)) ((1 : Int64))) (va_cwS 3 hts gX8_heard_X8_in rfl rfl rfl (by decide +kernel) ⟨by decide, by decide⟩) dX8_heard_147 rfl rfl (Nat.le_of_ble_eq_true rfl) (fun r_147 u_147 H locs hp_147 hB => ?_)
                      obtain ⟨rfl, rfl⟩ := hp_147
                      refine j_eqi (y := b2 (inR ((J 12) (24 * ss + j + 2 * k + 1)) ((0 : Int64)) ((1 : Int64)))) (rfl) ?_
                      refine jb_if_ne (tgt := 156) hx hb dX8_heard_150 (by decide) (fun c_150 => ?_) (fun c_150 => ?_)
                      · refine lv_aload_n hx hb dX8_heard_156 rfl (lv_at hl 3 rfl) ?_
                        refine j_get (20, 0, 0) 20 (v := .ref (G.2.2.1 (21, 52, 0))) hC hB in_X8 lk_56 dX8_heard_157 jk20 rfl rfl (by decide) rfl ?_
                        refine lv_iload hx hb dX8_heard_160 (lv_at hl 2 rfl) ?_
                        refine lv_lload hx hb dX8_heard_162 (lv_at hl 1 rfl) ?_
                        refine lv_l2i (v := ((J 12) (24 * ss + j + 2 * k)).toInt32) hx hb dX8_heard_164 rfl ?_
                        refine j_iSt 52 k hC hB dX8_heard_165 (by decide) rfl (by simp only [lenI_52]; omega) (fun H locs hB => ?_)
                        have hB : jB G A s_.heap (sr (sr I 53 (f53)) 52 (upd (f52) k (((J 12) (24 * ss + j + 2 * k)).toInt32)), J, O) H locs := by rw [show sr (sr I 53 (f53)) 52 (upd (f52) k (((J 12) (24 * ss + j + 2 * k)).toInt32)) = u2 (sr (sr I 52 (f52)) 53 (f53)) 52 k (((J 12) (24 * ss + j + 2 * k)).toInt32) from (u2_sr2 (show (52 : Nat) ≠ 53 by omega)).symm]; exact hB
                        refine lv_aload_n hx hb dX8_heard_166 rfl (lv_at hl 3 rfl) ?_
                        refine j_get (20, 0, 0) 21 (v := .ref (G.2.2.1 (21, 53, 0))) hC hB in_X8 lk_59 dX8_heard_167 jk20 rfl rfl (by decide) rfl ?_
                        refine lv_iload hx hb dX8_heard_170 (lv_at hl 2 rfl) ?_
                        refine lv_lload hx hb dX8_heard_172 (lv_at hl 0 rfl) ?_
                        refine lv_l2i (v := ((J 12) (24 * ss + j + 2 * k + 1)).toInt32) hx hb dX8_heard_174 rfl ?_
                        refine j_iSt 53 k hC hB dX8_heard_175 (by decide) rfl (by simp only [lenI_53]; omega) (fun H locs hB => ?_)
                        have hB : jB G A s_.heap (sr (sr I 52 (upd (f52) k (((J 12) (24 * ss + j + 2 * k)).toInt32))) 53 (upd (f53) k (((J 12) (24 * ss + j + 2 * k + 1)).toInt32)), J, O) H locs := by rw [show sr (sr I 52 (upd (f52) k (((J 12) (24 * ss + j + 2 * k)).toInt32))) 53 (upd (f53) k (((J 12) (24 * ss + j + 2 * k + 1)).toInt32)) = u2 (sr (sr I 53 (f53)) 52 (upd (f52) k (((J 12) (24 * ss + j + 2 * k)).toInt32))) 53 k (((J 12) (24 * ss + j + 2 * k + 1)).toInt32) from (u2_sr2 (show (53 : Nat) ≠ 52 by omega)).symm]; exact hB
                        refine lv_iinc (v := nI (k + 1)) (lv' := [(8, .int (nI (k + 1))), (11, .long ((J 12) (24 * ss + j + 2 * k + 1))), (9, .long ((J 12) (24 * ss + j + 2 * k))), (0, .ref (G.2.2.1 (20, 0, 0))), (1, .int (nI mm)), (2, .int (nI ss)), (3, .int lane), (4, .int (nI j)), (5, .int (nI nn)), (6, .int (nI ww))]) hx hb dX8_heard_176 hl (k := 2) rfl (jn_inc _ 1) (by decide) rfl (fun ls hl => ?_)
                        refine lv_goto (tgt := 78) hx hb dX8_heard_179 (by decide) ?_
                        exact ih_78 (upd (f52) k (((J 12) (24 * ss + j + 2 * k)).toInt32)) (upd (f53) k (((J 12) (24 * ss + j + 2 * k + 1)).toInt32)) (k + 1) (by omega) (by omega) (by rw [h52]; exact hdF_step _ _ _ _) (by rw [h53]; exact hqF_step _ _ _ _) (by simp [hpB, hp, c_140, c_150]) _ _ _ hB (lv_sub hl [0, 3, 4, 5, 6, 7, 8, 9] rfl)
                      · refine lv_bipush (v := (-2 : Int32)) hx hb dX8_heard_153 (by decide) ?_
                        exact j_iret hC hB dX8_heard_155 (⟨by have hz := hpB_stop (show hpB (J 12) (24 * ss + j) nd (k + 1) = false from by simp [hpB, c_140, c_150]) nn (by omega); simp [heaA, hz, tN, nIc (show mm < 2147483648 by omega), nIc (show ss < 2147483648 by omega), nIc (show j < 2147483648 by omega), nIc (show nn < 2147483648 by omega), c_5, c_12, c_24, c_37, c_48, eq_true c_69, c_82], ⟨SM.sr (SM.sr (SM.rf) scr52) scr53, SMJ.rf, rfl⟩⟩)
              exact lp_78 _ (I 52) (I 53) 0 (Nat.lt_succ_self _) (by omega) ((hdF_0 _ _ _).symm) ((hqF_0 _ _ _).symm) (rfl) _ _ _ (jB_cast2 hB (by first | exact (sr_id _ _).symm | (funext a_; simp +decide only [sr]; (repeat' split) <;> first | rfl | (exfalso; omega) | (subst_vars; rfl))) rfl) (lv_sub hl [0, 2, 3, 4, 5, 6, 7, 8] rfl)
            · refine lv_iload hx hb dX8_heard_72 (lv_at hl 0 rfl) ?_
              exact j_iret hC hB dX8_heard_74 (⟨by simp [heaA, tN, nIc (show mm < 2147483648 by omega), nIc (show ss < 2147483648 by omega), nIc (show nn < 2147483648 by omega), c_5, c_12, c_24, c_37, c_48, c_69], ⟨SM.rf, SMJ.rf, rfl⟩⟩)
          · refine lv_iconst (v := (-1 : Int32)) hx hb dX8_heard_51 (by decide) ?_
            exact j_iret hC hB dX8_heard_52 (⟨by simp [heaA, c_5, c_12, c_24, c_37, c_48], ⟨SM.rf, SMJ.rf, rfl⟩⟩)

set_option maxHeartbeats 4000000 in
set_option maxRecDepth 100000 in
theorem c_X8_film (l_ : Launch) (G : jG) (I : Nat → Nat → Int32) (J : Nat → Nat → Int64) (O : Nat → Nat → Nat) (man n sheet lane i : Int32) {nd : Nat} (hnd : nd ≤ 10) (hD : I 41 0 = nI nd) {nm : Nat} (hnm : nm ≤ 4) (hM : I 41 1 = nI nm) (hW : wfD (I 41) nd) (hWc : ∀ m, m < nm → ∃ c, c < 8 ∧ I 41 (51 + m) = nI c) (hSzR : ∀ s, s < 4 → ∃ sz, sz ≤ 24 ∧ I 51 s = nI sz) : jMi l_ G yX8_film wsX8_film ({ frames := 5, cells := 0, slots := 0, locals := 120 }) [.ref (G.2.2.1 (20, 0, 0)), .int man, .int n, .int sheet, .int lane, .int i] (I, J, O) (fun r u => r = filA (I 50) (I 51) nm man n sheet lane i ∧ SM I u.1 ∧ u.2.1 = filJR (I 41) (I 50) (I 51) J nd nm man n sheet lane i ∧ u.2.2 = O) := by
  refine jMi_of (cc := cX8_film) (maxL := 8) (ret := (some .int)) (lv0 := [(0, .ref (G.2.2.1 (20, 0, 0))), (1, .int man), (2, .int n), (3, .int sheet), (4, .int lane), (5, .int i)]) (by decide) rfl (Nat.le_of_ble_eq_true rfl) rfl ?_
  intro pg_ ev_ s_ mi_ below meth cd_ A ls hC hB hl
  obtain ⟨hx, hb, hr, hml, hown, hts, hlocks, hK, hA⟩ := id hC
  have lk_50 := hts (.fieldLink RX8 50 "RiddlePrisonModel" "items" "[J") (by decide +kernel)
  have lk_16 := hts (.fieldLink RX8 16 "RiddlePrisonModel" "steps" "[I") (by decide +kernel)
  have in_X8 := (fun w h => List.mem_cons_of_mem _ (List.mem_append_right _ h) : ∀ w ∈ wsX80, w ∈ wsX8_film)
  refine lv_aload_n hx hb dX8_film_0 rfl (lv_at hl 0 rfl) ?_
  refine lv_iload_n hx hb dX8_film_1 rfl (lv_at hl 1 rfl) ?_
  refine j_cvi (20, 0, 0) [.int man] hC hB hl.1 (c_X8_isMan l_ G I J O man (by omega) (hM)) (cwV 1 hts gX8_film_X8_isMan rfl rfl rfl (by decide +kernel) ⟨by decide, by decide⟩) dX8_film_2 jk20 rfl rfl rfl rfl (Nat.le_of_ble_eq_true rfl) (fun r_2 u_2 H locs hp_2 hB => ?_)
  obtain ⟨rfl, rfl⟩ := hp_2
  refine jb_if_eq (tgt := 40) hx hb dX8_film_5 (by decide) (fun c_5 => ?_) (fun c_5 => ?_)
  · refine lv_iconst (v := (-1 : Int32)) hx hb dX8_film_40 (by decide) ?_
    exact j_iret hC hB dX8_film_41 (⟨by simp [filA, flOk, c_5], SM.rf, by simp [filJR, flOk, c_5], rfl⟩)
  · obtain ⟨mm, hmm, rfl⟩ := isB_nat c_5 (by omega)
    obtain ⟨cc, hcc, ecc⟩ := hWc mm hmm
    refine lv_iload_n hx hb dX8_film_8 rfl (lv_at hl 2 rfl) ?_
    refine lv_i2l (v := n.toInt64) hx hb dX8_film_9 rfl ?_
    refine lv_lconst (v := 1) hx hb dX8_film_10 rfl ?_
    refine lv_ldc2 (v := 8) hx hb hown (hts (.constantLong RX8 252 (8)) (by decide +kernel)) dX8_film_11 ?_
    refine j_csi [.long n.toInt64, .long ((1 : Int64)), .long ((8 : Int64))] hC hB hl.1 (c_X8_in l_ G I J O n.toInt64 ((1 : Int64)) ((8 : Int64))) (va_cwS 3 hts gX8_film_X8_in rfl rfl rfl (by decide +kernel) ⟨by decide, by decide⟩) dX8_film_14 rfl rfl (Nat.le_of_ble_eq_true rfl) (fun r_14 u_14 H locs hp_14 hB => ?_)
    obtain ⟨rfl, rfl⟩ := hp_14
    refine jb_if_eq (tgt := 40) hx hb dX8_film_17 (by decide) (fun c_17 => ?_) (fun c_17 => ?_)
    · refine lv_iconst (v := (-1 : Int32)) hx hb dX8_film_40 (by decide) ?_
      exact j_iret hC hB dX8_film_41 (⟨by simp [filA, flOk, c_5, c_17], SM.rf, by simp [filJR, flOk, c_5, c_17], rfl⟩)
    · obtain ⟨nn, hnnl, hnn, rfl⟩ := inR_rng (lo := 1) (hi := 8) (by decide) (by decide) (by decide) c_17
      refine lv_iload_n hx hb dX8_film_20 rfl (lv_at hl 3 rfl) ?_
      refine j_csi [.int sheet] hC hB hl.1 (c_X8_isSheet l_ G I J O sheet) (va_cwS 1 hts gX8_film_X8_isSheet rfl rfl rfl (by decide +kernel) ⟨by decide, by decide⟩) dX8_film_21 rfl rfl (Nat.le_of_ble_eq_true rfl) (fun r_21 u_21 H locs hp_21 hB => ?_)
      obtain ⟨rfl, rfl⟩ := hp_21
      refine jb_if_eq (tgt := 40) hx hb dX8_film_24 (by decide) (fun c_24 => ?_) (fun c_24 => ?_)
      · refine lv_iconst (v := (-1 : Int32)) hx hb dX8_film_40 (by decide) ?_
        exact j_iret hC hB dX8_film_41 (⟨by simp [filA, flOk, c_5, c_17, c_24], SM.rf, by simp [filJR, flOk, c_5, c_17, c_24], rfl⟩)
      · obtain ⟨ss, hss, rfl⟩ := isB_nat c_24 (by omega)
        refine lv_iload hx hb dX8_film_27 (lv_at hl 4 rfl) ?_
        refine lv_i2l (v := lane.toInt64) hx hb dX8_film_29 rfl ?_
        refine lv_lconst (v := 0) hx hb dX8_film_30 rfl ?_
        refine lv_ldc2 (v := 3) hx hb hown (hts (.constantLong RX8 68 (3)) (by decide +kernel)) dX8_film_31 ?_
        refine j_csi [.long lane.toInt64, .long ((0 : Int64)), .long ((3 : Int64))] hC hB hl.1 (c_X8_in l_ G I J O lane.toInt64 ((0 : Int64)) ((3 : Int64))) (va_cwS 3 hts gX8_film_X8_in rfl rfl rfl (by decide +kernel) ⟨by decide, by decide⟩) dX8_film_34 rfl rfl (Nat.le_of_ble_eq_true rfl) (fun r_34 u_34 H locs hp_34 hB => ?_)
        obtain ⟨rfl, rfl⟩ := hp_34
        refine j_eqi (y := b2 (isB lane 4)) (by rw [inR_isB (n := 4) (by decide)]) ?_
        refine jb_if_ne (tgt := 42) hx hb dX8_film_37 (by decide) (fun c_37 => ?_) (fun c_37 => ?_)
        · refine lv_aload_n hx hb dX8_film_42 rfl (lv_at hl 0 rfl) ?_
          refine lv_iload_n hx hb dX8_film_43 rfl (lv_at hl 3 rfl) ?_
          refine lv_iload hx hb dX8_film_44 (lv_at hl 4 rfl) ?_
          refine lv_iload hx hb dX8_film_46 (lv_at hl 5 rfl) ?_
          refine lv_iload_n hx hb dX8_film_48 rfl (lv_at hl 2 rfl) ?_
          refine j_cvi (20, 0, 0) [.int (nI ss), .int lane, .int i, .int (nI nn)] hC hB hl.1 (c_X8_refusesItems l_ G I J O ss lane i (nI nn) (by omega)) (cwV 4 hts gX8_film_X8_refusesItems rfl rfl rfl (by decide +kernel) ⟨by decide, by decide⟩) dX8_film_49 jk20 rfl rfl rfl rfl (Nat.le_of_ble_eq_true rfl) (fun r_49 u_49 H locs hp_49 hB => ?_)
          obtain ⟨rfl, rfl⟩ := hp_49
          refine lv_istore (lv' := [(6, .int (rfF (I 50) (I 51) ss lane i (nI nn))), (0, .ref (G.2.2.1 (20, 0, 0))), (1, .int (nI mm)), (2, .int (nI nn)), (3, .int (nI ss)), (4, .int lane), (5, .int i)]) hx hb dX8_film_52 hl (by decide) rfl (fun ls hl => ?_)
          refine lv_iload hx hb dX8_film_54 (lv_at hl 0 rfl) ?_
          refine lv_if_eq (tgt := 62) hx hb dX8_film_56 (by decide) (fun c_56 => ?_) (fun c_56 => ?_)
          · obtain ⟨z, hz, ez⟩ := hSzR ss hss
            obtain ⟨hlz, h4z, j, hj, rfl⟩ := rfF_nat ez hz (by omega) c_56
            refine lv_aload_n hx hb dX8_film_62 rfl (lv_at hl 1 rfl) ?_
            refine lv_iload_n hx hb dX8_film_63 rfl (lv_at hl 2 rfl) ?_
            refine j_cvv (20, 0, 0) [.int (nI mm)] hC hB hl.1 (c_X8_layOf l_ G I J O mm (by omega) (by omega) (ecc) (by omega) (hD) (hW)) (cwV 1 hts gX8_film_X8_layOf rfl rfl rfl (by decide +kernel) ⟨by decide, by decide⟩) dX8_film_64 jk20 rfl rfl rfl rfl (Nat.le_of_ble_eq_true rfl) (fun u_64 H locs hp_64 hB => ?_)
            obtain rfl := hp_64
            have hB : jB G A s_.heap (sr (sr (sr I 40 (upd (I 40) 1 (nI 0))) 43 ((lsF (I 41) (I 43) (I 44) mm (nI 0) cc nd).1)) 44 ((lsF (I 41) (I 43) (I 44) mm (nI 0) cc nd).2), J, O) H locs := hB
            refine lv_iconst (v := nI 0) hx hb dX8_film_67 (by decide) ?_
            refine lv_istore (lv' := [(7, .int (nI 0)), (6, .int (rfF (I 50) (I 51) ss lane (nI j) (nI nn))), (0, .ref (G.2.2.1 (20, 0, 0))), (1, .int (nI mm)), (2, .int (nI nn)), (3, .int (nI ss)), (4, .int lane), (5, .int (nI j))]) hx hb dX8_film_68 hl (by decide) rfl (fun ls hl => ?_)
            have lp_70 : ∀ (fu : Nat) (y : Nat → Int64) (k : Nat), nn - k < fu → (k ≤ nn) → (y = flR (lsF (I 41) (I 43) (I 44) mm (nI 0) cc nd).1 (J 12) (24 * ss + j) k) → ∀ H locs ls, jB G A s_.heap (sr (sr (sr I 40 (upd (I 40) 1 (nI 0))) 43 ((lsF (I 41) (I 43) (I 44) mm (nI 0) cc nd).1)) 44 ((lsF (I 41) (I 43) (I 44) mm (nI 0) cc nd).2), srJ J 12 (y), O) H locs → lv_has ls 8 [(7, .int (nI k)), (0, .ref (G.2.2.1 (20, 0, 0))), (1, .int (nI mm)), (2, .int (nI nn)), (3, .int (nI ss)), (4, .int lane), (5, .int (nI j))] → W pg_ l_ ev_ ({ frames := 5, cells := 0, slots := 0, locals := 120 }) s_ mi_ ([.ref (G.2.2.1 (20, 0, 0)), .int (nI mm), .int (nI nn), .int (nI ss), .int lane, .int (nI j)]).toArray below meth cd_ H locs 0 0 (jQi G A below [.ref (G.2.2.1 (20, 0, 0)), .int (nI mm), .int (nI nn), .int (nI ss), .int lane, .int (nI j)] s_ (fun r u => r = filA (I 50) (I 51) nm (nI mm) (nI nn) (nI ss) lane (nI j) ∧ SM I u.1 ∧ u.2.1 = filJR (I 41) (I 50) (I 51) J nd nm (nI mm) (nI nn) (nI ss) lane (nI j) ∧ u.2.2 = O)) (F0 mi_ 70 ls []) := by
              intro fu
              induction fu with
              | zero => intro y k hf; exact absurd hf (Nat.not_lt_zero _)
              | succ fu ih_70 =>
                intro y k hf_70 hk hy H locs ls hB hl
                refine lv_iload hx hb dX8_film_70 (lv_at hl 0 rfl) ?_
                refine lv_iload_n hx hb dX8_film_72 rfl (lv_at hl 3 rfl) ?_
                refine jn_icmp_ge (tgt := 123) hx hb dX8_film_73 (by decide) (by omega) (by omega) (fun c_73 => ?_) (fun c_73 => ?_)
                · refine lv_iload_n hx hb dX8_film_123 rfl (lv_at hl 3 rfl) ?_
                  exact j_iret hC hB dX8_film_124 (⟨by simp [filA, flOk, tN, nIc (show mm < 2147483648 by omega), nIc (show ss < 2147483648 by omega), nIc (show nn < 2147483648 by omega), nIc (show j < 2147483648 by omega), c_5, c_17, c_24, c_37, eq_true c_56], SM.sr (SM.sr (SM_40 (SM.rf) ((pk_un (show (0 : Nat) ≠ 1 by decide)).trans (rfl)) ((pk_un (show (2 : Nat) ≠ 1 by decide)).trans (rfl))) scr43) scr44, by rw [hy, show k = nn by omega, flR_cong (by omega) (fun q hq => ((lsF_Z hW (I 43) (I 44) mm (nI 0) cc) q hq).1)]; simp [filJR, flOk, ceF, ecc, nIc (show cc < 2147483648 by omega), tN, nIc (show mm < 2147483648 by omega), nIc (show ss < 2147483648 by omega), nIc (show nn < 2147483648 by omega), nIc (show j < 2147483648 by omega), c_5, c_17, c_24, c_37, eq_true c_56], rfl⟩)
                · refine lv_aload_n hx hb dX8_film_76 rfl (lv_at hl 1 rfl) ?_
                  refine j_get (20, 0, 0) 18 (v := .ref (G.2.2.1 (22, 12, 0))) hC hB in_X8 lk_50 dX8_film_77 jk20 rfl rfl (by decide) rfl ?_
                  refine lv_bipush (v := nI 24) hx hb dX8_film_80 (by decide) ?_
                  refine lv_iload_n hx hb dX8_film_82 rfl (lv_at hl 4 rfl) ?_
                  refine jn_imul hx hb dX8_film_83 ?_
                  refine lv_iload hx hb dX8_film_84 (lv_at hl 6 rfl) ?_
                  refine jn_iadd hx hb dX8_film_86 ?_
                  refine lv_iload hx hb dX8_film_87 (lv_at hl 0 rfl) ?_
                  refine jn_iadd hx hb dX8_film_89 ?_
                  refine lv_aload_n hx hb dX8_film_90 rfl (lv_at hl 1 rfl) ?_
                  refine j_get (20, 0, 0) 4 (v := .ref (G.2.2.1 (21, 43, 0))) hC hB in_X8 lk_16 dX8_film_91 jk20 rfl rfl (by decide) rfl ?_
                  refine lv_iload hx hb dX8_film_94 (lv_at hl 0 rfl) ?_
                  refine j_iLd 43 k hC hB dX8_film_96 (by decide) rfl (by simp only [lenI_43]; omega) ?_
                  refine j_eqi (x := (sr (sr (sr I 40 (upd (I 40) 1 (nI 0))) 43 ((lsF (I 41) (I 43) (I 44) mm (nI 0) cc nd).1)) 44 ((lsF (I 41) (I 43) (I 44) mm (nI 0) cc nd).2)) 43 k) (y := ((lsF (I 41) (I 43) (I 44) mm (nI 0) cc nd).1) k) ((sr_nj (show (43 : Nat) ≠ 44 by omega)).trans (sr_sj)) ?_
                  refine lv_ldc (v := 1000000) hx hb hown (hts (.constant RX8 148 (1000000)) (by decide +kernel)) dX8_film_97 ?_
                  refine j_eqi (y := nI 1000000) rfl ?_
                  refine lv_icmp_ne (tgt := 108) hx hb dX8_film_99 (by decide) (fun c_99 => ?_) (fun c_99 => ?_)
                  · refine lv_aload_n hx hb dX8_film_108 rfl (lv_at hl 1 rfl) ?_
                    refine j_get (20, 0, 0) 4 (v := .ref (G.2.2.1 (21, 43, 0))) hC hB in_X8 lk_16 dX8_film_109 jk20 rfl rfl (by decide) rfl ?_
                    refine lv_iload hx hb dX8_film_112 (lv_at hl 0 rfl) ?_
                    refine j_iLd 43 k hC hB dX8_film_114 (by decide) rfl (by simp only [lenI_43]; omega) ?_
                    refine j_eqi (x := (sr (sr (sr I 40 (upd (I 40) 1 (nI 0))) 43 ((lsF (I 41) (I 43) (I 44) mm (nI 0) cc nd).1)) 44 ((lsF (I 41) (I 43) (I 44) mm (nI 0) cc nd).2)) 43 k) (y := ((lsF (I 41) (I 43) (I 44) mm (nI 0) cc nd).1) k) ((sr_nj (show (43 : Nat) ≠ 44 by omega)).trans (sr_sj)) ?_
                    refine lv_i2l (v := (((lsF (I 41) (I 43) (I 44) mm (nI 0) cc nd).1) k).toInt64) hx hb dX8_film_115 rfl ?_
                    refine j_lSt 12 (24 * ss + j + k) hC hB dX8_film_116 (by decide) rfl (by simp only [lenJ_12]; omega) (fun H locs hB => ?_)
                    have hB : jB G A s_.heap (sr (sr (sr I 40 (upd (I 40) 1 (nI 0))) 43 ((lsF (I 41) (I 43) (I 44) mm (nI 0) cc nd).1)) 44 ((lsF (I 41) (I 43) (I 44) mm (nI 0) cc nd).2), srJ J 12 (vp_updL (y) (24 * ss + j + k) ((((lsF (I 41) (I 43) (I 44) mm (nI 0) cc nd).1) k).toInt64)), O) H locs := by rw [show srJ J 12 (vp_updL (y) (24 * ss + j + k) ((((lsF (I 41) (I 43) (I 44) mm (nI 0) cc nd).1) k).toInt64)) = v2 (srJ J 12 (y)) 12 (24 * ss + j + k) ((((lsF (I 41) (I 43) (I 44) mm (nI 0) cc nd).1) k).toInt64) from (v2_srJ _ _ _ _ _).symm]; exact hB
                    refine lv_iinc (v := nI (k + 1)) (lv' := [(7, .int (nI (k + 1))), (0, .ref (G.2.2.1 (20, 0, 0))), (1, .int (nI mm)), (2, .int (nI nn)), (3, .int (nI ss)), (4, .int lane), (5, .int (nI j))]) hx hb dX8_film_117 hl (k := 0) rfl (jn_inc _ 1) (by decide) rfl (fun ls hl => ?_)
                    refine lv_goto (tgt := 70) hx hb dX8_film_120 (by decide) ?_
                    exact ih_70 (vp_updL (y) (24 * ss + j + k) ((((lsF (I 41) (I 43) (I 44) mm (nI 0) cc nd).1) k).toInt64)) (k + 1) (by omega) (by omega) (by rw [hy, ← flR_step]; simp [c_99]) _ _ _ hB (lv_sub hl [0, 1, 2, 3, 4, 5, 6] rfl)
                  · refine lv_ldc2 (v := -4) hx hb hown (hts (.constantLong RX8 257 (-4)) (by decide +kernel)) dX8_film_102 ?_
                    refine lv_goto (tgt := 116) hx hb dX8_film_105 (by decide) ?_
                    refine j_lSt 12 (24 * ss + j + k) hC hB dX8_film_116 (by decide) rfl (by simp only [lenJ_12]; omega) (fun H locs hB => ?_)
                    have hB : jB G A s_.heap (sr (sr (sr I 40 (upd (I 40) 1 (nI 0))) 43 ((lsF (I 41) (I 43) (I 44) mm (nI 0) cc nd).1)) 44 ((lsF (I 41) (I 43) (I 44) mm (nI 0) cc nd).2), srJ J 12 (vp_updL (y) (24 * ss + j + k) ((-4 : Int64))), O) H locs := by rw [show srJ J 12 (vp_updL (y) (24 * ss + j + k) ((-4 : Int64))) = v2 (srJ J 12 (y)) 12 (24 * ss + j + k) ((-4 : Int64)) from (v2_srJ _ _ _ _ _).symm]; exact hB
                    refine lv_iinc (v := nI (k + 1)) (lv' := [(7, .int (nI (k + 1))), (0, .ref (G.2.2.1 (20, 0, 0))), (1, .int (nI mm)), (2, .int (nI nn)), (3, .int (nI ss)), (4, .int lane), (5, .int (nI j))]) hx hb dX8_film_117 hl (k := 0) rfl (jn_inc _ 1) (by decide) rfl (fun ls hl => ?_)
                    refine lv_goto (tgt := 70) hx hb dX8_film_120 (by decide) ?_
                    exact ih_70 (vp_updL (y) (24 * ss + j + k) ((-4 : Int64))) (k + 1) (by omega) (by omega) (by rw [hy, ← flR_step]; simp [eq_true c_99]) _ _ _ hB (lv_sub hl [0, 1, 2, 3, 4, 5, 6] rfl)
            exact lp_70 _ (J 12) 0 (Nat.lt_succ_self _) (by omega) ((flR_0 _ _ _).symm) _ _ _ (jB_cast2 hB rfl (by first | exact (srJ_id _ _).symm | (funext a_; simp +decide only [srJ]; (repeat' split) <;> first | rfl | (exfalso; omega) | (subst_vars; rfl)))) (lv_sub hl [0, 2, 3, 4, 5, 6, 7] rfl)
          · refine lv_iload hx hb dX8_film_59 (lv_at hl 0 rfl) ?_
            exact j_iret hC hB dX8_film_61 (⟨by simp [filA, flOk, tN, nIc (show mm < 2147483648 by omega), nIc (show ss < 2147483648 by omega), nIc (show nn < 2147483648 by omega), c_5, c_17, c_24, c_37, c_56], SM.rf, by simp [filJR, flOk, tN, nIc (show mm < 2147483648 by omega), nIc (show ss < 2147483648 by omega), nIc (show nn < 2147483648 by omega), c_5, c_17, c_24, c_37, c_56], rfl⟩)
        · refine lv_iconst (v := (-1 : Int32)) hx hb dX8_film_40 (by decide) ?_
          exact j_iret hC hB dX8_film_41 (⟨by simp [filA, flOk, c_5, c_17, c_24, c_37], SM.rf, by simp [filJR, flOk, c_5, c_17, c_24, c_37], rfl⟩)
