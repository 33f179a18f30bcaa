set_option maxHeartbeats 4000000 in
set_option maxRecDepth 100000 in
theorem c_X2_forget (l_ : Launch) (G : jG) (I : Nat → Nat → Int32) (J : Nat → Nat → Int64) (O : Nat → Nat → Nat) (h : Nat) (hh : h < 2) : jMv l_ G yX2_forget wsX2_forget ({ frames := 0, cells := 0, slots := 0, locals := 0 }) [.ref (G.2.2.1 (7, h, 0))] (I, J, O) (fun u => u = (sr I 21 (upd (I 21) h (nI 0)), J, O)) := by
  refine jMv_of (cc := cX2_forget) (maxL := 1) (ret := none) (lv0 := [(0, .ref (G.2.2.1 (7, h, 0)))]) (by decide) rfl (Nat.le_of_ble_eq_true rfl) rfl ?_
  intro pg_ ev_ s_ mi_ below meth cd_ A ls hC hB hl
  obtain ⟨hx, hb, hr, hml, hown, hts, hlocks, hK, hA⟩ := id hC
  have lk_16 := hts (.fieldLink RX2 16 "RiddlePrison$History" "size" "I") (by decide +kernel)
  have in_X2 := (fun w h => List.mem_cons_of_mem _ (List.mem_append_right _ h) : ∀ w ∈ wsX20, w ∈ wsX2_forget)
  refine lv_aload_n hx hb dX2_forget_0 rfl (lv_at hl 0 rfl) ?_
  refine lv_iconst (v := nI 0) hx hb dX2_forget_1 (by decide) ?_
  refine j_put (7, h, 0) 1 (u2 I 21 h (nI 0), J, O) (ty := .int) hC hB in_X2 tyX2_ok nmX2 lk_16 dX2_forget_2 (jk7 (by omega)) rfl rfl (by decide) rfl (by decide +kernel) rfl rfl (Nat.le_of_ble_eq_true rfl) (fun z hz hne => jw_fr z hz (by rw [(rfl : jof 21 h = (7, h, 0))]; exact hne)) (by simp [jw, u2]) (fun H locs hB => ?_)
  have hB : jB G A s_.heap (sr I 21 (upd (I 21) h (nI 0)), J, O) H locs := by rw [show sr I 21 (upd (I 21) h (nI 0)) = u2 I 21 h (nI 0) from (u2_eq _ _ _ _).symm]; exact hB
  exact j_vret hC hB dX2_forget_5 (rfl)

set_option maxHeartbeats 4000000 in
set_option maxRecDepth 100000 in
theorem c_X2_loseOldest (l_ : Launch) (G : jG) (I : Nat → Nat → Int32) (J : Nat → Nat → Int64) (O : Nat → Nat → Nat) (hO : okO O) : jMv l_ G yX2_loseOldest wsX2_loseOldest ({ frames := 0, cells := 0, slots := 0, locals := 0 }) [.ref (G.2.2.1 (7, 0, 0))] (I, J, O) (fun u => u = (sr I 21 (upd (I 21) 0 (nI 7)), J, rotO O)) := by
  refine jMv_of (cc := cX2_loseOldest) (maxL := 3) (ret := none) (lv0 := [(0, .ref (G.2.2.1 (7, 0, 0)))]) (by decide) rfl (Nat.le_of_ble_eq_true rfl) rfl ?_
  intro pg_ ev_ s_ mi_ below meth cd_ A ls hC hB hl
  obtain ⟨hx, hb, hr, hml, hown, hts, hlocks, hK, hA⟩ := id hC
  have lk_11 := hts (.fieldLink RX2 11 "RiddlePrison$History" "earlier" "[LRiddlePrison$Prison;") (by decide +kernel)
  have lk_16 := hts (.fieldLink RX2 16 "RiddlePrison$History" "size" "I") (by decide +kernel)
  have in_X2 := (fun w h => List.mem_cons_of_mem _ (List.mem_append_right _ h) : ∀ w ∈ wsX20, w ∈ wsX2_loseOldest)
  refine lv_aload_n hx hb dX2_loseOldest_0 rfl (lv_at hl 0 rfl) ?_
  refine j_get (7, 0, 0) 0 (v := .ref (G.2.2.1 (8, 0, 0))) hC hB in_X2 lk_11 dX2_loseOldest_1 (jk7 (by omega)) rfl rfl (by decide) rfl ?_
  refine lv_iconst (v := nI 0) hx hb dX2_loseOldest_4 (by decide) ?_
  refine j_ald (8, 0, 0) (1, O 0 0, 0) 5 0 hC hB dX2_loseOldest_5 (jk8 (by omega)) rfl rfl rfl (by omega) (by decide) rfl ?_
  refine lv_astore_n (lv' := [(1, .ref (G.2.2.1 (1, O 0 0, 0))), (0, .ref (G.2.2.1 (7, 0, 0)))]) hx hb dX2_loseOldest_6 rfl hl (by decide) rfl (fun ls hl => ?_)
  refine lv_iconst (v := nI 1) hx hb dX2_loseOldest_7 (by decide) ?_
  refine lv_istore_n (lv' := [(2, .int (nI 1)), (1, .ref (G.2.2.1 (1, O 0 0, 0))), (0, .ref (G.2.2.1 (7, 0, 0)))]) hx hb dX2_loseOldest_8 rfl hl (by decide) rfl (fun ls hl => ?_)
  have lp_9 : ∀ (fu : Nat) (Ov : Nat → Nat → Nat) (j : Nat), 7 - j < fu → (j ≤ 7) → (Ov = rotN O j) → (∀ i, i < 8 → Ov 0 i < 19) → ∀ H locs ls, jB G A s_.heap (I, J, Ov) H locs → lv_has ls 3 [(2, .int (nI (j + 1))), (1, .ref (G.2.2.1 (1, O 0 0, 0))), (0, .ref (G.2.2.1 (7, 0, 0)))] → W pg_ l_ ev_ ({ frames := 0, cells := 0, slots := 0, locals := 0 }) s_ mi_ ([.ref (G.2.2.1 (7, 0, 0))]).toArray below meth cd_ H locs 0 0 (jQv G A below [.ref (G.2.2.1 (7, 0, 0))] s_ (fun u => u = (sr I 21 (upd (I 21) 0 (nI 7)), J, rotO O))) (F0 mi_ 9 ls []) := by
    intro fu
    induction fu with
    | zero => intro Ov j hf; exact absurd hf (Nat.not_lt_zero _)
    | succ fu ih_9 =>
      intro Ov j hf_9 hj hOv hx19 H locs ls hB hl
      refine lv_iload_n hx hb dX2_loseOldest_9 rfl (lv_at hl 0 rfl) ?_
      refine lv_bipush (v := nI 8) hx hb dX2_loseOldest_10 (by decide) ?_
      refine jn_icmp_ge (tgt := 35) hx hb dX2_loseOldest_12 (by decide) (by omega) (by omega) (fun c_12 => ?_) (fun c_12 => ?_)
      · refine lv_aload_n hx hb dX2_loseOldest_35 rfl (lv_at hl 2 rfl) ?_
        refine j_get (7, 0, 0) 0 (v := .ref (G.2.2.1 (8, 0, 0))) hC hB in_X2 lk_11 dX2_loseOldest_36 (jk7 (by omega)) rfl rfl (by decide) rfl ?_
        refine lv_bipush (v := nI 7) hx hb dX2_loseOldest_39 (by decide) ?_
        refine lv_aload_n hx hb dX2_loseOldest_41 rfl (lv_at hl 1 rfl) ?_
        refine j_ast 0 7 (O 0 0) hC hB dX2_loseOldest_42 (by omega) (okO_lt hO 0 (by decide)) rfl (by omega) (fun H locs hB => ?_)
        refine lv_aload_n hx hb dX2_loseOldest_43 rfl (lv_at hl 2 rfl) ?_
        refine lv_bipush (v := nI 7) hx hb dX2_loseOldest_44 (by decide) ?_
        refine j_put (7, 0, 0) 1 (u2 I 21 0 (nI 7), J, o2 Ov 0 7 (O 0 0)) (ty := .int) hC hB in_X2 tyX2_ok nmX2 lk_16 dX2_loseOldest_46 (jk7 (by omega)) rfl rfl (by decide) rfl (by decide +kernel) rfl rfl (Nat.le_of_ble_eq_true rfl) (fun z hz hne => jw_fr z hz (by rw [(rfl : jof 21 0 = (7, 0, 0))]; exact hne)) (by simp [jw, u2]) (fun H locs hB => ?_)
        have hB : jB G A s_.heap (sr I 21 (upd (I 21) 0 (nI 7)), J, o2 Ov 0 7 (O 0 0)) H locs := by rw [show sr I 21 (upd (I 21) 0 (nI 7)) = u2 I 21 0 (nI 7) from (u2_eq _ _ _ _).symm]; exact hB
        exact j_vret hC hB dX2_loseOldest_49 (by rw [hOv, show j = 7 by omega]; rfl)
      · refine lv_aload_n hx hb dX2_loseOldest_15 rfl (lv_at hl 2 rfl) ?_
        refine j_get (7, 0, 0) 0 (v := .ref (G.2.2.1 (8, 0, 0))) hC hB in_X2 lk_11 dX2_loseOldest_16 (jk7 (by omega)) rfl rfl (by decide) rfl ?_
        refine lv_iload_n hx hb dX2_loseOldest_19 rfl (lv_at hl 0 rfl) ?_
        refine lv_iconst (v := nI 1) hx hb dX2_loseOldest_20 (by decide) ?_
        refine jn_isub hx hb dX2_loseOldest_21 (by omega) ?_
        refine lv_aload_n hx hb dX2_loseOldest_22 rfl (lv_at hl 2 rfl) ?_
        refine j_get (7, 0, 0) 0 (v := .ref (G.2.2.1 (8, 0, 0))) hC hB in_X2 lk_11 dX2_loseOldest_23 (jk7 (by omega)) rfl rfl (by decide) rfl ?_
        refine lv_iload_n hx hb dX2_loseOldest_26 rfl (lv_at hl 0 rfl) ?_
        refine j_ald (8, 0, 0) (1, Ov 0 (j + 1), 0) 5 (j + 1) hC hB dX2_loseOldest_27 (jk8 (by omega)) rfl rfl rfl (by omega) (by decide) rfl ?_
        refine j_ast 0 (j + 1 - 1) (Ov 0 (j + 1)) hC hB dX2_loseOldest_28 (by omega) (hx19 (j + 1) (by omega)) rfl (by omega) (fun H locs hB => ?_)
        refine lv_iinc (v := nI (j + 1 + 1)) (lv' := [(2, .int (nI (j + 1 + 1))), (1, .ref (G.2.2.1 (1, O 0 0, 0))), (0, .ref (G.2.2.1 (7, 0, 0)))]) hx hb dX2_loseOldest_29 hl (k := 0) rfl (jn_inc _ 1) (by decide) rfl (fun ls hl => ?_)
        refine lv_goto (tgt := 9) hx hb dX2_loseOldest_32 (by decide) ?_
        exact ih_9 (o2 Ov 0 (j + 1 - 1) (Ov 0 (j + 1))) (j + 1) (by omega) (by omega) (by rw [hOv, show j + 1 - 1 = j by omega]; exact rotN_step _ _) (o2_lt hx19 (hx19 _ (by omega))) _ _ _ hB (lv_sub hl [0, 1, 2] rfl)
  exact lp_9 _ O 0 (Nat.lt_succ_self _) (by omega) ((rotN_0 _).symm) (okO_lt hO) _ _ _ hB (lv_sub hl [0, 1, 2] rfl)

set_option maxHeartbeats 4000000 in
set_option maxRecDepth 100000 in
theorem c_X2_remember (l_ : Launch) (G : jG) (I : Nat → Nat → Int32) (J : Nat → Nat → Int64) (O : Nat → Nat → Nat) {nd : Nat} (hnd : nd ≤ 10) (hD : I 0 0 = nI nd) {nm : Nat} (hnm : nm ≤ 4) (hM : I 0 1 = nI nm) {z : Nat} (hz : z ≤ 8) (hZ : I 21 0 = nI z) (hO : okO O) : jMv l_ G yX2_remember wsX2_remember ({ frames := 2, cells := 0, slots := 0, locals := 43 }) [.ref (G.2.2.1 (7, 0, 0)), .ref (G.2.2.1 (1, 0, 0))] (I, J, O) (fun u => u = (remI I O z nd nm, J, remO O z)) := by
  refine jMv_of (cc := cX2_remember) (maxL := 2) (ret := none) (lv0 := [(0, .ref (G.2.2.1 (7, 0, 0))), (1, .ref (G.2.2.1 (1, 0, 0)))]) (by decide) rfl (Nat.le_of_ble_eq_true rfl) rfl ?_
  intro pg_ ev_ s_ mi_ below meth cd_ A ls hC hB hl
  obtain ⟨hx, hb, hr, hml, hown, hts, hlocks, hK, hA⟩ := id hC
  have lk_16 := hts (.fieldLink RX2 16 "RiddlePrison$History" "size" "I") (by decide +kernel)
  have lk_11 := hts (.fieldLink RX2 11 "RiddlePrison$History" "earlier" "[LRiddlePrison$Prison;") (by decide +kernel)
  have in_X2 := (fun w h => List.mem_cons_of_mem _ (List.mem_append_left _ (List.mem_append_left _ (List.mem_append_left _ (List.mem_append_right _ h)))) : ∀ w ∈ wsX20, w ∈ wsX2_remember)
  refine lv_aload_n hx hb dX2_remember_0 rfl (lv_at hl 0 rfl) ?_
  refine j_get (7, 0, 0) 1 (v := .int (I 21 0)) hC hB in_X2 lk_16 dX2_remember_1 (jk7 (by omega)) rfl rfl (by decide) rfl ?_
  refine j_eqi (x := I 21 0) (y := nI z) (hZ) ?_
  refine lv_bipush (v := nI 8) hx hb dX2_remember_4 (by decide) ?_
  refine jn_icmp_lt (tgt := 13) hx hb dX2_remember_6 (by decide) (by omega) (by omega) (fun c_6 => ?_) (fun c_6 => ?_)
  · refine lv_aload_n hx hb dX2_remember_13 rfl (lv_at hl 0 rfl) ?_
    refine j_get (7, 0, 0) 0 (v := .ref (G.2.2.1 (8, 0, 0))) hC hB in_X2 lk_11 dX2_remember_14 (jk7 (by omega)) rfl rfl (by decide) rfl ?_
    refine lv_aload_n hx hb dX2_remember_17 rfl (lv_at hl 0 rfl) ?_
    refine j_get (7, 0, 0) 1 (v := .int (I 21 0)) hC hB in_X2 lk_16 dX2_remember_18 (jk7 (by omega)) rfl rfl (by decide) rfl ?_
    refine j_eqi (x := I 21 0) (y := nI z) (hZ) ?_
    obtain ⟨q, hqe⟩ : ∃ q, q = O 0 z := ⟨_, rfl⟩
    have hq := (hO 0 (by decide)).1 z (by omega)
    rw [← hqe] at hq
    refine j_ald (8, 0, 0) (1, q, 0) 5 z hC hB dX2_remember_21 (jk8 (by omega)) rfl rfl rfl (by omega) (by decide) (by rw [hqe]) ?_
    refine lv_aload_n hx hb dX2_remember_22 rfl (lv_at hl 1 rfl) ?_
    refine j_cvv (1, q, 0) [.ref (G.2.2.1 (1, 0, 0))] hC hB hl.1 (c_X4_become l_ G I J O q 0 (by omega) (by omega) (by omega) (by omega) (hD) (by omega) (hM)) (cwV 1 hts gX2_remember_X4_become rfl rfl rfl (by decide +kernel) ⟨by decide, by decide⟩) dX2_remember_23 (jk1 (by omega)) rfl rfl rfl rfl (Nat.le_of_ble_eq_true rfl) (fun u_23 H locs hp_23 hB => ?_)
    obtain rfl := hp_23
    have hB : jB G A s_.heap (sr I q (pcR (I q) (I 0) nd nm), J, O) H locs := hB
    refine lv_aload_n hx hb dX2_remember_26 rfl (lv_at hl 0 rfl) ?_
    refine lv_dup hx hb dX2_remember_27 rfl ?_
    refine j_get (7, 0, 0) 1 (v := .int ((sr I q (pcR (I q) (I 0) nd nm)) 21 0)) hC hB in_X2 lk_16 dX2_remember_28 (jk7 (by omega)) rfl rfl (by decide) rfl ?_
    refine j_eqi (x := (sr I q (pcR (I q) (I 0) nd nm)) 21 0) (y := nI z) ((congrFun (sr_ne (show (21 : Nat) ≠ q by omega)) _).trans (hZ)) ?_
    refine lv_iconst (v := nI 1) hx hb dX2_remember_31 (by decide) ?_
    refine jn_iadd hx hb dX2_remember_32 ?_
    refine j_put (7, 0, 0) 1 (u2 (sr I q (pcR (I q) (I 0) nd nm)) 21 0 (nI (z + 1)), J, O) (ty := .int) hC hB in_X2 tyX2_ok nmX2 lk_16 dX2_remember_33 (jk7 (by omega)) rfl rfl (by decide) rfl (by decide +kernel) rfl rfl (Nat.le_of_ble_eq_true rfl) (fun z hz hne => jw_fr z hz (by rw [(rfl : jof 21 0 = (7, 0, 0))]; exact hne)) (by simp [jw, u2]) (fun H locs hB => ?_)
    have hB : jB G A s_.heap (sr (sr I q (pcR (I q) (I 0) nd nm)) 21 (upd (I 21) 0 (nI (z + 1))), J, O) H locs := by rw [show sr (sr I q (pcR (I q) (I 0) nd nm)) 21 (upd (I 21) 0 (nI (z + 1))) = u2 (sr I q (pcR (I q) (I 0) nd nm)) 21 0 (nI (z + 1)) from (u2_sr1 (show (21 : Nat) ≠ q by omega)).symm]; exact hB
    exact j_vret hC hB dX2_remember_36 (by subst hqe; simp [remI, remO, remZ, show ¬ z = 8 by omega])
  · refine lv_aload_n hx hb dX2_remember_9 rfl (lv_at hl 0 rfl) ?_
    refine j_cvv (7, 0, 0) [] hC hB hl.1 (c_X2_loseOldest l_ G I J O  (hO)) (cwV 0 hts gX2_remember_X2_loseOldest rfl rfl rfl (by decide +kernel) ⟨by decide, by decide⟩) dX2_remember_10 (jk7 (by omega)) rfl rfl rfl rfl (Nat.le_of_ble_eq_true rfl) (fun u_10 H locs hp_10 hB => ?_)
    obtain rfl := hp_10
    have hB : jB G A s_.heap (sr I 21 (upd (I 21) 0 (nI 7)), J, rotO O) H locs := hB
    refine lv_aload_n hx hb dX2_remember_13 rfl (lv_at hl 0 rfl) ?_
    refine j_get (7, 0, 0) 0 (v := .ref (G.2.2.1 (8, 0, 0))) hC hB in_X2 lk_11 dX2_remember_14 (jk7 (by omega)) rfl rfl (by decide) rfl ?_
    refine lv_aload_n hx hb dX2_remember_17 rfl (lv_at hl 0 rfl) ?_
    refine j_get (7, 0, 0) 1 (v := .int ((sr I 21 (upd (I 21) 0 (nI 7))) 21 0)) hC hB in_X2 lk_16 dX2_remember_18 (jk7 (by omega)) rfl rfl (by decide) rfl ?_
    refine j_eqi (x := (sr I 21 (upd (I 21) 0 (nI 7))) 21 0) (y := nI 7) ((congrFun sr_self _).trans (pk_us)) ?_
    obtain ⟨q, hqe⟩ : ∃ q, q = rotO O 0 7 := ⟨_, rfl⟩
    have hq := (rotO_ok hO 0 (by decide)).1 7 (by omega)
    rw [← hqe] at hq
    refine j_ald (8, 0, 0) (1, q, 0) 5 7 hC hB dX2_remember_21 (jk8 (by omega)) rfl rfl rfl (by omega) (by decide) (by rw [hqe]) ?_
    refine lv_aload_n hx hb dX2_remember_22 rfl (lv_at hl 1 rfl) ?_
    refine j_cvv (1, q, 0) [.ref (G.2.2.1 (1, 0, 0))] hC hB hl.1 (c_X4_become l_ G (sr I 21 (upd (I 21) 0 (nI 7))) J (rotO O) q 0 (by omega) (by omega) (by omega) (by omega) ((congrFun (sr_ne (show (0 : Nat) ≠ 21 by omega)) _).trans (hD)) (by omega) ((congrFun (sr_ne (show (0 : Nat) ≠ 21 by omega)) _).trans (hM))) (cwV 1 hts gX2_remember_X4_become rfl rfl rfl (by decide +kernel) ⟨by decide, by decide⟩) dX2_remember_23 (jk1 (by omega)) rfl rfl rfl rfl (Nat.le_of_ble_eq_true rfl) (fun u_23 H locs hp_23 hB => ?_)
    obtain rfl := hp_23
    try simp only [show (sr I 21 (upd (I 21) 0 (nI 7))) q = I q from (sr_ne (show (q : Nat) ≠ 21 by omega))] at hB
    have hB : jB G A s_.heap (sr (sr I 21 (upd (I 21) 0 (nI 7))) q (pcR (I q) (I 0) nd nm), J, rotO O) H locs := hB
    refine lv_aload_n hx hb dX2_remember_26 rfl (lv_at hl 0 rfl) ?_
    refine lv_dup hx hb dX2_remember_27 rfl ?_
    refine j_get (7, 0, 0) 1 (v := .int ((sr (sr I 21 (upd (I 21) 0 (nI 7))) q (pcR (I q) (I 0) nd nm)) 21 0)) hC hB in_X2 lk_16 dX2_remember_28 (jk7 (by omega)) rfl rfl (by decide) rfl ?_
    refine j_eqi (x := (sr (sr I 21 (upd (I 21) 0 (nI 7))) q (pcR (I q) (I 0) nd nm)) 21 0) (y := nI 7) ((congrFun (sr_ne (show (21 : Nat) ≠ q by omega)) _).trans ((congrFun sr_self _).trans (pk_us))) ?_
    refine lv_iconst (v := nI 1) hx hb dX2_remember_31 (by decide) ?_
    refine jn_iadd hx hb dX2_remember_32 ?_
    refine j_eqi (y := nI 8) rfl ?_
    refine j_put (7, 0, 0) 1 (u2 (sr (sr I 21 (upd (I 21) 0 (nI 7))) q (pcR (I q) (I 0) nd nm)) 21 0 (nI 8), J, rotO O) (ty := .int) hC hB in_X2 tyX2_ok nmX2 lk_16 dX2_remember_33 (jk7 (by omega)) rfl rfl (by decide) rfl (by decide +kernel) rfl rfl (Nat.le_of_ble_eq_true rfl) (fun z hz hne => jw_fr z hz (by rw [(rfl : jof 21 0 = (7, 0, 0))]; exact hne)) (by simp [jw, u2]) (fun H locs hB => ?_)
    have hB : jB G A s_.heap (sr (sr I q (pcR (I q) (I 0) nd nm)) 21 (upd (upd (I 21) 0 (nI 7)) 0 (nI 8)), J, rotO O) H locs := by rw [show sr (sr I q (pcR (I q) (I 0) nd nm)) 21 (upd (upd (I 21) 0 (nI 7)) 0 (nI 8)) = u2 (sr (sr I 21 (upd (I 21) 0 (nI 7))) q (pcR (I q) (I 0) nd nm)) 21 0 (nI 8) from (u2_sr2 (show (21 : Nat) ≠ q by omega)).symm]; exact hB
    exact j_vret hC hB dX2_remember_36 (by subst hqe; simp [remI, remO, remZ, show z = 8 by omega, upd_upd])
