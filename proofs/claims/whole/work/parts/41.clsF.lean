set_option maxHeartbeats 4000000 in
set_option maxRecDepth 100000 in
theorem c_X2_takeBack (l_ : Launch) (G : jG) (I : Nat → Nat → Int32) (J : Nat → Nat → Int64) (O : Nat → Nat → Nat) {nd : Nat} (hnd : nd ≤ 10) {nm : Nat} (hnm : nm ≤ 4) {z : Nat} (hz : z ≤ 8) (hZ : I 21 0 = nI z) (hO : okO O) (hct : ctO I O 0 z nd nm) : jMi l_ G yX2_takeBack wsX2_takeBack ({ frames := 2, cells := 0, slots := 0, locals := 43 }) [.ref (G.2.2.1 (7, 0, 0)), .ref (G.2.2.1 (1, 0, 0))] (I, J, O) (fun r u => r = b2 (decide (0 < z)) ∧ u = (takI I O z nd nm, J, O)) := by
  refine jMi_of (cc := cX2_takeBack) (maxL := 2) (ret := (some .boolean)) (lv0 := [(0, .ref (G.2.2.1 (7, 0, 0))), (1, .ref (G.2.2.1 (1, 0, 0)))]) (by decide) rfl (Nat.le_of_ble_eq_true rfl) rfl ?_
  intro pg_ ev_ s_ mi_ below meth cd_ A ls hC hB hl
  obtain ⟨hx, hb, hr, hml, hown, hts, hlocks, hK, hA⟩ := id hC
  have lk_16 := hts (.fieldLink RX2 16 "RiddlePrison$History" "size" "I") (by decide +kernel)
  have lk_11 := hts (.fieldLink RX2 11 "RiddlePrison$History" "earlier" "[LRiddlePrison$Prison;") (by decide +kernel)
  have in_X2 := (fun w h => List.mem_cons_of_mem _ (List.mem_append_left _ (List.mem_append_left _ (List.mem_append_left _ (List.mem_append_right _ h)))) : ∀ w ∈ wsX20, w ∈ wsX2_takeBack)
  refine lv_aload_n hx hb dX2_takeBack_0 rfl (lv_at hl 0 rfl) ?_
  refine j_get (7, 0, 0) 1 (v := .int (I 21 0)) hC hB in_X2 lk_16 dX2_takeBack_1 (jk7 (by omega)) rfl rfl (by decide) rfl ?_
  refine j_eqi (x := I 21 0) (y := nI z) (hZ) ?_
  refine jn_if_gt (tgt := 9) hx hb dX2_takeBack_4 (by decide) (by omega) (fun c_4 => ?_) (fun c_4 => ?_)
  · refine lv_aload_n hx hb dX2_takeBack_9 rfl (lv_at hl 0 rfl) ?_
    refine lv_dup hx hb dX2_takeBack_10 rfl ?_
    refine j_get (7, 0, 0) 1 (v := .int (I 21 0)) hC hB in_X2 lk_16 dX2_takeBack_11 (jk7 (by omega)) rfl rfl (by decide) rfl ?_
    refine j_eqi (x := I 21 0) (y := nI z) (hZ) ?_
    refine lv_iconst (v := nI 1) hx hb dX2_takeBack_14 (by decide) ?_
    refine jn_isub hx hb dX2_takeBack_15 (by omega) ?_
    refine j_put (7, 0, 0) 1 (u2 I 21 0 (nI (z - 1)), J, O) (ty := .int) hC hB in_X2 tyX2_ok nmX2 lk_16 dX2_takeBack_16 (jk7 (by omega)) rfl rfl (by decide) rfl (by decide +kernel) rfl rfl (Nat.le_of_ble_eq_true rfl) (fun z hz hne => jw_fr z hz (by rw [(rfl : jof 21 0 = (7, 0, 0))]; exact hne)) (by simp [jw, u2]) (fun H locs hB => ?_)
    have hB : jB G A s_.heap (sr I 21 (upd (I 21) 0 (nI (z - 1))), J, O) H locs := by rw [show sr I 21 (upd (I 21) 0 (nI (z - 1))) = u2 I 21 0 (nI (z - 1)) from (u2_eq _ _ _ _).symm]; exact hB
    refine lv_aload_n hx hb dX2_takeBack_19 rfl (lv_at hl 1 rfl) ?_
    refine lv_aload_n hx hb dX2_takeBack_20 rfl (lv_at hl 0 rfl) ?_
    refine j_get (7, 0, 0) 0 (v := .ref (G.2.2.1 (8, 0, 0))) hC hB in_X2 lk_11 dX2_takeBack_21 (jk7 (by omega)) rfl rfl (by decide) rfl ?_
    refine lv_aload_n hx hb dX2_takeBack_24 rfl (lv_at hl 0 rfl) ?_
    refine j_get (7, 0, 0) 1 (v := .int ((sr I 21 (upd (I 21) 0 (nI (z - 1)))) 21 0)) hC hB in_X2 lk_16 dX2_takeBack_25 (jk7 (by omega)) rfl rfl (by decide) rfl ?_
    refine j_eqi (x := (sr I 21 (upd (I 21) 0 (nI (z - 1)))) 21 0) (y := nI (z - 1)) ((congrFun sr_self _).trans (pk_us)) ?_
    obtain ⟨q, hqe⟩ : ∃ q, q = O 0 (z - 1) := ⟨_, rfl⟩
    have hq := (hO 0 (by decide)).1 (z - 1) (by omega)
    have hk0 := hct (z - 1) (by omega)
    rw [← hqe] at hq hk0
    refine j_ald (8, 0, 0) (1, q, 0) 5 (z - 1) hC hB dX2_takeBack_28 (jk8 (by omega)) rfl rfl rfl (by omega) (by decide) (by rw [hqe]) ?_
    refine j_cvv (1, 0, 0) [.ref (G.2.2.1 (1, q, 0))] hC hB hl.1 (c_X4_become l_ G (sr I 21 (upd (I 21) 0 (nI (z - 1)))) J O 0 q (by omega) (by omega) (by omega) (by omega) ((congrFun (sr_ne (show (q : Nat) ≠ 21 by omega)) _).trans (hk0.1)) (by omega) ((congrFun (sr_ne (show (q : Nat) ≠ 21 by omega)) _).trans (hk0.2))) (cwV 1 hts gX2_takeBack_X4_become rfl rfl rfl (by decide +kernel) ⟨by decide, by decide⟩) dX2_takeBack_29 (jk1 (by omega)) rfl rfl rfl rfl (Nat.le_of_ble_eq_true rfl) (fun u_29 H locs hp_29 hB => ?_)
    obtain rfl := hp_29
    try simp only [show (sr I 21 (upd (I 21) 0 (nI (z - 1)))) q = I q from (sr_ne (show (q : Nat) ≠ 21 by omega))] at hB
    have hB : jB G A s_.heap (sr (sr I 21 (upd (I 21) 0 (nI (z - 1)))) 0 (pcR (I 0) (I q) nd nm), J, O) H locs := hB
    refine lv_iconst (v := nI 1) hx hb dX2_takeBack_32 (by decide) ?_
    exact j_zret hC hB dX2_takeBack_33 (by decide) (⟨by simp [b2, show 0 < z by omega], by subst hqe; simp [takI, show 0 < z by omega]⟩)
  · refine lv_iconst (v := nI 0) hx hb dX2_takeBack_7 (by decide) ?_
    exact j_zret hC hB dX2_takeBack_8 (by decide) (⟨by simp [b2, show ¬ 0 < z by omega], by simp [takI, show ¬ 0 < z by omega]⟩)

set_option maxHeartbeats 4000000 in
set_option maxRecDepth 100000 in
theorem c_X7_undo (l_ : Launch) (G : jG) (I : Nat → Nat → Int32) (J : Nat → Nat → Int64) (O : Nat → Nat → Nat) {nd : Nat} (hnd : nd ≤ 10) {nm : Nat} (hnm : nm ≤ 4) {z : Nat} (hz : z ≤ 8) (hZ : I 21 0 = nI z) (hO : okO O) (hct : ctO I O 0 z nd nm) : jMi l_ G yX7_undo wsX7_undo ({ frames := 3, cells := 0, slots := 0, locals := 64 }) [.ref (G.2.2.1 (0, 0, 0))] (I, J, O) (fun r u => r = (if 0 < z then nI (z - 1) else -4) ∧ u = (takI I O z nd nm, J, O)) := by
  refine jMi_of (cc := cX7_undo) (maxL := 1) (ret := (some .int)) (lv0 := [(0, .ref (G.2.2.1 (0, 0, 0)))]) (by decide) rfl (Nat.le_of_ble_eq_true rfl) rfl ?_
  intro pg_ ev_ s_ mi_ below meth cd_ A ls hC hB hl
  obtain ⟨hx, hb, hr, hml, hown, hts, hlocks, hK, hA⟩ := id hC
  have lk_19 := hts (.fieldLink RX7 19 "RiddlePrison" "history" "LRiddlePrison$History;") (by decide +kernel)
  have lk_10 := hts (.fieldLink RX7 10 "RiddlePrison" "now" "LRiddlePrison$Prison;") (by decide +kernel)
  have ln_181 := (by decide +kernel : Cond.fieldLinkNest RX7 181 "RiddlePrison$History" "size" "I" "RiddlePrison" ∈ nsW)
  have in_X7 := (fun w h => List.mem_cons_of_mem _ (List.mem_append_left _ (List.mem_append_left _ (List.mem_append_left _ (List.mem_append_left _ (List.mem_append_right _ h))))) : ∀ w ∈ wsX70, w ∈ wsX7_undo)
  have in_X2 := (fun w h => List.mem_cons_of_mem _ (List.mem_append_left _ (List.mem_append_left _ (List.mem_append_left _ (List.mem_append_right _ h)))) : ∀ w ∈ wsX20, w ∈ wsX7_undo)
  refine lv_aload_n hx hb dX7_undo_0 rfl (lv_at hl 0 rfl) ?_
  refine j_get (0, 0, 0) 1 (v := .ref (G.2.2.1 (7, 0, 0))) hC hB in_X7 lk_19 dX7_undo_1 jk0 rfl rfl (by decide) rfl ?_
  refine lv_aload_n hx hb dX7_undo_4 rfl (lv_at hl 0 rfl) ?_
  refine j_get (0, 0, 0) 0 (v := .ref (G.2.2.1 (1, 0, 0))) hC hB in_X7 lk_10 dX7_undo_5 jk0 rfl rfl (by decide) rfl ?_
  refine j_cvi (7, 0, 0) [.ref (G.2.2.1 (1, 0, 0))] hC hB hl.1 (c_X2_takeBack l_ G I J O hnd hnm (by omega) (hZ) hO hct) (cwV 1 hts gX7_undo_X2_takeBack rfl rfl rfl (by decide +kernel) ⟨by decide, by decide⟩) dX7_undo_8 (jk7 (by omega)) rfl rfl rfl rfl (Nat.le_of_ble_eq_true rfl) (fun r_8 u_8 H locs hp_8 hB => ?_)
  obtain ⟨rfl, rfl⟩ := hp_8
  have hB : jB G A s_.heap (takI I O z nd nm, J, O) H locs := hB
  refine jb_if_eq (tgt := 24) hx hb dX7_undo_11 (by decide) (fun c_11 => ?_) (fun c_11 => ?_)
  · refine lv_bipush (v := (-4 : Int32)) hx hb dX7_undo_24 (by decide) ?_
    exact j_iret hC hB dX7_undo_26 (⟨by have := c_11; simp at this; simp [this], rfl⟩)
  · refine lv_aload_n hx hb dX7_undo_14 rfl (lv_at hl 0 rfl) ?_
    refine j_get (0, 0, 0) 1 (v := .ref (G.2.2.1 (7, 0, 0))) hC hB in_X7 lk_19 dX7_undo_15 jk0 rfl rfl (by decide) rfl ?_
    refine j_getN (7, 0, 0) 1 (v := .int ((takI I O z nd nm) 21 0)) hC hB in_X2 ln_181 dX7_undo_18 (jk7 (by omega)) rfl rfl (by decide) rfl ?_
    refine j_eqi (x := (takI I O z nd nm) 21 0) (y := nI (z - 1)) (takI_21 (of_decide_eq_true c_11)) ?_
    refine lv_goto (tgt := 26) hx hb dX7_undo_21 (by decide) ?_
    exact j_iret hC hB dX7_undo_26 (⟨by have := c_11; simp at this; simp [this], rfl⟩)

set_option maxHeartbeats 4000000 in
set_option maxRecDepth 100000 in
theorem c_X2_become (l_ : Launch) (G : jG) (I : Nat → Nat → Int32) (J : Nat → Nat → Int64) (O : Nat → Nat → Nat) (h k : Nat) (hh : h < 2) (hk : k < 2) (hhk : h ≠ k) {nd : Nat} (hnd : nd ≤ 10) {nm : Nat} (hnm : nm ≤ 4) {z : Nat} (hz : z ≤ 8) (hZ : I 21 k = nI z) (hO : okO O) (hct : ctO I O k z nd nm) : jMv l_ G yX2_become wsX2_become ({ frames := 2, cells := 0, slots := 0, locals := 43 }) [.ref (G.2.2.1 (7, h, 0)), .ref (G.2.2.1 (7, k, 0))] (I, J, O) (fun u => u = (hbI I O h k z nd nm, J, O)) := by
  refine jMv_of (cc := cX2_become) (maxL := 3) (ret := none) (lv0 := [(0, .ref (G.2.2.1 (7, h, 0))), (1, .ref (G.2.2.1 (7, k, 0)))]) (by decide) rfl (Nat.le_of_ble_eq_true rfl) rfl ?_
  intro pg_ ev_ s_ mi_ below meth cd_ A ls hC hB hl
  obtain ⟨hx, hb, hr, hml, hown, hts, hlocks, hK, hA⟩ := id hC
  have lk_16 := hts (.fieldLink RX2 16 "RiddlePrison$History" "size" "I") (by decide +kernel)
  have lk_11 := hts (.fieldLink RX2 11 "RiddlePrison$History" "earlier" "[LRiddlePrison$Prison;") (by decide +kernel)
  have in_X2 := (fun w h => List.mem_cons_of_mem _ (List.mem_append_left _ (List.mem_append_left _ (List.mem_append_left _ (List.mem_append_right _ h)))) : ∀ w ∈ wsX20, w ∈ wsX2_become)
  refine lv_aload_n hx hb dX2_become_0 rfl (lv_at hl 0 rfl) ?_
  refine lv_aload_n hx hb dX2_become_1 rfl (lv_at hl 1 rfl) ?_
  refine j_get (7, k, 0) 1 (v := .int (I 21 k)) hC hB in_X2 lk_16 dX2_become_2 (jk7 (by omega)) rfl rfl (by decide) rfl ?_
  refine j_eqi (x := I 21 k) (y := nI z) (hZ) ?_
  refine j_put (7, h, 0) 1 (u2 I 21 h (nI z), J, O) (ty := .int) hC hB in_X2 tyX2_ok nmX2 lk_16 dX2_become_5 (jk7 (by omega)) rfl rfl (by decide) rfl (by decide +kernel) rfl rfl (Nat.le_of_ble_eq_true rfl) (fun z hz hne => jw_fr z hz (by rw [(rfl : jof 21 h = (7, h, 0))]; exact hne)) (by simp [jw, u2]) (fun H locs hB => ?_)
  have hB : jB G A s_.heap (sr I 21 (upd (I 21) h (nI z)), J, O) H locs := by rw [show sr I 21 (upd (I 21) h (nI z)) = u2 I 21 h (nI z) from (u2_eq _ _ _ _).symm]; exact hB
  refine lv_iconst (v := nI 0) hx hb dX2_become_8 (by decide) ?_
  refine lv_istore_n (lv' := [(2, .int (nI 0)), (0, .ref (G.2.2.1 (7, h, 0))), (1, .ref (G.2.2.1 (7, k, 0)))]) hx hb dX2_become_9 rfl hl (by decide) rfl (fun ls hl => ?_)
  have lp_10 : ∀ (fu : Nat) (Iv : Nat → Nat → Int32) (j : Nat), z - j < fu → (j ≤ z) → (Iv = it (hbF O h k nd nm) j (sr I 21 (upd (I 21) h (nI z)))) → (Iv 21 h = nI z) → (∀ i, i < 8 → Iv (O k i) = I (O k i)) → ∀ H locs ls, jB G A s_.heap (Iv, J, O) H locs → lv_has ls 3 [(2, .int (nI j)), (0, .ref (G.2.2.1 (7, h, 0))), (1, .ref (G.2.2.1 (7, k, 0)))] → W pg_ l_ ev_ ({ frames := 2, cells := 0, slots := 0, locals := 43 }) s_ mi_ ([.ref (G.2.2.1 (7, h, 0)), .ref (G.2.2.1 (7, k, 0))]).toArray below meth cd_ H locs 0 0 (jQv G A below [.ref (G.2.2.1 (7, h, 0)), .ref (G.2.2.1 (7, k, 0))] s_ (fun u => u = (hbI I O h k z nd nm, J, O))) (F0 mi_ 10 ls []) := by
    intro fu
    induction fu with
    | zero => intro Iv j hf; exact absurd hf (Nat.not_lt_zero _)
    | succ fu ih_10 =>
      intro Iv j hf_10 hj he hsz hkeep H locs ls hB hl
      refine lv_iload_n hx hb dX2_become_10 rfl (lv_at hl 0 rfl) ?_
      refine lv_aload_n hx hb dX2_become_11 rfl (lv_at hl 1 rfl) ?_
      refine j_get (7, h, 0) 1 (v := .int (Iv 21 h)) hC hB in_X2 lk_16 dX2_become_12 (jk7 (by omega)) rfl rfl (by decide) rfl ?_
      refine j_eqi (x := Iv 21 h) (y := nI z) (hsz) ?_
      refine jn_icmp_ge (tgt := 39) hx hb dX2_become_15 (by decide) (by omega) (by omega) (fun c_15 => ?_) (fun c_15 => ?_)
      · exact j_vret hC hB dX2_become_39 (by rw [he, show j = z by omega]; rfl)
      · refine lv_aload_n hx hb dX2_become_18 rfl (lv_at hl 1 rfl) ?_
        refine j_get (7, h, 0) 0 (v := .ref (G.2.2.1 (8, h, 0))) hC hB in_X2 lk_11 dX2_become_19 (jk7 (by omega)) rfl rfl (by decide) rfl ?_
        refine lv_iload_n hx hb dX2_become_22 rfl (lv_at hl 0 rfl) ?_
        obtain ⟨q, hqe⟩ : ∃ q, q = O h j := ⟨_, rfl⟩
        have hq := (hO h hh).1 j (by omega)
        rw [← hqe] at hq
        refine j_ald (8, h, 0) (1, q, 0) 5 j hC hB dX2_become_23 (jk8 (by omega)) rfl rfl rfl (by omega) (by decide) (by rw [hqe]) ?_
        refine lv_aload_n hx hb dX2_become_24 rfl (lv_at hl 2 rfl) ?_
        refine j_get (7, k, 0) 0 (v := .ref (G.2.2.1 (8, k, 0))) hC hB in_X2 lk_11 dX2_become_25 (jk7 (by omega)) rfl rfl (by decide) rfl ?_
        refine lv_iload_n hx hb dX2_become_28 rfl (lv_at hl 0 rfl) ?_
        obtain ⟨q2, hqe2⟩ : ∃ q, q = O k j := ⟨_, rfl⟩
        have hq2 := (hO k hk).1 j (by omega)
        have hk0 := hct j (by omega)
        have hkp := hkeep j (by omega)
        rw [← hqe2] at hq2 hk0 hkp
        rw [← hkp] at hk0
        refine j_ald (8, k, 0) (1, q2, 0) 5 j hC hB dX2_become_29 (jk8 (by omega)) rfl rfl rfl (by omega) (by decide) (by rw [hqe2]) ?_
        refine j_cvv (1, q, 0) [.ref (G.2.2.1 (1, q2, 0))] hC hB hl.1 (c_X4_become l_ G Iv J O q q2 (by omega) (by omega) (by omega) (by omega) (hk0.1) (by omega) (hk0.2)) (cwV 1 hts gX2_become_X4_become rfl rfl rfl (by decide +kernel) ⟨by decide, by decide⟩) dX2_become_30 (jk1 (by omega)) rfl rfl rfl rfl (Nat.le_of_ble_eq_true rfl) (fun u_30 H locs hp_30 hB => ?_)
        obtain rfl := hp_30
        have hB : jB G A s_.heap (sr Iv q (pcR (Iv q) (Iv q2) nd nm), J, O) H locs := hB
        refine lv_iinc (v := nI (j + 1)) (lv' := [(2, .int (nI (j + 1))), (0, .ref (G.2.2.1 (7, h, 0))), (1, .ref (G.2.2.1 (7, k, 0)))]) hx hb dX2_become_33 hl (k := 0) rfl (jn_inc _ 1) (by decide) rfl (fun ls hl => ?_)
        refine lv_goto (tgt := 10) hx hb dX2_become_36 (by decide) ?_
        exact ih_10 (sr Iv q (pcR (Iv q) (Iv q2) nd nm)) (j + 1) (by omega) (by omega) (by subst hqe hqe2; rw [he]; rfl) (by rw [sr_ne (by omega)]; exact hsz) (fun i hi => by rw [sr_ne (by have := (hO k hk).1 i hi; omega)]; exact hkeep i hi) _ _ _ hB (lv_sub hl [0, 1, 2] rfl)
  exact lp_10 _ (sr I 21 (upd (I 21) h (nI z))) 0 (Nat.lt_succ_self _) (by omega) (rfl) (by rw [sr_self, pk_us]) (fun i hi => sr_ne (by have := (hO k hk).1 i hi; omega)) _ _ _ hB (lv_sub hl [0, 1, 2] rfl)
