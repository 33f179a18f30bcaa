set_option maxHeartbeats 4000000 in
set_option maxRecDepth 100000 in
theorem c_X7_image (l_ : Launch) (G : jG) (I : Nat → Nat → Int32) (J : Nat → Nat → Int64) (O : Nat → Nat → Nat) {nd : Nat} (hnd : nd ≤ 10) (hD : I 0 0 = nI nd) {nm : Nat} (hnm : nm ≤ 4) (hM : I 0 1 = nI nm) {z : Nat} (hz : z ≤ 8) (hZ : I 21 0 = nI z) (hO : okO O) (hct : ctO I O 0 z nd nm) : jMi l_ G yX7_image wsX7_image ({ frames := 3, cells := 0, slots := 0, locals := 65 }) [.ref (G.2.2.1 (0, 0, 0))] (I, J, O) (fun r u => r = nI 1 ∧ u = (imgI I O z nd nm, J, O)) := by
  refine jMi_of (cc := cX7_image) (maxL := 1) (ret := (some .int)) (lv0 := [(0, .ref (G.2.2.1 (0, 0, 0)))]) (by decide) rfl (Nat.le_of_ble_eq_true rfl) rfl ?_
  intro pg_ ev_ s_ mi_ below meth cd_ A ls hC hB hl
  obtain ⟨hx, hb, hr, hml, hown, hts, hlocks, hK, hA⟩ := id hC
  have lk_23 := hts (.fieldLink RX7 23 "RiddlePrison" "imaged" "LRiddlePrison$Prison;") (by decide +kernel)
  have lk_10 := hts (.fieldLink RX7 10 "RiddlePrison" "now" "LRiddlePrison$Prison;") (by decide +kernel)
  have lk_26 := hts (.fieldLink RX7 26 "RiddlePrison" "imagedHistory" "LRiddlePrison$History;") (by decide +kernel)
  have lk_19 := hts (.fieldLink RX7 19 "RiddlePrison" "history" "LRiddlePrison$History;") (by decide +kernel)
  have lk_268 := hts (.fieldLink RX7 268 "RiddlePrison" "hasImage" "Z") (by decide +kernel)
  have in_X7 := (fun w h => List.mem_cons_of_mem _ (List.mem_append_left _ (List.mem_append_left _ (List.mem_append_left _ (List.mem_append_left _ (List.mem_append_right _ h))))) : ∀ w ∈ wsX70, w ∈ wsX7_image)
  refine lv_aload_n hx hb dX7_image_0 rfl (lv_at hl 0 rfl) ?_
  refine j_get (0, 0, 0) 2 (v := .ref (G.2.2.1 (1, 1, 0))) hC hB in_X7 lk_23 dX7_image_1 jk0 rfl rfl (by decide) rfl ?_
  refine lv_aload_n hx hb dX7_image_4 rfl (lv_at hl 0 rfl) ?_
  refine j_get (0, 0, 0) 0 (v := .ref (G.2.2.1 (1, 0, 0))) hC hB in_X7 lk_10 dX7_image_5 jk0 rfl rfl (by decide) rfl ?_
  refine j_cvv (1, 1, 0) [.ref (G.2.2.1 (1, 0, 0))] hC hB hl.1 (c_X4_become l_ G I J O 1 0 (by omega) (by omega) (by omega) (by omega) (hD) (by omega) (hM)) (cwV 1 hts gX7_image_X4_become rfl rfl rfl (by decide +kernel) ⟨by decide, by decide⟩) dX7_image_8 (jk1 (by omega)) rfl rfl rfl rfl (Nat.le_of_ble_eq_true rfl) (fun u_8 H locs hp_8 hB => ?_)
  obtain rfl := hp_8
  have hB : jB G A s_.heap (sr I 1 (pcR (I 1) (I 0) nd nm), J, O) H locs := hB
  refine lv_aload_n hx hb dX7_image_11 rfl (lv_at hl 0 rfl) ?_
  refine j_get (0, 0, 0) 3 (v := .ref (G.2.2.1 (7, 1, 0))) hC hB in_X7 lk_26 dX7_image_12 jk0 rfl rfl (by decide) rfl ?_
  refine lv_aload_n hx hb dX7_image_15 rfl (lv_at hl 0 rfl) ?_
  refine j_get (0, 0, 0) 1 (v := .ref (G.2.2.1 (7, 0, 0))) hC hB in_X7 lk_19 dX7_image_16 jk0 rfl rfl (by decide) rfl ?_
  refine j_cvv (7, 1, 0) [.ref (G.2.2.1 (7, 0, 0))] hC hB hl.1 (c_X2_become l_ G (sr I 1 (pcR (I 1) (I 0) nd nm)) J O 1 0 (by decide) (by decide) (by decide) (by omega) (by omega) (by omega) ((congrFun (sr_ne (show (21 : Nat) ≠ 1 by omega)) _).trans (hZ)) hO (ctO_sr hct hO (by decide) hz (by decide))) (cwV 1 hts gX7_image_X2_become rfl rfl rfl (by decide +kernel) ⟨by decide, by decide⟩) dX7_image_19 (jk7 (by omega)) rfl rfl rfl rfl (Nat.le_of_ble_eq_true rfl) (fun u_19 H locs hp_19 hB => ?_)
  obtain rfl := hp_19
  have hB : jB G A s_.heap (hbI (sr I 1 (pcR (I 1) (I 0) nd nm)) O 1 0 z nd nm, J, O) H locs := hB
  refine lv_aload_n hx hb dX7_image_22 rfl (lv_at hl 0 rfl) ?_
  refine lv_iconst (v := nI 1) hx hb dX7_image_23 (by decide) ?_
  refine j_put (0, 0, 0) 4 (u2 (hbI (sr I 1 (pcR (I 1) (I 0) nd nm)) O 1 0 z nd nm) 24 0 (nI 1), J, O) (ty := .boolean) hC hB in_X7 tyX7_ok nmX7 lk_268 dX7_image_24 jk0 rfl rfl (by decide) rfl (by decide +kernel) rfl rfl (Nat.le_of_ble_eq_true rfl) (fun z hz hne => jw_fr z hz hne) (rfl) (fun H locs hB => ?_)
  have hB : jB G A s_.heap (sr (hbI (sr I 1 (pcR (I 1) (I 0) nd nm)) O 1 0 z nd nm) 24 (upd ((hbI (sr I 1 (pcR (I 1) (I 0) nd nm)) O 1 0 z nd nm) 24) 0 (nI 1)), J, O) H locs := by rw [show sr (hbI (sr I 1 (pcR (I 1) (I 0) nd nm)) O 1 0 z nd nm) 24 (upd ((hbI (sr I 1 (pcR (I 1) (I 0) nd nm)) O 1 0 z nd nm) 24) 0 (nI 1)) = u2 (hbI (sr I 1 (pcR (I 1) (I 0) nd nm)) O 1 0 z nd nm) 24 0 (nI 1) from (u2_eq _ _ _ _).symm]; exact hB
  refine lv_iconst (v := nI 1) hx hb dX7_image_27 (by decide) ?_
  exact j_iret hC hB dX7_image_28 (⟨rfl, rfl⟩)

set_option maxHeartbeats 4000000 in
set_option maxRecDepth 100000 in
theorem c_X7_restore (l_ : Launch) (G : jG) (I : Nat → Nat → Int32) (J : Nat → Nat → Int64) (O : Nat → Nat → Nat) {hi : Bool} (hI : I 24 0 = b2 hi) {nd : Nat} (hnd : nd ≤ 10) {nm : Nat} (hnm : nm ≤ 4) {z : Nat} (hz : z ≤ 8) (hO : okO O) (hR : hi = true → I 1 0 = nI nd ∧ I 1 1 = nI nm ∧ I 21 1 = nI z ∧ ctO I O 1 z nd nm) : jMi l_ G yX7_restore wsX7_restore ({ frames := 3, cells := 0, slots := 0, locals := 65 }) [.ref (G.2.2.1 (0, 0, 0))] (I, J, O) (fun r u => r = (if hi then nI 1 else -4) ∧ u = (if hi then resI I O z nd nm else I, J, O)) := by
  refine jMi_of (cc := cX7_restore) (maxL := 1) (ret := (some .int)) (lv0 := [(0, .ref (G.2.2.1 (0, 0, 0)))]) (by decide) rfl (Nat.le_of_ble_eq_true rfl) rfl ?_
  intro pg_ ev_ s_ mi_ below meth cd_ A ls hC hB hl
  obtain ⟨hx, hb, hr, hml, hown, hts, hlocks, hK, hA⟩ := id hC
  have lk_268 := hts (.fieldLink RX7 268 "RiddlePrison" "hasImage" "Z") (by decide +kernel)
  have lk_10 := hts (.fieldLink RX7 10 "RiddlePrison" "now" "LRiddlePrison$Prison;") (by decide +kernel)
  have lk_23 := hts (.fieldLink RX7 23 "RiddlePrison" "imaged" "LRiddlePrison$Prison;") (by decide +kernel)
  have lk_19 := hts (.fieldLink RX7 19 "RiddlePrison" "history" "LRiddlePrison$History;") (by decide +kernel)
  have lk_26 := hts (.fieldLink RX7 26 "RiddlePrison" "imagedHistory" "LRiddlePrison$History;") (by decide +kernel)
  have in_X7 := (fun w h => List.mem_cons_of_mem _ (List.mem_append_left _ (List.mem_append_left _ (List.mem_append_left _ (List.mem_append_left _ (List.mem_append_right _ h))))) : ∀ w ∈ wsX70, w ∈ wsX7_restore)
  refine lv_aload_n hx hb dX7_restore_0 rfl (lv_at hl 0 rfl) ?_
  refine j_get (0, 0, 0) 4 (v := .int (I 24 0)) hC hB in_X7 lk_268 dX7_restore_1 jk0 rfl rfl (by decide) rfl ?_
  refine j_eqi (x := I 24 0) (y := b2 hi) (hI) ?_
  refine jb_if_ne (tgt := 10) hx hb dX7_restore_4 (by decide) (fun c_4 => ?_) (fun c_4 => ?_)
  · obtain ⟨hD, hM, hZ, hct⟩ := hR c_4
    refine lv_aload_n hx hb dX7_restore_10 rfl (lv_at hl 0 rfl) ?_
    refine j_get (0, 0, 0) 0 (v := .ref (G.2.2.1 (1, 0, 0))) hC hB in_X7 lk_10 dX7_restore_11 jk0 rfl rfl (by decide) rfl ?_
    refine lv_aload_n hx hb dX7_restore_14 rfl (lv_at hl 0 rfl) ?_
    refine j_get (0, 0, 0) 2 (v := .ref (G.2.2.1 (1, 1, 0))) hC hB in_X7 lk_23 dX7_restore_15 jk0 rfl rfl (by decide) rfl ?_
    refine j_cvv (1, 0, 0) [.ref (G.2.2.1 (1, 1, 0))] hC hB hl.1 (c_X4_become l_ G I J O 0 1 (by omega) (by omega) (by omega) (by omega) (hD) (by omega) (hM)) (cwV 1 hts gX7_restore_X4_become rfl rfl rfl (by decide +kernel) ⟨by decide, by decide⟩) dX7_restore_18 (jk1 (by omega)) rfl rfl rfl rfl (Nat.le_of_ble_eq_true rfl) (fun u_18 H locs hp_18 hB => ?_)
    obtain rfl := hp_18
    have hB : jB G A s_.heap (sr I 0 (pcR (I 0) (I 1) nd nm), J, O) H locs := hB
    refine lv_aload_n hx hb dX7_restore_21 rfl (lv_at hl 0 rfl) ?_
    refine j_get (0, 0, 0) 1 (v := .ref (G.2.2.1 (7, 0, 0))) hC hB in_X7 lk_19 dX7_restore_22 jk0 rfl rfl (by decide) rfl ?_
    refine lv_aload_n hx hb dX7_restore_25 rfl (lv_at hl 0 rfl) ?_
    refine j_get (0, 0, 0) 3 (v := .ref (G.2.2.1 (7, 1, 0))) hC hB in_X7 lk_26 dX7_restore_26 jk0 rfl rfl (by decide) rfl ?_
    refine j_cvv (7, 0, 0) [.ref (G.2.2.1 (7, 1, 0))] hC hB hl.1 (c_X2_become l_ G (sr I 0 (pcR (I 0) (I 1) nd nm)) J O 0 1 (by decide) (by decide) (by decide) (by omega) (by omega) (by omega) ((congrFun (sr_ne (show (21 : Nat) ≠ 0 by omega)) _).trans (hZ)) hO (ctO_sr hct hO (by decide) hz (by decide))) (cwV 1 hts gX7_restore_X2_become rfl rfl rfl (by decide +kernel) ⟨by decide, by decide⟩) dX7_restore_29 (jk7 (by omega)) rfl rfl rfl rfl (Nat.le_of_ble_eq_true rfl) (fun u_29 H locs hp_29 hB => ?_)
    obtain rfl := hp_29
    have hB : jB G A s_.heap (hbI (sr I 0 (pcR (I 0) (I 1) nd nm)) O 0 1 z nd nm, J, O) H locs := hB
    refine lv_iconst (v := nI 1) hx hb dX7_restore_32 (by decide) ?_
    exact j_iret hC hB dX7_restore_33 (⟨by simp [c_4], by simp [resI, c_4]⟩)
  · refine lv_bipush (v := (-4 : Int32)) hx hb dX7_restore_7 (by decide) ?_
    exact j_iret hC hB dX7_restore_9 (⟨by simp [c_4], by simp [c_4]⟩)
