set_option maxHeartbeats 4000000 in
set_option maxRecDepth 100000 in
theorem c_X7_door (l_ : Launch) (G : jG) (I : Nat → Nat → Int32) (J : Nat → Nat → Int64) (O : Nat → Nat → Nat) (cell other sort hard : Int32) {nd : Nat} (hnd : nd ≤ 10) (hD : I 0 0 = nI nd) : jMi l_ G yX7_door wsX7_door ({ frames := 2, cells := 0, slots := 0, locals := 42 }) [.ref (G.2.2.1 (0, 0, 0)), .int cell, .int other, .int sort, .int hard] (I, J, O) (fun r u => r = doorCA nd cell other sort hard ∧ u = (doorCI I nd cell other sort hard, J, O)) := by
  refine jMi_of (cc := cX7_door) (maxL := 5) (ret := (some .int)) (lv0 := [(0, .ref (G.2.2.1 (0, 0, 0))), (1, .int cell), (2, .int other), (3, .int sort), (4, .int hard)]) (by decide) rfl (Nat.le_of_ble_eq_true rfl) rfl ?_
  intro pg_ ev_ s_ mi_ below meth cd_ A ls hC hB hl
  obtain ⟨hx, hb, hr, hml, hown, hts, hlocks, hK, hA⟩ := id hC
  have lk_10 := hts (.fieldLink RX7 10 "RiddlePrison" "now" "LRiddlePrison$Prison;") (by decide +kernel)
  have ln_70 := (by decide +kernel : Cond.fieldLinkNest RX7 70 "RiddlePrison$Prison" "doorCount" "I" "RiddlePrison" ∈ nsW)
  have lk_19 := hts (.fieldLink RX7 19 "RiddlePrison" "history" "LRiddlePrison$History;") (by decide +kernel)
  have in_X7 := (fun w h => List.mem_cons_of_mem _ (List.mem_append_left _ (List.mem_append_left _ (List.mem_append_left _ (List.mem_append_right _ h)))) : ∀ w ∈ wsX70, w ∈ wsX7_door)
  have in_X4 := (fun w h => List.mem_cons_of_mem _ (List.mem_append_left _ (List.mem_append_left _ (List.mem_append_right _ h))) : ∀ w ∈ wsX40, w ∈ wsX7_door)
  refine lv_iload_n hx hb dX7_door_0 rfl (lv_at hl 1 rfl) ?_
  refine j_csi [.int cell] hC hB hl.1 (c_X7_isCell l_ G I J O cell) (va_cwS 1 hts gX7_door_X7_isCell rfl rfl rfl (by decide +kernel) ⟨by decide, by decide⟩) dX7_door_1 rfl rfl (Nat.le_of_ble_eq_true rfl) (fun r_1 u_1 H locs hp_1 hB => ?_)
  obtain ⟨rfl, rfl⟩ := hp_1
  refine jb_if_eq (tgt := 28) hx hb dX7_door_4 (by decide) (fun c_4 => ?_) (fun c_4 => ?_)
  · refine lv_iconst (v := (-1 : Int32)) hx hb dX7_door_28 (by decide) ?_
    exact j_iret hC hB dX7_door_29 (⟨by simp [doorCA, doorCI, doorOkC, c_4], by simp [doorCA, doorCI, doorOkC, c_4]⟩)
  · refine lv_iload_n hx hb dX7_door_7 rfl (lv_at hl 2 rfl) ?_
    refine j_csi [.int other] hC hB hl.1 (c_X7_isCell l_ G I J O other) (va_cwS 1 hts gX7_door_X7_isCell rfl rfl rfl (by decide +kernel) ⟨by decide, by decide⟩) dX7_door_8 rfl rfl (Nat.le_of_ble_eq_true rfl) (fun r_8 u_8 H locs hp_8 hB => ?_)
    obtain ⟨rfl, rfl⟩ := hp_8
    refine jb_if_eq (tgt := 28) hx hb dX7_door_11 (by decide) (fun c_11 => ?_) (fun c_11 => ?_)
    · refine lv_iconst (v := (-1 : Int32)) hx hb dX7_door_28 (by decide) ?_
      exact j_iret hC hB dX7_door_29 (⟨by simp [doorCA, doorCI, doorOkC, c_4, c_11], by simp [doorCA, doorCI, doorOkC, c_4, c_11]⟩)
    · refine lv_iload_n hx hb dX7_door_14 rfl (lv_at hl 1 rfl) ?_
      refine lv_iload_n hx hb dX7_door_15 rfl (lv_at hl 2 rfl) ?_
      refine lv_icmp_eq (tgt := 28) hx hb dX7_door_16 (by decide) (fun c_16 => ?_) (fun c_16 => ?_)
      · refine lv_iconst (v := (-1 : Int32)) hx hb dX7_door_28 (by decide) ?_
        exact j_iret hC hB dX7_door_29 (⟨by simp [doorCA, doorCI, doorOkC, c_4, c_11, eq_true c_16], by simp [doorCA, doorCI, doorOkC, c_4, c_11, eq_true c_16]⟩)
      · refine lv_iload_n hx hb dX7_door_19 rfl (lv_at hl 3 rfl) ?_
        refine lv_iload hx hb dX7_door_20 (lv_at hl 4 rfl) ?_
        refine j_csi [.int sort, .int hard] hC hB hl.1 (c_X7_isQuestion l_ G I J O sort hard) (va_cwS 2 hts gX7_door_X7_isQuestion rfl rfl rfl (by decide +kernel) ⟨by decide, by decide⟩) dX7_door_22 rfl rfl (Nat.le_of_ble_eq_true rfl) (fun r_22 u_22 H locs hp_22 hB => ?_)
        obtain ⟨rfl, rfl⟩ := hp_22
        refine jb_if_ne (tgt := 30) hx hb dX7_door_25 (by decide) (fun c_25 => ?_) (fun c_25 => ?_)
        · refine lv_aload_n hx hb dX7_door_30 rfl (lv_at hl 0 rfl) ?_
          refine j_get (0, 0, 0) 0 (v := .ref (G.2.2.1 (1, 0, 0))) hC hB in_X7 lk_10 dX7_door_31 jk0 rfl rfl (by decide) rfl ?_
          refine j_getN (1, 0, 0) 2 (v := .int (I 0 0)) hC hB in_X4 ln_70 dX7_door_34 (jk1 (by omega)) rfl rfl (by decide) rfl ?_
          refine j_eqi (x := I 0 0) (y := nI nd) (hD) ?_
          refine lv_bipush (v := nI 10) hx hb dX7_door_37 (by decide) ?_
          refine jn_icmp_lt (tgt := 45) hx hb dX7_door_39 (by decide) (by omega) (by omega) (fun c_39 => ?_) (fun c_39 => ?_)
          · refine lv_aload_n hx hb dX7_door_45 rfl (lv_at hl 0 rfl) ?_
            refine j_get (0, 0, 0) 1 (v := .ref (G.2.2.1 (7, 0, 0))) hC hB in_X7 lk_19 dX7_door_46 jk0 rfl rfl (by decide) rfl ?_
            refine j_cvv (7, 0, 0) [] hC hB hl.1 (c_X2_forget l_ G I J O 0 (by omega)) (cwV 0 hts gX7_door_X2_forget rfl rfl rfl (by decide +kernel) ⟨by decide, by decide⟩) dX7_door_49 (jk7 (by omega)) rfl rfl rfl rfl (Nat.le_of_ble_eq_true rfl) (fun u_49 H locs hp_49 hB => ?_)
            obtain rfl := hp_49
            have hB : jB G A s_.heap (sr I 21 (upd (I 21) 0 (nI 0)), J, O) H locs := hB
            refine lv_aload_n hx hb dX7_door_52 rfl (lv_at hl 0 rfl) ?_
            refine j_get (0, 0, 0) 0 (v := .ref (G.2.2.1 (1, 0, 0))) hC hB in_X7 lk_10 dX7_door_53 jk0 rfl rfl (by decide) rfl ?_
            refine lv_iload_n hx hb dX7_door_56 rfl (lv_at hl 1 rfl) ?_
            refine lv_iload_n hx hb dX7_door_57 rfl (lv_at hl 2 rfl) ?_
            refine lv_iload_n hx hb dX7_door_58 rfl (lv_at hl 3 rfl) ?_
            refine lv_iload hx hb dX7_door_59 (lv_at hl 4 rfl) ?_
            refine j_cvi (1, 0, 0) [.int cell, .int other, .int sort, .int hard] hC hB hl.1 (c_X4_addDoor l_ G (sr I 21 (upd (I 21) 0 (nI 0))) J O 0 cell other sort hard (by omega) (by omega) ((congrFun (sr_ne (show (0 : Nat) ≠ 21 by omega)) _).trans (hD))) (cwV 4 hts gX7_door_X4_addDoor rfl rfl rfl (by decide +kernel) ⟨by decide, by decide⟩) dX7_door_61 (jk1 (by omega)) rfl rfl rfl rfl (Nat.le_of_ble_eq_true rfl) (fun r_61 u_61 H locs hp_61 hB => ?_)
            obtain ⟨rfl, rfl⟩ := hp_61
            have hB : jB G A s_.heap (sr (sr I 21 (upd (I 21) 0 (nI 0))) 0 (adR (I 0) cell other sort hard), J, O) H locs := hB
            refine j_eqi (y := nI nd) (rfl) ?_
            exact j_iret hC hB dX7_door_64 (⟨by simp [doorCA, doorCI, doorOkC, c_4, c_11, c_16, c_25, c_39], by simp [doorCA, doorCI, doorOkC, c_4, c_11, c_16, c_25, c_39]⟩)
          · refine lv_bipush (v := (-3 : Int32)) hx hb dX7_door_42 (by decide) ?_
            exact j_iret hC hB dX7_door_44 (⟨by simp [doorCA, doorCI, doorOkC, show ¬ nd < 10 by omega, c_4, c_11, c_16, c_25, c_39], by simp [doorCA, doorCI, doorOkC, show ¬ nd < 10 by omega, c_4, c_11, c_16, c_25, c_39]⟩)
        · refine lv_iconst (v := (-1 : Int32)) hx hb dX7_door_28 (by decide) ?_
          exact j_iret hC hB dX7_door_29 (⟨by simp [doorCA, doorCI, doorOkC, c_4, c_11, c_16, c_25], by simp [doorCA, doorCI, doorOkC, c_4, c_11, c_16, c_25]⟩)

set_option maxHeartbeats 4000000 in
set_option maxRecDepth 100000 in
theorem c_X7_man (l_ : Launch) (G : jG) (I : Nat → Nat → Int32) (J : Nat → Nat → Int64) (O : Nat → Nat → Nat) (kind wit sort cell : Int32) {nm : Nat} (hnm : nm ≤ 4) (hM : I 0 1 = nI nm) : jMi l_ G yX7_man wsX7_man ({ frames := 2, cells := 0, slots := 0, locals := 41 }) [.ref (G.2.2.1 (0, 0, 0)), .int kind, .int wit, .int sort, .int cell] (I, J, O) (fun r u => r = manCA nm kind wit sort cell ∧ u = (manCI I nm kind wit sort cell, J, O)) := by
  refine jMi_of (cc := cX7_man) (maxL := 5) (ret := (some .int)) (lv0 := [(0, .ref (G.2.2.1 (0, 0, 0))), (1, .int kind), (2, .int wit), (3, .int sort), (4, .int cell)]) (by decide) rfl (Nat.le_of_ble_eq_true rfl) rfl ?_
  intro pg_ ev_ s_ mi_ below meth cd_ A ls hC hB hl
  obtain ⟨hx, hb, hr, hml, hown, hts, hlocks, hK, hA⟩ := id hC
  have lk_10 := hts (.fieldLink RX7 10 "RiddlePrison" "now" "LRiddlePrison$Prison;") (by decide +kernel)
  have ln_84 := (by decide +kernel : Cond.fieldLinkNest RX7 84 "RiddlePrison$Prison" "manCount" "I" "RiddlePrison" ∈ nsW)
  have lk_19 := hts (.fieldLink RX7 19 "RiddlePrison" "history" "LRiddlePrison$History;") (by decide +kernel)
  have in_X7 := (fun w h => List.mem_cons_of_mem _ (List.mem_append_left _ (List.mem_append_left _ (List.mem_append_left _ (List.mem_append_right _ h)))) : ∀ w ∈ wsX70, w ∈ wsX7_man)
  have in_X4 := (fun w h => List.mem_cons_of_mem _ (List.mem_append_left _ (List.mem_append_left _ (List.mem_append_right _ h))) : ∀ w ∈ wsX40, w ∈ wsX7_man)
  refine lv_iload_n hx hb dX7_man_0 rfl (lv_at hl 1 rfl) ?_
  refine lv_iconst (v := nI 5) hx hb dX7_man_1 (by decide) ?_
  refine j_csi [.int kind, .int (nI 5)] hC hB hl.1 (c_X7_isBelow l_ G I J O kind 5 (by omega)) (va_cwS 2 hts gX7_man_X7_isBelow rfl rfl rfl (by decide +kernel) ⟨by decide, by decide⟩) dX7_man_2 rfl rfl (Nat.le_of_ble_eq_true rfl) (fun r_2 u_2 H locs hp_2 hB => ?_)
  obtain ⟨rfl, rfl⟩ := hp_2
  refine jb_if_eq (tgt := 33) hx hb dX7_man_5 (by decide) (fun c_5 => ?_) (fun c_5 => ?_)
  · refine lv_iconst (v := (-1 : Int32)) hx hb dX7_man_33 (by decide) ?_
    exact j_iret hC hB dX7_man_34 (⟨by simp [manCA, manCI, manOk, c_5], by simp [manCA, manCI, manOk, c_5]⟩)
  · refine lv_iload_n hx hb dX7_man_8 rfl (lv_at hl 2 rfl) ?_
    refine lv_bipush (v := nI 10) hx hb dX7_man_9 (by decide) ?_
    refine j_csi [.int wit, .int (nI 10)] hC hB hl.1 (c_X7_isBelow l_ G I J O wit 10 (by omega)) (va_cwS 2 hts gX7_man_X7_isBelow rfl rfl rfl (by decide +kernel) ⟨by decide, by decide⟩) dX7_man_11 rfl rfl (Nat.le_of_ble_eq_true rfl) (fun r_11 u_11 H locs hp_11 hB => ?_)
    obtain ⟨rfl, rfl⟩ := hp_11
    refine jb_if_eq (tgt := 33) hx hb dX7_man_14 (by decide) (fun c_14 => ?_) (fun c_14 => ?_)
    · refine lv_iconst (v := (-1 : Int32)) hx hb dX7_man_33 (by decide) ?_
      exact j_iret hC hB dX7_man_34 (⟨by simp [manCA, manCI, manOk, c_5, c_14], by simp [manCA, manCI, manOk, c_5, c_14]⟩)
    · refine lv_iload_n hx hb dX7_man_17 rfl (lv_at hl 3 rfl) ?_
      refine lv_iconst (v := nI 4) hx hb dX7_man_18 (by decide) ?_
      refine j_csi [.int sort, .int (nI 4)] hC hB hl.1 (c_X7_isBelow l_ G I J O sort 4 (by omega)) (va_cwS 2 hts gX7_man_X7_isBelow rfl rfl rfl (by decide +kernel) ⟨by decide, by decide⟩) dX7_man_19 rfl rfl (Nat.le_of_ble_eq_true rfl) (fun r_19 u_19 H locs hp_19 hB => ?_)
      obtain ⟨rfl, rfl⟩ := hp_19
      refine jb_if_eq (tgt := 33) hx hb dX7_man_22 (by decide) (fun c_22 => ?_) (fun c_22 => ?_)
      · refine lv_iconst (v := (-1 : Int32)) hx hb dX7_man_33 (by decide) ?_
        exact j_iret hC hB dX7_man_34 (⟨by simp [manCA, manCI, manOk, c_5, c_14, c_22], by simp [manCA, manCI, manOk, c_5, c_14, c_22]⟩)
      · refine lv_iload hx hb dX7_man_25 (lv_at hl 4 rfl) ?_
        refine j_csi [.int cell] hC hB hl.1 (c_X7_isCell l_ G I J O cell) (va_cwS 1 hts gX7_man_X7_isCell rfl rfl rfl (by decide +kernel) ⟨by decide, by decide⟩) dX7_man_27 rfl rfl (Nat.le_of_ble_eq_true rfl) (fun r_27 u_27 H locs hp_27 hB => ?_)
        obtain ⟨rfl, rfl⟩ := hp_27
        refine jb_if_ne (tgt := 35) hx hb dX7_man_30 (by decide) (fun c_30 => ?_) (fun c_30 => ?_)
        · refine lv_aload_n hx hb dX7_man_35 rfl (lv_at hl 0 rfl) ?_
          refine j_get (0, 0, 0) 0 (v := .ref (G.2.2.1 (1, 0, 0))) hC hB in_X7 lk_10 dX7_man_36 jk0 rfl rfl (by decide) rfl ?_
          refine j_getN (1, 0, 0) 3 (v := .int (I 0 1)) hC hB in_X4 ln_84 dX7_man_39 (jk1 (by omega)) rfl rfl (by decide) rfl ?_
          refine j_eqi (x := I 0 1) (y := nI nm) (hM) ?_
          refine lv_iconst (v := nI 4) hx hb dX7_man_42 (by decide) ?_
          refine jn_icmp_lt (tgt := 49) hx hb dX7_man_43 (by decide) (by omega) (by omega) (fun c_43 => ?_) (fun c_43 => ?_)
          · refine lv_aload_n hx hb dX7_man_49 rfl (lv_at hl 0 rfl) ?_
            refine j_get (0, 0, 0) 1 (v := .ref (G.2.2.1 (7, 0, 0))) hC hB in_X7 lk_19 dX7_man_50 jk0 rfl rfl (by decide) rfl ?_
            refine j_cvv (7, 0, 0) [] hC hB hl.1 (c_X2_forget l_ G I J O 0 (by omega)) (cwV 0 hts gX7_man_X2_forget rfl rfl rfl (by decide +kernel) ⟨by decide, by decide⟩) dX7_man_53 (jk7 (by omega)) rfl rfl rfl rfl (Nat.le_of_ble_eq_true rfl) (fun u_53 H locs hp_53 hB => ?_)
            obtain rfl := hp_53
            have hB : jB G A s_.heap (sr I 21 (upd (I 21) 0 (nI 0)), J, O) H locs := hB
            refine lv_aload_n hx hb dX7_man_56 rfl (lv_at hl 0 rfl) ?_
            refine j_get (0, 0, 0) 0 (v := .ref (G.2.2.1 (1, 0, 0))) hC hB in_X7 lk_10 dX7_man_57 jk0 rfl rfl (by decide) rfl ?_
            refine lv_iload_n hx hb dX7_man_60 rfl (lv_at hl 1 rfl) ?_
            refine lv_iload_n hx hb dX7_man_61 rfl (lv_at hl 2 rfl) ?_
            refine lv_iload_n hx hb dX7_man_62 rfl (lv_at hl 3 rfl) ?_
            refine lv_iload hx hb dX7_man_63 (lv_at hl 4 rfl) ?_
            refine j_cvi (1, 0, 0) [.int kind, .int wit, .int sort, .int cell] hC hB hl.1 (c_X4_addMan l_ G (sr I 21 (upd (I 21) 0 (nI 0))) J O 0 kind wit sort cell (by omega) (by omega) ((congrFun (sr_ne (show (0 : Nat) ≠ 21 by omega)) _).trans (hM))) (cwV 4 hts gX7_man_X4_addMan rfl rfl rfl (by decide +kernel) ⟨by decide, by decide⟩) dX7_man_65 (jk1 (by omega)) rfl rfl rfl rfl (Nat.le_of_ble_eq_true rfl) (fun r_65 u_65 H locs hp_65 hB => ?_)
            obtain ⟨rfl, rfl⟩ := hp_65
            have hB : jB G A s_.heap (sr (sr I 21 (upd (I 21) 0 (nI 0))) 0 (amR (I 0) kind wit sort cell), J, O) H locs := hB
            refine j_eqi (y := nI nm) (rfl) ?_
            exact j_iret hC hB dX7_man_68 (⟨by simp [manCA, manCI, manOk, c_5, c_14, c_22, c_30, c_43], by simp [manCA, manCI, manOk, c_5, c_14, c_22, c_30, c_43]⟩)
          · refine lv_bipush (v := (-3 : Int32)) hx hb dX7_man_46 (by decide) ?_
            exact j_iret hC hB dX7_man_48 (⟨by simp [manCA, manCI, manOk, show ¬ nm < 4 by omega, c_5, c_14, c_22, c_30, c_43], by simp [manCA, manCI, manOk, show ¬ nm < 4 by omega, c_5, c_14, c_22, c_30, c_43]⟩)
        · refine lv_iconst (v := (-1 : Int32)) hx hb dX7_man_33 (by decide) ?_
          exact j_iret hC hB dX7_man_34 (⟨by simp [manCA, manCI, manOk, c_5, c_14, c_22, c_30], by simp [manCA, manCI, manOk, c_5, c_14, c_22, c_30]⟩)

set_option maxHeartbeats 4000000 in
set_option maxRecDepth 100000 in
theorem c_X7_attempt (l_ : Launch) (G : jG) (I : Nat → Nat → Int32) (J : Nat → Nat → Int64) (O : Nat → Nat → Nat) (man door : Int32) {nd : Nat} (hnd : nd ≤ 10) (hD : I 0 0 = nI nd) {nm : Nat} (hnm : nm ≤ 4) (hM : I 0 1 = nI nm) {z : Nat} (hz : z ≤ 8) (hZ : I 21 0 = nI z) (hO : okO O) : jMi l_ G yX7_attempt wsX7_attempt ({ frames := 4, cells := 0, slots := 0, locals := 98 }) [.ref (G.2.2.1 (0, 0, 0)), .int man, .int door] (I, J, O) (fun r u => r = attCA (I 0) nd nm man door ∧ u = attCS I J O z nd nm man door) := by
  refine jMi_of (cc := cX7_attempt) (maxL := 4) (ret := (some .int)) (lv0 := [(0, .ref (G.2.2.1 (0, 0, 0))), (1, .int man), (2, .int door)]) (by decide) rfl (Nat.le_of_ble_eq_true rfl) rfl ?_
  intro pg_ ev_ s_ mi_ below meth cd_ A ls hC hB hl
  obtain ⟨hx, hb, hr, hml, hown, hts, hlocks, hK, hA⟩ := id hC
  have lk_10 := hts (.fieldLink RX7 10 "RiddlePrison" "now" "LRiddlePrison$Prison;") (by decide +kernel)
  have ln_121 := (by decide +kernel : Cond.fieldLinkNest RX7 121 "RiddlePrison$Prison" "men" "[LRiddlePrison$Man;" "RiddlePrison" ∈ nsW)
  have ln_93 := (by decide +kernel : Cond.fieldLinkNest RX7 93 "RiddlePrison$Prison" "doors" "[LRiddlePrison$Door;" "RiddlePrison" ∈ nsW)
  have ln_134 := (by decide +kernel : Cond.fieldLinkNest RX7 134 "RiddlePrison$Man" "cell" "I" "RiddlePrison" ∈ nsW)
  have lk_19 := hts (.fieldLink RX7 19 "RiddlePrison" "history" "LRiddlePrison$History;") (by decide +kernel)
  have in_X7 := (fun w h => List.mem_cons_of_mem _ (List.mem_append_left _ (List.mem_append_left _ (List.mem_append_left _ (List.mem_append_left _ (List.mem_append_right _ h))))) : ∀ w ∈ wsX70, w ∈ wsX7_attempt)
  have in_X4 := (fun w h => List.mem_cons_of_mem _ (List.mem_append_left _ (List.mem_append_left _ (List.mem_append_left _ (List.mem_append_right _ h)))) : ∀ w ∈ wsX40, w ∈ wsX7_attempt)
  have in_X3 := (fun w h => List.mem_cons_of_mem _ (List.mem_append_left _ (List.mem_append_left _ (List.mem_append_right _ h))) : ∀ w ∈ wsX30, w ∈ wsX7_attempt)
  refine lv_aload_n hx hb dX7_attempt_0 rfl (lv_at hl 0 rfl) ?_
  refine lv_iload_n hx hb dX7_attempt_1 rfl (lv_at hl 1 rfl) ?_
  refine j_cvi (0, 0, 0) [.int man] hC hB hl.1 (c_X7_isMan l_ G I J O man (by omega) (hM)) (cwV 1 hts gX7_attempt_X7_isMan rfl rfl rfl (by decide +kernel) ⟨by decide, by decide⟩) dX7_attempt_2 jk0 rfl rfl rfl rfl (Nat.le_of_ble_eq_true rfl) (fun r_2 u_2 H locs hp_2 hB => ?_)
  obtain ⟨rfl, rfl⟩ := hp_2
  refine jb_if_eq (tgt := 16) hx hb dX7_attempt_5 (by decide) (fun c_5 => ?_) (fun c_5 => ?_)
  · refine lv_iconst (v := (-1 : Int32)) hx hb dX7_attempt_16 (by decide) ?_
    exact j_iret hC hB dX7_attempt_17 (⟨by simp [attCA, attCS, c_5], by simp [attCA, attCS, c_5]⟩)
  · obtain ⟨mm, hmm, rfl⟩ := isB_nat c_5 (by omega)
    refine lv_aload_n hx hb dX7_attempt_8 rfl (lv_at hl 0 rfl) ?_
    refine lv_iload_n hx hb dX7_attempt_9 rfl (lv_at hl 2 rfl) ?_
    refine j_cvi (0, 0, 0) [.int door] hC hB hl.1 (c_X7_isDoor l_ G I J O door (by omega) (hD)) (cwV 1 hts gX7_attempt_X7_isDoor rfl rfl rfl (by decide +kernel) ⟨by decide, by decide⟩) dX7_attempt_10 jk0 rfl rfl rfl rfl (Nat.le_of_ble_eq_true rfl) (fun r_10 u_10 H locs hp_10 hB => ?_)
    obtain ⟨rfl, rfl⟩ := hp_10
    refine jb_if_ne (tgt := 18) hx hb dX7_attempt_13 (by decide) (fun c_13 => ?_) (fun c_13 => ?_)
    · obtain ⟨dd, hdd, rfl⟩ := isB_nat c_13 (by omega)
      refine lv_aload_n hx hb dX7_attempt_18 rfl (lv_at hl 0 rfl) ?_
      refine j_get (0, 0, 0) 0 (v := .ref (G.2.2.1 (1, 0, 0))) hC hB in_X7 lk_10 dX7_attempt_19 jk0 rfl rfl (by decide) rfl ?_
      refine j_getN (1, 0, 0) 1 (v := .ref (G.2.2.1 (3, 0, 0))) hC hB in_X4 ln_121 dX7_attempt_22 (jk1 (by omega)) rfl rfl (by decide) rfl ?_
      refine lv_iload_n hx hb dX7_attempt_25 rfl (lv_at hl 1 rfl) ?_
      refine j_ald (3, 0, 0) (5, 0, mm) 4 mm hC hB dX7_attempt_26 (jk3 (by omega)) rfl rfl rfl (by omega) (by decide) rfl ?_
      refine lv_astore_n (lv' := [(3, .ref (G.2.2.1 (5, 0, mm))), (0, .ref (G.2.2.1 (0, 0, 0))), (1, .int (nI mm)), (2, .int (nI dd))]) hx hb dX7_attempt_27 rfl hl (by decide) rfl (fun ls hl => ?_)
      refine lv_aload_n hx hb dX7_attempt_28 rfl (lv_at hl 1 rfl) ?_
      refine j_get (0, 0, 0) 0 (v := .ref (G.2.2.1 (1, 0, 0))) hC hB in_X7 lk_10 dX7_attempt_29 jk0 rfl rfl (by decide) rfl ?_
      refine j_getN (1, 0, 0) 0 (v := .ref (G.2.2.1 (2, 0, 0))) hC hB in_X4 ln_93 dX7_attempt_32 (jk1 (by omega)) rfl rfl (by decide) rfl ?_
      refine lv_iload_n hx hb dX7_attempt_35 rfl (lv_at hl 3 rfl) ?_
      refine j_ald (2, 0, 0) (4, 0, dd) 3 dd hC hB dX7_attempt_36 (jk2 (by omega)) rfl rfl rfl (by omega) (by decide) rfl ?_
      refine lv_aload_n hx hb dX7_attempt_37 rfl (lv_at hl 0 rfl) ?_
      refine j_getN (5, 0, mm) 3 (v := .int (I 0 (51 + mm))) hC hB in_X3 ln_134 dX7_attempt_38 (jk5 (by omega) (by omega)) rfl rfl (by decide) rfl ?_
      refine j_cvi (4, 0, dd) [.int ((I 0) (51 + mm))] hC hB hl.1 (c_X0_isAt l_ G I J O 0 dd ((I 0) (51 + mm)) ((jk4 (by omega) (by omega)))) (cwV 1 hts gX7_attempt_X0_isAt rfl rfl rfl (by decide +kernel) ⟨by decide, by decide⟩) dX7_attempt_41 (jk4 (by omega) (by omega)) rfl rfl rfl rfl (Nat.le_of_ble_eq_true rfl) (fun r_41 u_41 H locs hp_41 hB => ?_)
      obtain ⟨rfl, rfl⟩ := hp_41
      refine jb_if_ne (tgt := 50) hx hb dX7_attempt_44 (by decide) (fun c_44 => ?_) (fun c_44 => ?_)
      · refine lv_aload_n hx hb dX7_attempt_50 rfl (lv_at hl 1 rfl) ?_
        refine j_get (0, 0, 0) 1 (v := .ref (G.2.2.1 (7, 0, 0))) hC hB in_X7 lk_19 dX7_attempt_51 jk0 rfl rfl (by decide) rfl ?_
        refine lv_aload_n hx hb dX7_attempt_54 rfl (lv_at hl 1 rfl) ?_
        refine j_get (0, 0, 0) 0 (v := .ref (G.2.2.1 (1, 0, 0))) hC hB in_X7 lk_10 dX7_attempt_55 jk0 rfl rfl (by decide) rfl ?_
        refine j_cvv (7, 0, 0) [.ref (G.2.2.1 (1, 0, 0))] hC hB hl.1 (c_X2_remember l_ G I J O (by omega) (hD) (by omega) (hM) (by omega) (hZ) (hO)) (cwV 1 hts gX7_attempt_X2_remember rfl rfl rfl (by decide +kernel) ⟨by decide, by decide⟩) dX7_attempt_58 (jk7 (by omega)) rfl rfl rfl rfl (Nat.le_of_ble_eq_true rfl) (fun u_58 H locs hp_58 hB => ?_)
        obtain rfl := hp_58
        have hB : jB G A s_.heap (remI I O z nd nm, J, remO O z) H locs := hB
        refine lv_aload_n hx hb dX7_attempt_61 rfl (lv_at hl 1 rfl) ?_
        refine j_get (0, 0, 0) 0 (v := .ref (G.2.2.1 (1, 0, 0))) hC hB in_X7 lk_10 dX7_attempt_62 jk0 rfl rfl (by decide) rfl ?_
        refine lv_aload_n hx hb dX7_attempt_65 rfl (lv_at hl 0 rfl) ?_
        refine lv_iload_n hx hb dX7_attempt_66 rfl (lv_at hl 3 rfl) ?_
        refine j_cvi (1, 0, 0) [.ref (G.2.2.1 (5, 0, mm)), .int (nI dd)] hC hB hl.1 (c_X4_letTry l_ G (remI I O z nd nm) J (remO O z) 0 0 mm dd (by omega) ((jk5 (by omega) (by omega))) (by omega)) (cwV 2 hts gX7_attempt_X4_letTry rfl rfl rfl (by decide +kernel) ⟨by decide, by decide⟩) dX7_attempt_67 (jk1 (by omega)) rfl rfl rfl rfl (Nat.le_of_ble_eq_true rfl) (fun r_67 u_67 H locs hp_67 hB => ?_)
        obtain ⟨rfl, rfl⟩ := hp_67
        have hB : jB G A s_.heap (sr (remI I O z nd nm) 0 (ltR ((remI I O z nd nm) 0) ((remI I O z nd nm) 0) mm dd), J, remO O z) H locs := hB
        refine j_eqi (y := b2 (opB ((remI I O z nd nm) 0) ((remI I O z nd nm) 0) mm dd)) (rfl) ?_
        refine lv_pop hx hb dX7_attempt_70 rfl ?_
        refine lv_aload_n hx hb dX7_attempt_71 rfl (lv_at hl 0 rfl) ?_
        refine j_getN (5, 0, mm) 3 (v := .int ((sr (remI I O z nd nm) 0 (ltR ((remI I O z nd nm) 0) ((remI I O z nd nm) 0) mm dd)) 0 (51 + mm))) hC hB in_X3 ln_134 dX7_attempt_72 (jk5 (by omega) (by omega)) rfl rfl (by decide) rfl ?_
        refine j_eqi (x := (sr (remI I O z nd nm) 0 (ltR ((remI I O z nd nm) 0) ((remI I O z nd nm) 0) mm dd)) 0 (51 + mm)) (y := (ltR ((remI I O z nd nm) 0) ((remI I O z nd nm) 0) mm dd) (51 + mm)) ((congrFun sr_self _)) ?_
        exact j_iret hC hB dX7_attempt_75 (⟨by simp [attCA, attCS, tN, nIc (show mm < 2147483648 by omega), nIc (show dd < 2147483648 by omega), remI_0 hO hz, c_5, c_13, c_44], by simp [attCA, attCS, tN, nIc (show mm < 2147483648 by omega), nIc (show dd < 2147483648 by omega), remI_0 hO hz, c_5, c_13, c_44]⟩)
      · refine lv_bipush (v := (-2 : Int32)) hx hb dX7_attempt_47 (by decide) ?_
        exact j_iret hC hB dX7_attempt_49 (⟨by simp [attCA, attCS, tN, nIc (show mm < 2147483648 by omega), nIc (show dd < 2147483648 by omega), remI_0 hO hz, c_5, c_13, c_44], by simp [attCA, attCS, tN, nIc (show mm < 2147483648 by omega), nIc (show dd < 2147483648 by omega), remI_0 hO hz, c_5, c_13, c_44]⟩)
    · refine lv_iconst (v := (-1 : Int32)) hx hb dX7_attempt_16 (by decide) ?_
      exact j_iret hC hB dX7_attempt_17 (⟨by simp [attCA, attCS, c_5, c_13], by simp [attCA, attCS, c_5, c_13]⟩)

set_option maxHeartbeats 4000000 in
set_option maxRecDepth 100000 in
theorem c_X7_whisper (l_ : Launch) (G : jG) (I : Nat → Nat → Int32) (J : Nat → Nat → Int64) (O : Nat → Nat → Nat) (man door : Int32) {nd : Nat} (hnd : nd ≤ 10) (hD : I 0 0 = nI nd) {nm : Nat} (hnm : nm ≤ 4) (hM : I 0 1 = nI nm) {z : Nat} (hz : z ≤ 8) (hZ : I 21 0 = nI z) (hO : okO O) : jMi l_ G yX7_whisper wsX7_whisper ({ frames := 3, cells := 0, slots := 0, locals := 64 }) [.ref (G.2.2.1 (0, 0, 0)), .int man, .int door] (I, J, O) (fun r u => r = whiCA (I 0) nd nm man door ∧ u = whiCS I J O z nd nm man door) := by
  refine jMi_of (cc := cX7_whisper) (maxL := 4) (ret := (some .int)) (lv0 := [(0, .ref (G.2.2.1 (0, 0, 0))), (1, .int man), (2, .int door)]) (by decide) rfl (Nat.le_of_ble_eq_true rfl) rfl ?_
  intro pg_ ev_ s_ mi_ below meth cd_ A ls hC hB hl
  obtain ⟨hx, hb, hr, hml, hown, hts, hlocks, hK, hA⟩ := id hC
  have lk_10 := hts (.fieldLink RX7 10 "RiddlePrison" "now" "LRiddlePrison$Prison;") (by decide +kernel)
  have ln_121 := (by decide +kernel : Cond.fieldLinkNest RX7 121 "RiddlePrison$Prison" "men" "[LRiddlePrison$Man;" "RiddlePrison" ∈ nsW)
  have lk_19 := hts (.fieldLink RX7 19 "RiddlePrison" "history" "LRiddlePrison$History;") (by decide +kernel)
  have ln_137 := (by decide +kernel : Cond.fieldLinkNest RX7 137 "RiddlePrison$Man" "known" "I" "RiddlePrison" ∈ nsW)
  have in_X7 := (fun w h => List.mem_cons_of_mem _ (List.mem_append_left _ (List.mem_append_left _ (List.mem_append_left _ (List.mem_append_left _ (List.mem_append_right _ h))))) : ∀ w ∈ wsX70, w ∈ wsX7_whisper)
  have in_X4 := (fun w h => List.mem_cons_of_mem _ (List.mem_append_left _ (List.mem_append_left _ (List.mem_append_left _ (List.mem_append_right _ h)))) : ∀ w ∈ wsX40, w ∈ wsX7_whisper)
  have in_X3 := (fun w h => List.mem_cons_of_mem _ (List.mem_append_left _ (List.mem_append_left _ (List.mem_append_right _ h))) : ∀ w ∈ wsX30, w ∈ wsX7_whisper)
  refine lv_aload_n hx hb dX7_whisper_0 rfl (lv_at hl 0 rfl) ?_
  refine lv_iload_n hx hb dX7_whisper_1 rfl (lv_at hl 1 rfl) ?_
  refine j_cvi (0, 0, 0) [.int man] hC hB hl.1 (c_X7_isMan l_ G I J O man (by omega) (hM)) (cwV 1 hts gX7_whisper_X7_isMan rfl rfl rfl (by decide +kernel) ⟨by decide, by decide⟩) dX7_whisper_2 jk0 rfl rfl rfl rfl (Nat.le_of_ble_eq_true rfl) (fun r_2 u_2 H locs hp_2 hB => ?_)
  obtain ⟨rfl, rfl⟩ := hp_2
  refine jb_if_eq (tgt := 16) hx hb dX7_whisper_5 (by decide) (fun c_5 => ?_) (fun c_5 => ?_)
  · refine lv_iconst (v := (-1 : Int32)) hx hb dX7_whisper_16 (by decide) ?_
    exact j_iret hC hB dX7_whisper_17 (⟨by simp [whiCA, whiCS, bitI, c_5], by simp [whiCA, whiCS, bitI, c_5]⟩)
  · obtain ⟨mm, hmm, rfl⟩ := isB_nat c_5 (by omega)
    refine lv_aload_n hx hb dX7_whisper_8 rfl (lv_at hl 0 rfl) ?_
    refine lv_iload_n hx hb dX7_whisper_9 rfl (lv_at hl 2 rfl) ?_
    refine j_cvi (0, 0, 0) [.int door] hC hB hl.1 (c_X7_isDoor l_ G I J O door (by omega) (hD)) (cwV 1 hts gX7_whisper_X7_isDoor rfl rfl rfl (by decide +kernel) ⟨by decide, by decide⟩) dX7_whisper_10 jk0 rfl rfl rfl rfl (Nat.le_of_ble_eq_true rfl) (fun r_10 u_10 H locs hp_10 hB => ?_)
    obtain ⟨rfl, rfl⟩ := hp_10
    refine jb_if_ne (tgt := 18) hx hb dX7_whisper_13 (by decide) (fun c_13 => ?_) (fun c_13 => ?_)
    · obtain ⟨dd, hdd, rfl⟩ := isB_nat c_13 (by omega)
      refine lv_aload_n hx hb dX7_whisper_18 rfl (lv_at hl 0 rfl) ?_
      refine j_get (0, 0, 0) 0 (v := .ref (G.2.2.1 (1, 0, 0))) hC hB in_X7 lk_10 dX7_whisper_19 jk0 rfl rfl (by decide) rfl ?_
      refine j_getN (1, 0, 0) 1 (v := .ref (G.2.2.1 (3, 0, 0))) hC hB in_X4 ln_121 dX7_whisper_22 (jk1 (by omega)) rfl rfl (by decide) rfl ?_
      refine lv_iload_n hx hb dX7_whisper_25 rfl (lv_at hl 1 rfl) ?_
      refine j_ald (3, 0, 0) (5, 0, mm) 4 mm hC hB dX7_whisper_26 (jk3 (by omega)) rfl rfl rfl (by omega) (by decide) rfl ?_
      refine lv_astore_n (lv' := [(3, .ref (G.2.2.1 (5, 0, mm))), (0, .ref (G.2.2.1 (0, 0, 0))), (1, .int (nI mm)), (2, .int (nI dd))]) hx hb dX7_whisper_27 rfl hl (by decide) rfl (fun ls hl => ?_)
      refine lv_aload_n hx hb dX7_whisper_28 rfl (lv_at hl 0 rfl) ?_
      refine lv_iload_n hx hb dX7_whisper_29 rfl (lv_at hl 3 rfl) ?_
      refine j_cvi (5, 0, mm) [.int (nI dd)] hC hB hl.1 (c_X3_knows l_ G I J O 0 mm dd ((jk5 (by omega) (by omega)))) (cwV 1 hts gX7_whisper_X3_knows rfl rfl rfl (by decide +kernel) ⟨by decide, by decide⟩) dX7_whisper_30 (jk5 (by omega) (by omega)) rfl rfl rfl rfl (Nat.le_of_ble_eq_true rfl) (fun r_30 u_30 H locs hp_30 hB => ?_)
      obtain ⟨rfl, rfl⟩ := hp_30
      refine jb_if_eq (tgt := 39) hx hb dX7_whisper_33 (by decide) (fun c_33 => ?_) (fun c_33 => ?_)
      · refine lv_aload_n hx hb dX7_whisper_39 rfl (lv_at hl 1 rfl) ?_
        refine j_get (0, 0, 0) 1 (v := .ref (G.2.2.1 (7, 0, 0))) hC hB in_X7 lk_19 dX7_whisper_40 jk0 rfl rfl (by decide) rfl ?_
        refine lv_aload_n hx hb dX7_whisper_43 rfl (lv_at hl 1 rfl) ?_
        refine j_get (0, 0, 0) 0 (v := .ref (G.2.2.1 (1, 0, 0))) hC hB in_X7 lk_10 dX7_whisper_44 jk0 rfl rfl (by decide) rfl ?_
        refine j_cvv (7, 0, 0) [.ref (G.2.2.1 (1, 0, 0))] hC hB hl.1 (c_X2_remember l_ G I J O (by omega) (hD) (by omega) (hM) (by omega) (hZ) (hO)) (cwV 1 hts gX7_whisper_X2_remember rfl rfl rfl (by decide +kernel) ⟨by decide, by decide⟩) dX7_whisper_47 (jk7 (by omega)) rfl rfl rfl rfl (Nat.le_of_ble_eq_true rfl) (fun u_47 H locs hp_47 hB => ?_)
        obtain rfl := hp_47
        have hB : jB G A s_.heap (remI I O z nd nm, J, remO O z) H locs := hB
        refine lv_aload_n hx hb dX7_whisper_50 rfl (lv_at hl 0 rfl) ?_
        refine lv_dup hx hb dX7_whisper_51 rfl ?_
        refine j_getN (5, 0, mm) 4 (v := .int ((remI I O z nd nm) 0 (55 + mm))) hC hB in_X3 ln_137 dX7_whisper_52 (jk5 (by omega) (by omega)) rfl rfl (by decide) rfl ?_
        refine lv_iconst (v := nI 1) hx hb dX7_whisper_55 (by decide) ?_
        refine lv_iload_n hx hb dX7_whisper_56 rfl (lv_at hl 3 rfl) ?_
        refine lv_ishl hx hb dX7_whisper_57 ?_
        refine lv_ior hx hb dX7_whisper_58 ?_
        refine j_putN (5, 0, mm) 4 (u2 (remI I O z nd nm) 0 (55 + mm) ((((remI I O z nd nm) 0) (55 + mm)) ||| ((nI 1) <<< ((nI dd) &&& 31))), J, remO O z) (ty := .int) hC hB in_X3 tyX3_ok nmX3 ln_137 dX7_whisper_59 (jk5 (by omega) (by omega)) rfl rfl (by decide) rfl (by decide +kernel) rfl rfl (Nat.le_of_ble_eq_true rfl) (fun z hz hne => jw_fr z hz (by rw [jof_m55 (by omega) (by omega)]; exact hne)) (by simp [jw, u2]) (fun H locs hB => ?_)
        have hB : jB G A s_.heap (sr (remI I O z nd nm) 0 (upd ((remI I O z nd nm) 0) (55 + mm) ((((remI I O z nd nm) 0) (55 + mm)) ||| ((nI 1) <<< ((nI dd) &&& 31)))), J, remO O z) H locs := by rw [show sr (remI I O z nd nm) 0 (upd ((remI I O z nd nm) 0) (55 + mm) ((((remI I O z nd nm) 0) (55 + mm)) ||| ((nI 1) <<< ((nI dd) &&& 31)))) = u2 (remI I O z nd nm) 0 (55 + mm) ((((remI I O z nd nm) 0) (55 + mm)) ||| ((nI 1) <<< ((nI dd) &&& 31))) from (u2_eq _ _ _ _).symm]; exact hB
        refine lv_aload_n hx hb dX7_whisper_62 rfl (lv_at hl 0 rfl) ?_
        refine j_getN (5, 0, mm) 4 (v := .int ((sr (remI I O z nd nm) 0 (upd ((remI I O z nd nm) 0) (55 + mm) ((((remI I O z nd nm) 0) (55 + mm)) ||| ((nI 1) <<< ((nI dd) &&& 31))))) 0 (55 + mm))) hC hB in_X3 ln_137 dX7_whisper_63 (jk5 (by omega) (by omega)) rfl rfl (by decide) rfl ?_
        refine j_eqi (x := (sr (remI I O z nd nm) 0 (upd ((remI I O z nd nm) 0) (55 + mm) ((((remI I O z nd nm) 0) (55 + mm)) ||| ((nI 1) <<< ((nI dd) &&& 31))))) 0 (55 + mm)) (y := (((remI I O z nd nm) 0) (55 + mm)) ||| ((nI 1) <<< ((nI dd) &&& 31))) ((congrFun sr_self _).trans (pk_us)) ?_
        exact j_iret hC hB dX7_whisper_66 (⟨by simp [whiCA, whiCS, bitI, tN, nIc (show mm < 2147483648 by omega), nIc (show dd < 2147483648 by omega), remI_0 hO hz, c_5, c_13, c_33], by simp [whiCA, whiCS, bitI, tN, nIc (show mm < 2147483648 by omega), nIc (show dd < 2147483648 by omega), remI_0 hO hz, c_5, c_13, c_33]⟩)
      · refine lv_bipush (v := (-2 : Int32)) hx hb dX7_whisper_36 (by decide) ?_
        exact j_iret hC hB dX7_whisper_38 (⟨by simp [whiCA, whiCS, bitI, tN, nIc (show mm < 2147483648 by omega), nIc (show dd < 2147483648 by omega), remI_0 hO hz, c_5, c_13, c_33], by simp [whiCA, whiCS, bitI, tN, nIc (show mm < 2147483648 by omega), nIc (show dd < 2147483648 by omega), remI_0 hO hz, c_5, c_13, c_33]⟩)
    · refine lv_iconst (v := (-1 : Int32)) hx hb dX7_whisper_16 (by decide) ?_
      exact j_iret hC hB dX7_whisper_17 (⟨by simp [whiCA, whiCS, bitI, c_5, c_13], by simp [whiCA, whiCS, bitI, c_5, c_13]⟩)

set_option maxHeartbeats 4000000 in
set_option maxRecDepth 100000 in
theorem c_X7_set (l_ : Launch) (G : jG) (I : Nat → Nat → Int32) (J : Nat → Nat → Int64) (O : Nat → Nat → Nat) (door sort hard : Int32) {nd : Nat} (hnd : nd ≤ 10) (hD : I 0 0 = nI nd) {nm : Nat} (hnm : nm ≤ 4) (hM : I 0 1 = nI nm) {z : Nat} (hz : z ≤ 8) (hZ : I 21 0 = nI z) (hO : okO O) : jMi l_ G yX7_set wsX7_set ({ frames := 3, cells := 0, slots := 0, locals := 64 }) [.ref (G.2.2.1 (0, 0, 0)), .int door, .int sort, .int hard] (I, J, O) (fun r u => r = setCA (I 0) nd door sort hard ∧ u = setCS I J O z nd nm door sort hard) := by
  refine jMi_of (cc := cX7_set) (maxL := 6) (ret := (some .int)) (lv0 := [(0, .ref (G.2.2.1 (0, 0, 0))), (1, .int door), (2, .int sort), (3, .int hard)]) (by decide) rfl (Nat.le_of_ble_eq_true rfl) rfl ?_
  intro pg_ ev_ s_ mi_ below meth cd_ A ls hC hB hl
  obtain ⟨hx, hb, hr, hml, hown, hts, hlocks, hK, hA⟩ := id hC
  have lk_19 := hts (.fieldLink RX7 19 "RiddlePrison" "history" "LRiddlePrison$History;") (by decide +kernel)
  have lk_10 := hts (.fieldLink RX7 10 "RiddlePrison" "now" "LRiddlePrison$Prison;") (by decide +kernel)
  have ln_93 := (by decide +kernel : Cond.fieldLinkNest RX7 93 "RiddlePrison$Prison" "doors" "[LRiddlePrison$Door;" "RiddlePrison" ∈ nsW)
  have ln_108 := (by decide +kernel : Cond.fieldLinkNest RX7 108 "RiddlePrison$Door" "hard" "I" "RiddlePrison" ∈ nsW)
  have ln_105 := (by decide +kernel : Cond.fieldLinkNest RX7 105 "RiddlePrison$Door" "sort" "I" "RiddlePrison" ∈ nsW)
  have in_X7 := (fun w h => List.mem_cons_of_mem _ (List.mem_append_left _ (List.mem_append_left _ (List.mem_append_left _ (List.mem_append_left _ (List.mem_append_right _ h))))) : ∀ w ∈ wsX70, w ∈ wsX7_set)
  have in_X4 := (fun w h => List.mem_cons_of_mem _ (List.mem_append_left _ (List.mem_append_left _ (List.mem_append_left _ (List.mem_append_right _ h)))) : ∀ w ∈ wsX40, w ∈ wsX7_set)
  have in_X0 := (fun w h => List.mem_cons_of_mem _ (List.mem_append_left _ (List.mem_append_left _ (List.mem_append_right _ h))) : ∀ w ∈ wsX00, w ∈ wsX7_set)
  refine lv_aload_n hx hb dX7_set_0 rfl (lv_at hl 0 rfl) ?_
  refine lv_iload_n hx hb dX7_set_1 rfl (lv_at hl 1 rfl) ?_
  refine j_cvi (0, 0, 0) [.int door] hC hB hl.1 (c_X7_isDoor l_ G I J O door (by omega) (hD)) (cwV 1 hts gX7_set_X7_isDoor rfl rfl rfl (by decide +kernel) ⟨by decide, by decide⟩) dX7_set_2 jk0 rfl rfl rfl rfl (Nat.le_of_ble_eq_true rfl) (fun r_2 u_2 H locs hp_2 hB => ?_)
  obtain ⟨rfl, rfl⟩ := hp_2
  refine jb_if_eq (tgt := 16) hx hb dX7_set_5 (by decide) (fun c_5 => ?_) (fun c_5 => ?_)
  · refine lv_iconst (v := (-1 : Int32)) hx hb dX7_set_16 (by decide) ?_
    exact j_iret hC hB dX7_set_17 (⟨by simp [setCA, setCS, c_5], by simp [setCA, setCS, c_5]⟩)
  · obtain ⟨dd, hdd, rfl⟩ := isB_nat c_5 (by omega)
    refine lv_iload_n hx hb dX7_set_8 rfl (lv_at hl 2 rfl) ?_
    refine lv_iload_n hx hb dX7_set_9 rfl (lv_at hl 3 rfl) ?_
    refine j_csi [.int sort, .int hard] hC hB hl.1 (c_X7_isQuestion l_ G I J O sort hard) (va_cwS 2 hts gX7_set_X7_isQuestion rfl rfl rfl (by decide +kernel) ⟨by decide, by decide⟩) dX7_set_10 rfl rfl (Nat.le_of_ble_eq_true rfl) (fun r_10 u_10 H locs hp_10 hB => ?_)
    obtain ⟨rfl, rfl⟩ := hp_10
    refine jb_if_ne (tgt := 18) hx hb dX7_set_13 (by decide) (fun c_13 => ?_) (fun c_13 => ?_)
    · refine lv_aload_n hx hb dX7_set_18 rfl (lv_at hl 0 rfl) ?_
      refine j_get (0, 0, 0) 1 (v := .ref (G.2.2.1 (7, 0, 0))) hC hB in_X7 lk_19 dX7_set_19 jk0 rfl rfl (by decide) rfl ?_
      refine lv_aload_n hx hb dX7_set_22 rfl (lv_at hl 0 rfl) ?_
      refine j_get (0, 0, 0) 0 (v := .ref (G.2.2.1 (1, 0, 0))) hC hB in_X7 lk_10 dX7_set_23 jk0 rfl rfl (by decide) rfl ?_
      refine j_cvv (7, 0, 0) [.ref (G.2.2.1 (1, 0, 0))] hC hB hl.1 (c_X2_remember l_ G I J O (by omega) (hD) (by omega) (hM) (by omega) (hZ) (hO)) (cwV 1 hts gX7_set_X2_remember rfl rfl rfl (by decide +kernel) ⟨by decide, by decide⟩) dX7_set_26 (jk7 (by omega)) rfl rfl rfl rfl (Nat.le_of_ble_eq_true rfl) (fun u_26 H locs hp_26 hB => ?_)
      obtain rfl := hp_26
      have hB : jB G A s_.heap (remI I O z nd nm, J, remO O z) H locs := hB
      refine lv_aload_n hx hb dX7_set_29 rfl (lv_at hl 0 rfl) ?_
      refine j_get (0, 0, 0) 0 (v := .ref (G.2.2.1 (1, 0, 0))) hC hB in_X7 lk_10 dX7_set_30 jk0 rfl rfl (by decide) rfl ?_
      refine j_getN (1, 0, 0) 0 (v := .ref (G.2.2.1 (2, 0, 0))) hC hB in_X4 ln_93 dX7_set_33 (jk1 (by omega)) rfl rfl (by decide) rfl ?_
      refine lv_iload_n hx hb dX7_set_36 rfl (lv_at hl 1 rfl) ?_
      refine j_ald (2, 0, 0) (4, 0, dd) 3 dd hC hB dX7_set_37 (jk2 (by omega)) rfl rfl rfl (by omega) (by decide) rfl ?_
      refine lv_astore (lv' := [(4, .ref (G.2.2.1 (4, 0, dd))), (0, .ref (G.2.2.1 (0, 0, 0))), (1, .int (nI dd)), (2, .int sort), (3, .int hard)]) hx hb dX7_set_38 hl (by decide) rfl (fun ls hl => ?_)
      refine lv_aload hx hb dX7_set_40 (lv_at hl 0 rfl) ?_
      refine j_getN (4, 0, dd) 3 (v := .int ((remI I O z nd nm) 0 (41 + dd))) hC hB in_X0 ln_108 dX7_set_42 (jk4 (by omega) (by omega)) rfl rfl (by decide) rfl ?_
      refine lv_istore (lv' := [(5, .int (((remI I O z nd nm) 0) (41 + dd))), (4, .ref (G.2.2.1 (4, 0, dd))), (0, .ref (G.2.2.1 (0, 0, 0))), (1, .int (nI dd)), (2, .int sort), (3, .int hard)]) hx hb dX7_set_45 hl (by decide) rfl (fun ls hl => ?_)
      refine lv_aload hx hb dX7_set_47 (lv_at hl 1 rfl) ?_
      refine lv_iload_n hx hb dX7_set_49 rfl (lv_at hl 4 rfl) ?_
      refine j_putN (4, 0, dd) 2 (u2 (remI I O z nd nm) 0 (31 + dd) sort, J, remO O z) (ty := .int) hC hB in_X0 tyX0_ok nmX0 ln_105 dX7_set_50 (jk4 (by omega) (by omega)) rfl rfl (by decide) rfl (by decide +kernel) rfl rfl (Nat.le_of_ble_eq_true rfl) (fun z hz hne => jw_fr z hz (by rw [jof_d31 (by omega) (by omega)]; exact hne)) (by simp [jw, u2]) (fun H locs hB => ?_)
      have hB : jB G A s_.heap (sr (remI I O z nd nm) 0 (upd ((remI I O z nd nm) 0) (31 + dd) sort), J, remO O z) H locs := by rw [show sr (remI I O z nd nm) 0 (upd ((remI I O z nd nm) 0) (31 + dd) sort) = u2 (remI I O z nd nm) 0 (31 + dd) sort from (u2_eq _ _ _ _).symm]; exact hB
      refine lv_aload hx hb dX7_set_53 (lv_at hl 1 rfl) ?_
      refine lv_iload_n hx hb dX7_set_55 rfl (lv_at hl 5 rfl) ?_
      refine j_putN (4, 0, dd) 3 (u2 (sr (remI I O z nd nm) 0 (upd ((remI I O z nd nm) 0) (31 + dd) sort)) 0 (41 + dd) hard, J, remO O z) (ty := .int) hC hB in_X0 tyX0_ok nmX0 ln_108 dX7_set_56 (jk4 (by omega) (by omega)) rfl rfl (by decide) rfl (by decide +kernel) rfl rfl (Nat.le_of_ble_eq_true rfl) (fun z hz hne => jw_fr z hz (by rw [jof_d41 (by omega) (by omega)]; exact hne)) (by simp [jw, u2]) (fun H locs hB => ?_)
      have hB : jB G A s_.heap (sr (remI I O z nd nm) 0 (upd (upd ((remI I O z nd nm) 0) (31 + dd) sort) (41 + dd) hard), J, remO O z) H locs := by rw [show sr (remI I O z nd nm) 0 (upd (upd ((remI I O z nd nm) 0) (31 + dd) sort) (41 + dd) hard) = u2 (sr (remI I O z nd nm) 0 (upd ((remI I O z nd nm) 0) (31 + dd) sort)) 0 (41 + dd) hard from (u2_sr _ _ _ _ _).symm]; exact hB
      refine lv_aload_n hx hb dX7_set_59 rfl (lv_at hl 2 rfl) ?_
      refine j_get (0, 0, 0) 0 (v := .ref (G.2.2.1 (1, 0, 0))) hC hB in_X7 lk_10 dX7_set_60 jk0 rfl rfl (by decide) rfl ?_
      refine lv_iload_n hx hb dX7_set_63 rfl (lv_at hl 3 rfl) ?_
      refine j_cvv (1, 0, 0) [.int (nI dd)] hC hB hl.1 (c_X4_letForget l_ G (sr (remI I O z nd nm) 0 (upd (upd ((remI I O z nd nm) 0) (31 + dd) sort) (41 + dd) hard)) J (remO O z) 0 dd (by omega) (by omega) ((congrFun sr_self _).trans ((pk_un (show (1 : Nat) ≠ 41 + dd by omega)).trans ((pk_un (show (1 : Nat) ≠ 31 + dd by omega)).trans ((congrFun (remI_0 hO (by omega)) 1).trans (hM)))))) (cwV 1 hts gX7_set_X4_letForget rfl rfl rfl (by decide +kernel) ⟨by decide, by decide⟩) dX7_set_64 (jk1 (by omega)) rfl rfl rfl rfl (Nat.le_of_ble_eq_true rfl) (fun u_64 H locs hp_64 hB => ?_)
      obtain rfl := hp_64
      have hB : jB G A s_.heap (sr (remI I O z nd nm) 0 (fgR (upd (upd ((remI I O z nd nm) 0) (31 + dd) sort) (41 + dd) hard) dd nm), J, remO O z) H locs := by rw [show sr (remI I O z nd nm) 0 (fgR (upd (upd ((remI I O z nd nm) 0) (31 + dd) sort) (41 + dd) hard) dd nm) = sr (sr (remI I O z nd nm) 0 (upd (upd ((remI I O z nd nm) 0) (31 + dd) sort) (41 + dd) hard)) 0 (fgR (upd (upd ((remI I O z nd nm) 0) (31 + dd) sort) (41 + dd) hard) dd nm) from by funext a; simp +decide only [sr]; (repeat' split) <;> first | rfl | (exfalso; omega) | (subst_vars; rfl)]; exact hB
      refine lv_iload hx hb dX7_set_67 (lv_at hl 0 rfl) ?_
      exact j_iret hC hB dX7_set_69 (⟨by simp [setCA, setCS, tN, nIc (show dd < 2147483648 by omega), remI_0 hO hz, c_5, c_13], by simp [setCA, setCS, tN, nIc (show dd < 2147483648 by omega), remI_0 hO hz, c_5, c_13]⟩)
    · refine lv_iconst (v := (-1 : Int32)) hx hb dX7_set_16 (by decide) ?_
      exact j_iret hC hB dX7_set_17 (⟨by simp [setCA, setCS, c_5, c_13], by simp [setCA, setCS, c_5, c_13]⟩)

set_option maxHeartbeats 4000000 in
set_option maxRecDepth 100000 in
theorem c_X7_study (l_ : Launch) (G : jG) (I : Nat → Nat → Int32) (J : Nat → Nat → Int64) (O : Nat → Nat → Nat) (man : Int32) {nd : Nat} (hnd : nd ≤ 10) (hD : I 0 0 = nI nd) {nm : Nat} (hnm : nm ≤ 4) (hM : I 0 1 = nI nm) {z : Nat} (hz : z ≤ 8) (hZ : I 21 0 = nI z) (hO : okO O) : jMi l_ G yX7_study wsX7_study ({ frames := 3, cells := 0, slots := 0, locals := 64 }) [.ref (G.2.2.1 (0, 0, 0)), .int man] (I, J, O) (fun r u => r = stuCA (I 0) nm man ∧ u = stuCS I J O z nd nm man) := by
  refine jMi_of (cc := cX7_study) (maxL := 3) (ret := (some .int)) (lv0 := [(0, .ref (G.2.2.1 (0, 0, 0))), (1, .int man)]) (by decide) rfl (Nat.le_of_ble_eq_true rfl) rfl ?_
  intro pg_ ev_ s_ mi_ below meth cd_ A ls hC hB hl
  obtain ⟨hx, hb, hr, hml, hown, hts, hlocks, hK, hA⟩ := id hC
  have lk_10 := hts (.fieldLink RX7 10 "RiddlePrison" "now" "LRiddlePrison$Prison;") (by decide +kernel)
  have ln_121 := (by decide +kernel : Cond.fieldLinkNest RX7 121 "RiddlePrison$Prison" "men" "[LRiddlePrison$Man;" "RiddlePrison" ∈ nsW)
  have ln_128 := (by decide +kernel : Cond.fieldLinkNest RX7 128 "RiddlePrison$Man" "wit" "I" "RiddlePrison" ∈ nsW)
  have lk_19 := hts (.fieldLink RX7 19 "RiddlePrison" "history" "LRiddlePrison$History;") (by decide +kernel)
  have in_X7 := (fun w h => List.mem_cons_of_mem _ (List.mem_append_left _ (List.mem_append_left _ (List.mem_append_left _ (List.mem_append_left _ (List.mem_append_right _ h))))) : ∀ w ∈ wsX70, w ∈ wsX7_study)
  have in_X4 := (fun w h => List.mem_cons_of_mem _ (List.mem_append_left _ (List.mem_append_left _ (List.mem_append_left _ (List.mem_append_right _ h)))) : ∀ w ∈ wsX40, w ∈ wsX7_study)
  have in_X3 := (fun w h => List.mem_cons_of_mem _ (List.mem_append_left _ (List.mem_append_left _ (List.mem_append_right _ h))) : ∀ w ∈ wsX30, w ∈ wsX7_study)
  refine lv_aload_n hx hb dX7_study_0 rfl (lv_at hl 0 rfl) ?_
  refine lv_iload_n hx hb dX7_study_1 rfl (lv_at hl 1 rfl) ?_
  refine j_cvi (0, 0, 0) [.int man] hC hB hl.1 (c_X7_isMan l_ G I J O man (by omega) (hM)) (cwV 1 hts gX7_study_X7_isMan rfl rfl rfl (by decide +kernel) ⟨by decide, by decide⟩) dX7_study_2 jk0 rfl rfl rfl rfl (Nat.le_of_ble_eq_true rfl) (fun r_2 u_2 H locs hp_2 hB => ?_)
  obtain ⟨rfl, rfl⟩ := hp_2
  refine jb_if_ne (tgt := 10) hx hb dX7_study_5 (by decide) (fun c_5 => ?_) (fun c_5 => ?_)
  · obtain ⟨mm, hmm, rfl⟩ := isB_nat c_5 (by omega)
    refine lv_aload_n hx hb dX7_study_10 rfl (lv_at hl 0 rfl) ?_
    refine j_get (0, 0, 0) 0 (v := .ref (G.2.2.1 (1, 0, 0))) hC hB in_X7 lk_10 dX7_study_11 jk0 rfl rfl (by decide) rfl ?_
    refine j_getN (1, 0, 0) 1 (v := .ref (G.2.2.1 (3, 0, 0))) hC hB in_X4 ln_121 dX7_study_14 (jk1 (by omega)) rfl rfl (by decide) rfl ?_
    refine lv_iload_n hx hb dX7_study_17 rfl (lv_at hl 1 rfl) ?_
    refine j_ald (3, 0, 0) (5, 0, mm) 4 mm hC hB dX7_study_18 (jk3 (by omega)) rfl rfl rfl (by omega) (by decide) rfl ?_
    refine lv_astore_n (lv' := [(2, .ref (G.2.2.1 (5, 0, mm))), (0, .ref (G.2.2.1 (0, 0, 0))), (1, .int (nI mm))]) hx hb dX7_study_19 rfl hl (by decide) rfl (fun ls hl => ?_)
    refine lv_aload_n hx hb dX7_study_20 rfl (lv_at hl 0 rfl) ?_
    refine j_getN (5, 0, mm) 1 (v := .int (I 0 (63 + mm))) hC hB in_X3 ln_128 dX7_study_21 (jk5 (by omega) (by omega)) rfl rfl (by decide) rfl ?_
    refine lv_bipush (v := nI 9) hx hb dX7_study_24 (by decide) ?_
    refine lv_icmp_lt (tgt := 32) hx hb dX7_study_26 (by decide) (fun c_26 => ?_) (fun c_26 => ?_)
    · refine lv_aload_n hx hb dX7_study_32 rfl (lv_at hl 1 rfl) ?_
      refine j_get (0, 0, 0) 1 (v := .ref (G.2.2.1 (7, 0, 0))) hC hB in_X7 lk_19 dX7_study_33 jk0 rfl rfl (by decide) rfl ?_
      refine lv_aload_n hx hb dX7_study_36 rfl (lv_at hl 1 rfl) ?_
      refine j_get (0, 0, 0) 0 (v := .ref (G.2.2.1 (1, 0, 0))) hC hB in_X7 lk_10 dX7_study_37 jk0 rfl rfl (by decide) rfl ?_
      refine j_cvv (7, 0, 0) [.ref (G.2.2.1 (1, 0, 0))] hC hB hl.1 (c_X2_remember l_ G I J O (by omega) (hD) (by omega) (hM) (by omega) (hZ) (hO)) (cwV 1 hts gX7_study_X2_remember rfl rfl rfl (by decide +kernel) ⟨by decide, by decide⟩) dX7_study_40 (jk7 (by omega)) rfl rfl rfl rfl (Nat.le_of_ble_eq_true rfl) (fun u_40 H locs hp_40 hB => ?_)
      obtain rfl := hp_40
      have hB : jB G A s_.heap (remI I O z nd nm, J, remO O z) H locs := hB
      refine lv_aload_n hx hb dX7_study_43 rfl (lv_at hl 0 rfl) ?_
      refine lv_dup hx hb dX7_study_44 rfl ?_
      refine j_getN (5, 0, mm) 1 (v := .int ((remI I O z nd nm) 0 (63 + mm))) hC hB in_X3 ln_128 dX7_study_45 (jk5 (by omega) (by omega)) rfl rfl (by decide) rfl ?_
      refine lv_iconst (v := nI 1) hx hb dX7_study_48 (by decide) ?_
      refine lv_iadd hx hb dX7_study_49 ?_
      refine j_putN (5, 0, mm) 1 (u2 (remI I O z nd nm) 0 (63 + mm) ((((remI I O z nd nm) 0) (63 + mm)) + (nI 1)), J, remO O z) (ty := .int) hC hB in_X3 tyX3_ok nmX3 ln_128 dX7_study_50 (jk5 (by omega) (by omega)) rfl rfl (by decide) rfl (by decide +kernel) rfl rfl (Nat.le_of_ble_eq_true rfl) (fun z hz hne => jw_fr z hz (by rw [jof_m63 (by omega) (by omega)]; exact hne)) (by simp [jw, u2]) (fun H locs hB => ?_)
      have hB : jB G A s_.heap (sr (remI I O z nd nm) 0 (upd ((remI I O z nd nm) 0) (63 + mm) ((((remI I O z nd nm) 0) (63 + mm)) + (nI 1))), J, remO O z) H locs := by rw [show sr (remI I O z nd nm) 0 (upd ((remI I O z nd nm) 0) (63 + mm) ((((remI I O z nd nm) 0) (63 + mm)) + (nI 1))) = u2 (remI I O z nd nm) 0 (63 + mm) ((((remI I O z nd nm) 0) (63 + mm)) + (nI 1)) from (u2_eq _ _ _ _).symm]; exact hB
      refine lv_aload_n hx hb dX7_study_53 rfl (lv_at hl 0 rfl) ?_
      refine j_getN (5, 0, mm) 1 (v := .int ((sr (remI I O z nd nm) 0 (upd ((remI I O z nd nm) 0) (63 + mm) ((((remI I O z nd nm) 0) (63 + mm)) + (nI 1)))) 0 (63 + mm))) hC hB in_X3 ln_128 dX7_study_54 (jk5 (by omega) (by omega)) rfl rfl (by decide) rfl ?_
      refine j_eqi (x := (sr (remI I O z nd nm) 0 (upd ((remI I O z nd nm) 0) (63 + mm) ((((remI I O z nd nm) 0) (63 + mm)) + (nI 1)))) 0 (63 + mm)) (y := (((remI I O z nd nm) 0) (63 + mm)) + (nI 1)) ((congrFun sr_self _).trans (pk_us)) ?_
      exact j_iret hC hB dX7_study_57 (⟨by simp [stuCA, stuCS, tN, nIc (show mm < 2147483648 by omega), remI_0 hO hz, c_5, c_26], by simp [stuCA, stuCS, tN, nIc (show mm < 2147483648 by omega), remI_0 hO hz, c_5, c_26]⟩)
    · refine lv_bipush (v := (-2 : Int32)) hx hb dX7_study_29 (by decide) ?_
      exact j_iret hC hB dX7_study_31 (⟨by simp [stuCA, stuCS, tN, nIc (show mm < 2147483648 by omega), remI_0 hO hz, c_5, c_26], by simp [stuCA, stuCS, tN, nIc (show mm < 2147483648 by omega), remI_0 hO hz, c_5, c_26]⟩)
  · refine lv_iconst (v := (-1 : Int32)) hx hb dX7_study_8 (by decide) ?_
    exact j_iret hC hB dX7_study_9 (⟨by simp [stuCA, stuCS, c_5], by simp [stuCA, stuCS, c_5]⟩)

set_option maxHeartbeats 4000000 in
set_option maxRecDepth 100000 in
theorem c_X7_seed (l_ : Launch) (G : jG) (I : Nat → Nat → Int32) (J : Nat → Nat → Int64) (O : Nat → Nat → Nat) (v : Int32) : jMi l_ G yX7_seed wsX7_seed ({ frames := 0, cells := 0, slots := 0, locals := 0 }) [.ref (G.2.2.1 (0, 0, 0)), .int v] (I, J, O) (fun r u => r = seeA (I 0) v ∧ u = (sr I 0 (seeR (I 0) v), J, O)) := by
  refine jMi_of (cc := cX7_seed) (maxL := 3) (ret := (some .int)) (lv0 := [(0, .ref (G.2.2.1 (0, 0, 0))), (1, .int v)]) (by decide) rfl (Nat.le_of_ble_eq_true rfl) rfl ?_
  intro pg_ ev_ s_ mi_ below meth cd_ A ls hC hB hl
  obtain ⟨hx, hb, hr, hml, hown, hts, hlocks, hK, hA⟩ := id hC
  have lk_10 := hts (.fieldLink RX7 10 "RiddlePrison" "now" "LRiddlePrison$Prison;") (by decide +kernel)
  have ln_165 := (by decide +kernel : Cond.fieldLinkNest RX7 165 "RiddlePrison$Prison" "draw" "I" "RiddlePrison" ∈ nsW)
  have in_X7 := (fun w h => List.mem_cons_of_mem _ (List.mem_append_left _ (List.mem_append_right _ h)) : ∀ w ∈ wsX70, w ∈ wsX7_seed)
  have in_X4 := (fun w h => List.mem_cons_of_mem _ (List.mem_append_right _ h) : ∀ w ∈ wsX40, w ∈ wsX7_seed)
  refine lv_iload_n hx hb dX7_seed_0 rfl (lv_at hl 1 rfl) ?_
  refine lv_if_ge (tgt := 6) hx hb dX7_seed_1 (by decide) (fun c_1 => ?_) (fun c_1 => ?_)
  · refine lv_aload_n hx hb dX7_seed_6 rfl (lv_at hl 0 rfl) ?_
    refine j_get (0, 0, 0) 0 (v := .ref (G.2.2.1 (1, 0, 0))) hC hB in_X7 lk_10 dX7_seed_7 jk0 rfl rfl (by decide) rfl ?_
    refine j_getN (1, 0, 0) 4 (v := .int (I 0 67)) hC hB in_X4 ln_165 dX7_seed_10 (jk1 (by omega)) rfl rfl (by decide) rfl ?_
    refine lv_istore_n (lv' := [(2, .int ((I 0) 67)), (0, .ref (G.2.2.1 (0, 0, 0))), (1, .int v)]) hx hb dX7_seed_13 rfl hl (by decide) rfl (fun ls hl => ?_)
    refine lv_aload_n hx hb dX7_seed_14 rfl (lv_at hl 1 rfl) ?_
    refine j_get (0, 0, 0) 0 (v := .ref (G.2.2.1 (1, 0, 0))) hC hB in_X7 lk_10 dX7_seed_15 jk0 rfl rfl (by decide) rfl ?_
    refine lv_iload_n hx hb dX7_seed_18 rfl (lv_at hl 2 rfl) ?_
    refine j_putN (1, 0, 0) 4 (u2 I 0 67 v, J, O) (ty := .int) hC hB in_X4 tyX4_ok nmX4 ln_165 dX7_seed_19 (jk1 (by omega)) rfl rfl (by decide) rfl (by decide +kernel) rfl rfl (Nat.le_of_ble_eq_true rfl) (fun z hz hne => jw_fr z hz (by rw [jof_p67 (by omega)]; exact hne)) (by simp [jw, u2]) (fun H locs hB => ?_)
    have hB : jB G A s_.heap (sr I 0 (upd (I 0) 67 v), J, O) H locs := by rw [show sr I 0 (upd (I 0) 67 v) = u2 I 0 67 v from (u2_eq _ _ _ _).symm]; exact hB
    refine lv_iload_n hx hb dX7_seed_22 rfl (lv_at hl 0 rfl) ?_
    exact j_iret hC hB dX7_seed_23 (⟨by simp [seeA, c_1], by simp [seeR, sr_id, c_1]⟩)
  · refine lv_iconst (v := (-1 : Int32)) hx hb dX7_seed_4 (by decide) ?_
    exact j_iret hC hB dX7_seed_5 (⟨by simp [seeA, c_1], by simp [seeR, sr_id, c_1]⟩)

set_option maxHeartbeats 4000000 in
set_option maxRecDepth 100000 in
theorem c_X7_drift (l_ : Launch) (G : jG) (I : Nat → Nat → Int32) (J : Nat → Nat → Int64) (O : Nat → Nat → Nat) (n : Int32) {nd : Nat} (hnd : nd ≤ 10) (hD : I 0 0 = nI nd) {nm : Nat} (hnm : nm ≤ 4) (hM : I 0 1 = nI nm) {z : Nat} (hz : z ≤ 8) (hZ : I 21 0 = nI z) (hO : okO O) : jMi l_ G yX7_drift wsX7_drift ({ frames := 5, cells := 0, slots := 0, locals := 118 }) [.ref (G.2.2.1 (0, 0, 0)), .int n] (I, J, O) (fun r u => r = driCA I O z nd nm n ∧ u = driCS I J O z nd nm n) := by
  refine jMi_of (cc := cX7_drift) (maxL := 3) (ret := (some .int)) (lv0 := [(0, .ref (G.2.2.1 (0, 0, 0))), (1, .int n)]) (by decide) rfl (Nat.le_of_ble_eq_true rfl) rfl ?_
  intro pg_ ev_ s_ mi_ below meth cd_ A ls hC hB hl
  obtain ⟨hx, hb, hr, hml, hown, hts, hlocks, hK, hA⟩ := id hC
  have lk_10 := hts (.fieldLink RX7 10 "RiddlePrison" "now" "LRiddlePrison$Prison;") (by decide +kernel)
  have lk_19 := hts (.fieldLink RX7 19 "RiddlePrison" "history" "LRiddlePrison$History;") (by decide +kernel)
  have in_X7 := (fun w h => List.mem_cons_of_mem _ (List.mem_append_left _ (List.mem_append_left _ (List.mem_append_left _ (List.mem_append_left _ (List.mem_append_right _ h))))) : ∀ w ∈ wsX70, w ∈ wsX7_drift)
  refine lv_iload_n hx hb dX7_drift_0 rfl (lv_at hl 1 rfl) ?_
  refine lv_iconst (v := nI 1) hx hb dX7_drift_1 (by decide) ?_
  refine lv_icmp_lt (tgt := 11) hx hb dX7_drift_2 (by decide) (fun c_2 => ?_) (fun c_2 => ?_)
  · refine lv_iconst (v := (-1 : Int32)) hx hb dX7_drift_11 (by decide) ?_
    exact j_iret hC hB dX7_drift_12 (⟨by simp [driCA, drB, c_2], by simp [driCS, drB, c_2]⟩)
  · refine lv_iload_n hx hb dX7_drift_5 rfl (lv_at hl 1 rfl) ?_
    refine lv_bipush (v := nI 40) hx hb dX7_drift_6 (by decide) ?_
    refine lv_icmp_le (tgt := 13) hx hb dX7_drift_8 (by decide) (fun c_8 => ?_) (fun c_8 => ?_)
    · obtain ⟨nn, hnn, rfl⟩ := n40 c_2 c_8
      refine lv_iconst (v := nI 0) hx hb dX7_drift_13 (by decide) ?_
      refine lv_istore_n (lv' := [(2, .int (nI 0)), (0, .ref (G.2.2.1 (0, 0, 0))), (1, .int (nI nn))]) hx hb dX7_drift_14 rfl hl (by decide) rfl (fun ls hl => ?_)
      have lp_15 : ∀ (fu : Nat) (Iv : Nat → Nat → Int32) (Ov : Nat → Nat → Nat) (zz : Nat) (k : Nat), nn - k < fu → (k ≤ nn) → ((Iv, Ov, zz) = it (fun _ s => drCS nd nm s) k (I, O, z)) → (Iv 0 0 = nI nd) → (Iv 0 1 = nI nm) → (Iv 21 0 = nI zz) → (zz ≤ 8) → (okO Ov) → ∀ H locs ls, jB G A s_.heap (Iv, J, Ov) H locs → lv_has ls 3 [(2, .int (nI k)), (0, .ref (G.2.2.1 (0, 0, 0))), (1, .int (nI nn))] → W pg_ l_ ev_ ({ frames := 5, cells := 0, slots := 0, locals := 118 }) s_ mi_ ([.ref (G.2.2.1 (0, 0, 0)), .int (nI nn)]).toArray below meth cd_ H locs 0 0 (jQi G A below [.ref (G.2.2.1 (0, 0, 0)), .int (nI nn)] s_ (fun r u => r = driCA I O z nd nm (nI nn) ∧ u = driCS I J O z nd nm (nI nn))) (F0 mi_ 15 ls []) := by
        intro fu
        induction fu with
        | zero => intro Iv Ov zz k hf; exact absurd hf (Nat.not_lt_zero _)
        | succ fu ih_15 =>
          intro Iv Ov zz k hf_15 hk he h0 h1 hzz hz8 hOv H locs ls hB hl
          refine lv_iload_n hx hb dX7_drift_15 rfl (lv_at hl 0 rfl) ?_
          refine lv_iload_n hx hb dX7_drift_16 rfl (lv_at hl 2 rfl) ?_
          refine jn_icmp_ge (tgt := 44) hx hb dX7_drift_17 (by decide) (by omega) (by omega) (fun c_17 => ?_) (fun c_17 => ?_)
          · refine lv_aload_n hx hb dX7_drift_44 rfl (lv_at hl 1 rfl) ?_
            refine j_get (0, 0, 0) 0 (v := .ref (G.2.2.1 (1, 0, 0))) hC hB in_X7 lk_10 dX7_drift_45 jk0 rfl rfl (by decide) rfl ?_
            refine j_cvi (1, 0, 0) [] hC hB hl.1 (c_X4_failedTogether l_ G Iv J Ov 0 (by omega) (by omega) (h1)) (cwV 0 hts gX7_drift_X4_failedTogether rfl rfl rfl (by decide +kernel) ⟨by decide, by decide⟩) dX7_drift_48 (jk1 (by omega)) rfl rfl rfl rfl (Nat.le_of_ble_eq_true rfl) (fun r_48 u_48 H locs hp_48 hB => ?_)
            obtain ⟨rfl, rfl⟩ := hp_48
            exact j_iret hC hB dX7_drift_51 (⟨by have he2 := he; rw [show k = nn by omega] at he2; simp [driCA, drB, drCN, tN, nIc (show nn < 2147483648 by omega), ← he2, c_2, c_8], by have he2 := he; rw [show k = nn by omega] at he2; simp [driCS, drB, drCN, tN, nIc (show nn < 2147483648 by omega), ← he2, c_2, c_8]⟩)
          · refine lv_aload_n hx hb dX7_drift_20 rfl (lv_at hl 1 rfl) ?_
            refine j_get (0, 0, 0) 1 (v := .ref (G.2.2.1 (7, 0, 0))) hC hB in_X7 lk_19 dX7_drift_21 jk0 rfl rfl (by decide) rfl ?_
            refine lv_aload_n hx hb dX7_drift_24 rfl (lv_at hl 1 rfl) ?_
            refine j_get (0, 0, 0) 0 (v := .ref (G.2.2.1 (1, 0, 0))) hC hB in_X7 lk_10 dX7_drift_25 jk0 rfl rfl (by decide) rfl ?_
            refine j_cvv (7, 0, 0) [.ref (G.2.2.1 (1, 0, 0))] hC hB hl.1 (c_X2_remember l_ G Iv J Ov (by omega) (h0) (by omega) (h1) (by omega) (hzz) (hOv)) (cwV 1 hts gX7_drift_X2_remember rfl rfl rfl (by decide +kernel) ⟨by decide, by decide⟩) dX7_drift_28 (jk7 (by omega)) rfl rfl rfl rfl (Nat.le_of_ble_eq_true rfl) (fun u_28 H locs hp_28 hB => ?_)
            obtain rfl := hp_28
            have hB : jB G A s_.heap (remI Iv Ov zz nd nm, J, remO Ov zz) H locs := hB
            refine lv_aload_n hx hb dX7_drift_31 rfl (lv_at hl 1 rfl) ?_
            refine j_get (0, 0, 0) 0 (v := .ref (G.2.2.1 (1, 0, 0))) hC hB in_X7 lk_10 dX7_drift_32 jk0 rfl rfl (by decide) rfl ?_
            refine j_cvv (1, 0, 0) [] hC hB hl.1 (c_X4_driftOnce l_ G (remI Iv Ov zz nd nm) J (remO Ov zz) 0 (by omega) (by omega) ((congrFun (remI_0 hOv (by omega)) 0).trans (h0)) (by omega) ((congrFun (remI_0 hOv (by omega)) 1).trans (h1))) (cwV 0 hts gX7_drift_X4_driftOnce rfl rfl rfl (by decide +kernel) ⟨by decide, by decide⟩) dX7_drift_35 (jk1 (by omega)) rfl rfl rfl rfl (Nat.le_of_ble_eq_true rfl) (fun u_35 H locs hp_35 hB => ?_)
            obtain rfl := hp_35
            have hB : jB G A s_.heap (sr (remI Iv Ov zz nd nm) 0 (dwR ((remI Iv Ov zz nd nm) 0) nd nm), J, remO Ov zz) H locs := hB
            refine lv_iinc (v := nI (k + 1)) (lv' := [(2, .int (nI (k + 1))), (0, .ref (G.2.2.1 (0, 0, 0))), (1, .int (nI nn))]) hx hb dX7_drift_38 hl (k := 0) rfl (jn_inc _ 1) (by decide) rfl (fun ls hl => ?_)
            refine lv_goto (tgt := 15) hx hb dX7_drift_41 (by decide) ?_
            exact ih_15 (sr (remI Iv Ov zz nd nm) 0 (dwR ((remI Iv Ov zz nd nm) 0) nd nm)) (remO Ov zz) (remZ zz + 1) (k + 1) (by omega) (by omega) (by show _ = drCS nd nm (it _ k _); rw [← he]; simp [drCS, remI_0 hOv hz8]) (by rw [sr_self]; exact (dwR_lo (by decide) hnm).trans ((congrFun (remI_0 hOv hz8) 0).trans h0)) (by rw [sr_self]; exact (dwR_lo (by decide) hnm).trans ((congrFun (remI_0 hOv hz8) 1).trans h1)) (by rw [sr_ne (by decide)]; exact remI_21) (remZ_le hz8) (remO_ok hOv _) _ _ _ hB (lv_sub hl [0, 1, 2] rfl)
      exact lp_15 _ I O z 0 (Nat.lt_succ_self _) (Nat.zero_le _) (rfl) (hD) (hM) (hZ) (hz) (hO) _ _ _ hB (lv_sub hl [0, 1, 2] rfl)
    · refine lv_iconst (v := (-1 : Int32)) hx hb dX7_drift_11 (by decide) ?_
      exact j_iret hC hB dX7_drift_12 (⟨by simp [driCA, drB, c_2, c_8], by simp [driCS, drB, c_2, c_8]⟩)
