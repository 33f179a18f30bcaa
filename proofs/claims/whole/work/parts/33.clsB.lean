set_option maxHeartbeats 4000000 in
set_option maxRecDepth 100000 in
theorem c_X0_become (l_ : Launch) (G : jG) (I : Nat → Nat → Int32) (J : Nat → Nat → Int64) (O : Nat → Nat → Nat) (q d p e : Nat) (hq : jok (4, q, d)) (hp : jok (4, p, e)) (hne : p ≠ q) : jMv l_ G yX0_become wsX0_become ({ frames := 0, cells := 0, slots := 0, locals := 0 }) [.ref (G.2.2.1 (4, q, d)), .ref (G.2.2.1 (4, p, e))] (I, J, O) (fun u => u = (sr I q (dbR (I q) (I p) d e), J, O)) := by
  refine jMv_of (cc := cX0_become) (maxL := 2) (ret := none) (lv0 := [(0, .ref (G.2.2.1 (4, q, d))), (1, .ref (G.2.2.1 (4, p, e)))]) (by decide) rfl (Nat.le_of_ble_eq_true rfl) rfl ?_
  intro pg_ ev_ s_ mi_ below meth cd_ A ls hC hB hl
  obtain ⟨hx, hb, hr, hml, hown, hts, hlocks, hK, hA⟩ := id hC
  have lk_7 := hts (.fieldLink RX0 7 "RiddlePrison$Door" "first" "I") (by decide +kernel)
  have lk_13 := hts (.fieldLink RX0 13 "RiddlePrison$Door" "other" "I") (by decide +kernel)
  have lk_16 := hts (.fieldLink RX0 16 "RiddlePrison$Door" "sort" "I") (by decide +kernel)
  have lk_19 := hts (.fieldLink RX0 19 "RiddlePrison$Door" "hard" "I") (by decide +kernel)
  have in_X0 := (fun w h => List.mem_cons_of_mem _ (List.mem_append_right _ h) : ∀ w ∈ wsX00, w ∈ wsX0_become)
  have hqb : q < 19 ∧ d < 10 := hq
  refine lv_aload_n hx hb dX0_become_0 rfl (lv_at hl 0 rfl) ?_
  refine lv_aload_n hx hb dX0_become_1 rfl (lv_at hl 1 rfl) ?_
  refine j_get (4, p, e) 0 (v := .int (I p (11 + e))) hC hB in_X0 lk_7 dX0_become_2 hp rfl rfl (by decide) rfl ?_
  refine j_put (4, q, d) 0 (u2 I q (11 + d) ((I p) (11 + e)), J, O) (ty := .int) hC hB in_X0 tyX0_ok nmX0 lk_7 dX0_become_5 hq rfl rfl (by decide) rfl (by decide +kernel) rfl rfl (Nat.le_of_ble_eq_true rfl) (fun z hz hne => jw_fr z hz (by rw [jof_d11 (by omega) (by omega)]; exact hne)) (by simp [jw, u2]) (fun H locs hB => ?_)
  have hB : jB G A s_.heap (sr I q (upd (I q) (11 + d) ((I p) (11 + e))), J, O) H locs := by rw [show sr I q (upd (I q) (11 + d) ((I p) (11 + e))) = u2 I q (11 + d) ((I p) (11 + e)) from (u2_eq _ _ _ _).symm]; exact hB
  refine lv_aload_n hx hb dX0_become_8 rfl (lv_at hl 0 rfl) ?_
  refine lv_aload_n hx hb dX0_become_9 rfl (lv_at hl 1 rfl) ?_
  refine j_get (4, p, e) 1 (v := .int ((sr I q (upd (I q) (11 + d) ((I p) (11 + e)))) p (21 + e))) hC hB in_X0 lk_13 dX0_become_10 hp rfl rfl (by decide) rfl ?_
  refine j_eqi (x := (sr I q (upd (I q) (11 + d) ((I p) (11 + e)))) p (21 + e)) (y := (I p) (21 + e)) ((congrFun (sr_ne (show (p : Nat) ≠ q by omega)) _)) ?_
  refine j_put (4, q, d) 1 (u2 (sr I q (upd (I q) (11 + d) ((I p) (11 + e)))) q (21 + d) ((I p) (21 + e)), J, O) (ty := .int) hC hB in_X0 tyX0_ok nmX0 lk_13 dX0_become_13 hq rfl rfl (by decide) rfl (by decide +kernel) rfl rfl (Nat.le_of_ble_eq_true rfl) (fun z hz hne => jw_fr z hz (by rw [jof_d21 (by omega) (by omega)]; exact hne)) (by simp [jw, u2]) (fun H locs hB => ?_)
  have hB : jB G A s_.heap (sr I q (upd (upd (I q) (11 + d) ((I p) (11 + e))) (21 + d) ((I p) (21 + e))), J, O) H locs := by rw [show sr I q (upd (upd (I q) (11 + d) ((I p) (11 + e))) (21 + d) ((I p) (21 + e))) = u2 (sr I q (upd (I q) (11 + d) ((I p) (11 + e)))) q (21 + d) ((I p) (21 + e)) from (u2_sr _ _ _ _ _).symm]; exact hB
  refine lv_aload_n hx hb dX0_become_16 rfl (lv_at hl 0 rfl) ?_
  refine lv_aload_n hx hb dX0_become_17 rfl (lv_at hl 1 rfl) ?_
  refine j_get (4, p, e) 2 (v := .int ((sr I q (upd (upd (I q) (11 + d) ((I p) (11 + e))) (21 + d) ((I p) (21 + e)))) p (31 + e))) hC hB in_X0 lk_16 dX0_become_18 hp rfl rfl (by decide) rfl ?_
  refine j_eqi (x := (sr I q (upd (upd (I q) (11 + d) ((I p) (11 + e))) (21 + d) ((I p) (21 + e)))) p (31 + e)) (y := (I p) (31 + e)) ((congrFun (sr_ne (show (p : Nat) ≠ q by omega)) _)) ?_
  refine j_put (4, q, d) 2 (u2 (sr I q (upd (upd (I q) (11 + d) ((I p) (11 + e))) (21 + d) ((I p) (21 + e)))) q (31 + d) ((I p) (31 + e)), J, O) (ty := .int) hC hB in_X0 tyX0_ok nmX0 lk_16 dX0_become_21 hq rfl rfl (by decide) rfl (by decide +kernel) rfl rfl (Nat.le_of_ble_eq_true rfl) (fun z hz hne => jw_fr z hz (by rw [jof_d31 (by omega) (by omega)]; exact hne)) (by simp [jw, u2]) (fun H locs hB => ?_)
  have hB : jB G A s_.heap (sr I q (upd (upd (upd (I q) (11 + d) ((I p) (11 + e))) (21 + d) ((I p) (21 + e))) (31 + d) ((I p) (31 + e))), J, O) H locs := by rw [show sr I q (upd (upd (upd (I q) (11 + d) ((I p) (11 + e))) (21 + d) ((I p) (21 + e))) (31 + d) ((I p) (31 + e))) = u2 (sr I q (upd (upd (I q) (11 + d) ((I p) (11 + e))) (21 + d) ((I p) (21 + e)))) q (31 + d) ((I p) (31 + e)) from (u2_sr _ _ _ _ _).symm]; exact hB
  refine lv_aload_n hx hb dX0_become_24 rfl (lv_at hl 0 rfl) ?_
  refine lv_aload_n hx hb dX0_become_25 rfl (lv_at hl 1 rfl) ?_
  refine j_get (4, p, e) 3 (v := .int ((sr I q (upd (upd (upd (I q) (11 + d) ((I p) (11 + e))) (21 + d) ((I p) (21 + e))) (31 + d) ((I p) (31 + e)))) p (41 + e))) hC hB in_X0 lk_19 dX0_become_26 hp rfl rfl (by decide) rfl ?_
  refine j_eqi (x := (sr I q (upd (upd (upd (I q) (11 + d) ((I p) (11 + e))) (21 + d) ((I p) (21 + e))) (31 + d) ((I p) (31 + e)))) p (41 + e)) (y := (I p) (41 + e)) ((congrFun (sr_ne (show (p : Nat) ≠ q by omega)) _)) ?_
  refine j_put (4, q, d) 3 (u2 (sr I q (upd (upd (upd (I q) (11 + d) ((I p) (11 + e))) (21 + d) ((I p) (21 + e))) (31 + d) ((I p) (31 + e)))) q (41 + d) ((I p) (41 + e)), J, O) (ty := .int) hC hB in_X0 tyX0_ok nmX0 lk_19 dX0_become_29 hq rfl rfl (by decide) rfl (by decide +kernel) rfl rfl (Nat.le_of_ble_eq_true rfl) (fun z hz hne => jw_fr z hz (by rw [jof_d41 (by omega) (by omega)]; exact hne)) (by simp [jw, u2]) (fun H locs hB => ?_)
  have hB : jB G A s_.heap (sr I q (upd (upd (upd (upd (I q) (11 + d) ((I p) (11 + e))) (21 + d) ((I p) (21 + e))) (31 + d) ((I p) (31 + e))) (41 + d) ((I p) (41 + e))), J, O) H locs := by rw [show sr I q (upd (upd (upd (upd (I q) (11 + d) ((I p) (11 + e))) (21 + d) ((I p) (21 + e))) (31 + d) ((I p) (31 + e))) (41 + d) ((I p) (41 + e))) = u2 (sr I q (upd (upd (upd (I q) (11 + d) ((I p) (11 + e))) (21 + d) ((I p) (21 + e))) (31 + d) ((I p) (31 + e)))) q (41 + d) ((I p) (41 + e)) from (u2_sr _ _ _ _ _).symm]; exact hB
  exact j_vret hC hB dX0_become_32 (rfl)

set_option maxHeartbeats 4000000 in
set_option maxRecDepth 100000 in
theorem c_X3_become (l_ : Launch) (G : jG) (I : Nat → Nat → Int32) (J : Nat → Nat → Int64) (O : Nat → Nat → Nat) (q n p m : Nat) (hq : jok (5, q, n)) (hp : jok (5, p, m)) (hne : p ≠ q) : jMv l_ G yX3_become wsX3_become ({ frames := 0, cells := 0, slots := 0, locals := 0 }) [.ref (G.2.2.1 (5, q, n)), .ref (G.2.2.1 (5, p, m))] (I, J, O) (fun u => u = (sr I q (mbR (I q) (I p) n m), J, O)) := by
  refine jMv_of (cc := cX3_become) (maxL := 2) (ret := none) (lv0 := [(0, .ref (G.2.2.1 (5, q, n))), (1, .ref (G.2.2.1 (5, p, m)))]) (by decide) rfl (Nat.le_of_ble_eq_true rfl) rfl ?_
  intro pg_ ev_ s_ mi_ below meth cd_ A ls hC hB hl
  obtain ⟨hx, hb, hr, hml, hown, hts, hlocks, hK, hA⟩ := id hC
  have lk_7 := hts (.fieldLink RX3 7 "RiddlePrison$Man" "kind" "I") (by decide +kernel)
  have lk_13 := hts (.fieldLink RX3 13 "RiddlePrison$Man" "wit" "I") (by decide +kernel)
  have lk_16 := hts (.fieldLink RX3 16 "RiddlePrison$Man" "own" "I") (by decide +kernel)
  have lk_19 := hts (.fieldLink RX3 19 "RiddlePrison$Man" "cell" "I") (by decide +kernel)
  have lk_22 := hts (.fieldLink RX3 22 "RiddlePrison$Man" "known" "I") (by decide +kernel)
  have lk_25 := hts (.fieldLink RX3 25 "RiddlePrison$Man" "failed" "I") (by decide +kernel)
  have in_X3 := (fun w h => List.mem_cons_of_mem _ (List.mem_append_right _ h) : ∀ w ∈ wsX30, w ∈ wsX3_become)
  have hqb := jk5b hq
  refine lv_aload_n hx hb dX3_become_0 rfl (lv_at hl 0 rfl) ?_
  refine lv_aload_n hx hb dX3_become_1 rfl (lv_at hl 1 rfl) ?_
  refine j_get (5, p, m) 0 (v := .int (I p (3 + m))) hC hB in_X3 lk_7 dX3_become_2 hp rfl rfl (by decide) rfl ?_
  refine j_put (5, q, n) 0 (u2 I q (3 + n) ((I p) (3 + m)), J, O) (ty := .int) hC hB in_X3 tyX3_ok nmX3 lk_7 dX3_become_5 hq rfl rfl (by decide) rfl (by decide +kernel) rfl rfl (Nat.le_of_ble_eq_true rfl) (fun z hz hne => jw_fr z hz (by rw [jof_m3 (by omega) (by omega)]; exact hne)) (by simp [jw, u2]) (fun H locs hB => ?_)
  have hB : jB G A s_.heap (sr I q (upd (I q) (3 + n) ((I p) (3 + m))), J, O) H locs := by rw [show sr I q (upd (I q) (3 + n) ((I p) (3 + m))) = u2 I q (3 + n) ((I p) (3 + m)) from (u2_eq _ _ _ _).symm]; exact hB
  refine lv_aload_n hx hb dX3_become_8 rfl (lv_at hl 0 rfl) ?_
  refine lv_aload_n hx hb dX3_become_9 rfl (lv_at hl 1 rfl) ?_
  refine j_get (5, p, m) 1 (v := .int ((sr I q (upd (I q) (3 + n) ((I p) (3 + m)))) p (63 + m))) hC hB in_X3 lk_13 dX3_become_10 hp rfl rfl (by decide) rfl ?_
  refine j_eqi (x := (sr I q (upd (I q) (3 + n) ((I p) (3 + m)))) p (63 + m)) (y := (I p) (63 + m)) ((congrFun (sr_ne (show (p : Nat) ≠ q by omega)) _)) ?_
  refine j_put (5, q, n) 1 (u2 (sr I q (upd (I q) (3 + n) ((I p) (3 + m)))) q (63 + n) ((I p) (63 + m)), J, O) (ty := .int) hC hB in_X3 tyX3_ok nmX3 lk_13 dX3_become_13 hq rfl rfl (by decide) rfl (by decide +kernel) rfl rfl (Nat.le_of_ble_eq_true rfl) (fun z hz hne => jw_fr z hz (by rw [jof_m63 (by omega) (by omega)]; exact hne)) (by simp [jw, u2]) (fun H locs hB => ?_)
  have hB : jB G A s_.heap (sr I q (upd (upd (I q) (3 + n) ((I p) (3 + m))) (63 + n) ((I p) (63 + m))), J, O) H locs := by rw [show sr I q (upd (upd (I q) (3 + n) ((I p) (3 + m))) (63 + n) ((I p) (63 + m))) = u2 (sr I q (upd (I q) (3 + n) ((I p) (3 + m)))) q (63 + n) ((I p) (63 + m)) from (u2_sr _ _ _ _ _).symm]; exact hB
  refine lv_aload_n hx hb dX3_become_16 rfl (lv_at hl 0 rfl) ?_
  refine lv_aload_n hx hb dX3_become_17 rfl (lv_at hl 1 rfl) ?_
  refine j_get (5, p, m) 2 (v := .int ((sr I q (upd (upd (I q) (3 + n) ((I p) (3 + m))) (63 + n) ((I p) (63 + m)))) p (7 + m))) hC hB in_X3 lk_16 dX3_become_18 hp rfl rfl (by decide) rfl ?_
  refine j_eqi (x := (sr I q (upd (upd (I q) (3 + n) ((I p) (3 + m))) (63 + n) ((I p) (63 + m)))) p (7 + m)) (y := (I p) (7 + m)) ((congrFun (sr_ne (show (p : Nat) ≠ q by omega)) _)) ?_
  refine j_put (5, q, n) 2 (u2 (sr I q (upd (upd (I q) (3 + n) ((I p) (3 + m))) (63 + n) ((I p) (63 + m)))) q (7 + n) ((I p) (7 + m)), J, O) (ty := .int) hC hB in_X3 tyX3_ok nmX3 lk_16 dX3_become_21 hq rfl rfl (by decide) rfl (by decide +kernel) rfl rfl (Nat.le_of_ble_eq_true rfl) (fun z hz hne => jw_fr z hz (by rw [jof_m7 (by omega) (by omega)]; exact hne)) (by simp [jw, u2]) (fun H locs hB => ?_)
  have hB : jB G A s_.heap (sr I q (upd (upd (upd (I q) (3 + n) ((I p) (3 + m))) (63 + n) ((I p) (63 + m))) (7 + n) ((I p) (7 + m))), J, O) H locs := by rw [show sr I q (upd (upd (upd (I q) (3 + n) ((I p) (3 + m))) (63 + n) ((I p) (63 + m))) (7 + n) ((I p) (7 + m))) = u2 (sr I q (upd (upd (I q) (3 + n) ((I p) (3 + m))) (63 + n) ((I p) (63 + m)))) q (7 + n) ((I p) (7 + m)) from (u2_sr _ _ _ _ _).symm]; exact hB
  refine lv_aload_n hx hb dX3_become_24 rfl (lv_at hl 0 rfl) ?_
  refine lv_aload_n hx hb dX3_become_25 rfl (lv_at hl 1 rfl) ?_
  refine j_get (5, p, m) 3 (v := .int ((sr I q (upd (upd (upd (I q) (3 + n) ((I p) (3 + m))) (63 + n) ((I p) (63 + m))) (7 + n) ((I p) (7 + m)))) p (51 + m))) hC hB in_X3 lk_19 dX3_become_26 hp rfl rfl (by decide) rfl ?_
  refine j_eqi (x := (sr I q (upd (upd (upd (I q) (3 + n) ((I p) (3 + m))) (63 + n) ((I p) (63 + m))) (7 + n) ((I p) (7 + m)))) p (51 + m)) (y := (I p) (51 + m)) ((congrFun (sr_ne (show (p : Nat) ≠ q by omega)) _)) ?_
  refine j_put (5, q, n) 3 (u2 (sr I q (upd (upd (upd (I q) (3 + n) ((I p) (3 + m))) (63 + n) ((I p) (63 + m))) (7 + n) ((I p) (7 + m)))) q (51 + n) ((I p) (51 + m)), J, O) (ty := .int) hC hB in_X3 tyX3_ok nmX3 lk_19 dX3_become_29 hq rfl rfl (by decide) rfl (by decide +kernel) rfl rfl (Nat.le_of_ble_eq_true rfl) (fun z hz hne => jw_fr z hz (by rw [jof_m51 (by omega) (by omega)]; exact hne)) (by simp [jw, u2]) (fun H locs hB => ?_)
  have hB : jB G A s_.heap (sr I q (upd (upd (upd (upd (I q) (3 + n) ((I p) (3 + m))) (63 + n) ((I p) (63 + m))) (7 + n) ((I p) (7 + m))) (51 + n) ((I p) (51 + m))), J, O) H locs := by rw [show sr I q (upd (upd (upd (upd (I q) (3 + n) ((I p) (3 + m))) (63 + n) ((I p) (63 + m))) (7 + n) ((I p) (7 + m))) (51 + n) ((I p) (51 + m))) = u2 (sr I q (upd (upd (upd (I q) (3 + n) ((I p) (3 + m))) (63 + n) ((I p) (63 + m))) (7 + n) ((I p) (7 + m)))) q (51 + n) ((I p) (51 + m)) from (u2_sr _ _ _ _ _).symm]; exact hB
  refine lv_aload_n hx hb dX3_become_32 rfl (lv_at hl 0 rfl) ?_
  refine lv_aload_n hx hb dX3_become_33 rfl (lv_at hl 1 rfl) ?_
  refine j_get (5, p, m) 4 (v := .int ((sr I q (upd (upd (upd (upd (I q) (3 + n) ((I p) (3 + m))) (63 + n) ((I p) (63 + m))) (7 + n) ((I p) (7 + m))) (51 + n) ((I p) (51 + m)))) p (55 + m))) hC hB in_X3 lk_22 dX3_become_34 hp rfl rfl (by decide) rfl ?_
  refine j_eqi (x := (sr I q (upd (upd (upd (upd (I q) (3 + n) ((I p) (3 + m))) (63 + n) ((I p) (63 + m))) (7 + n) ((I p) (7 + m))) (51 + n) ((I p) (51 + m)))) p (55 + m)) (y := (I p) (55 + m)) ((congrFun (sr_ne (show (p : Nat) ≠ q by omega)) _)) ?_
  refine j_put (5, q, n) 4 (u2 (sr I q (upd (upd (upd (upd (I q) (3 + n) ((I p) (3 + m))) (63 + n) ((I p) (63 + m))) (7 + n) ((I p) (7 + m))) (51 + n) ((I p) (51 + m)))) q (55 + n) ((I p) (55 + m)), J, O) (ty := .int) hC hB in_X3 tyX3_ok nmX3 lk_22 dX3_become_37 hq rfl rfl (by decide) rfl (by decide +kernel) rfl rfl (Nat.le_of_ble_eq_true rfl) (fun z hz hne => jw_fr z hz (by rw [jof_m55 (by omega) (by omega)]; exact hne)) (by simp [jw, u2]) (fun H locs hB => ?_)
  have hB : jB G A s_.heap (sr I q (upd (upd (upd (upd (upd (I q) (3 + n) ((I p) (3 + m))) (63 + n) ((I p) (63 + m))) (7 + n) ((I p) (7 + m))) (51 + n) ((I p) (51 + m))) (55 + n) ((I p) (55 + m))), J, O) H locs := by rw [show sr I q (upd (upd (upd (upd (upd (I q) (3 + n) ((I p) (3 + m))) (63 + n) ((I p) (63 + m))) (7 + n) ((I p) (7 + m))) (51 + n) ((I p) (51 + m))) (55 + n) ((I p) (55 + m))) = u2 (sr I q (upd (upd (upd (upd (I q) (3 + n) ((I p) (3 + m))) (63 + n) ((I p) (63 + m))) (7 + n) ((I p) (7 + m))) (51 + n) ((I p) (51 + m)))) q (55 + n) ((I p) (55 + m)) from (u2_sr _ _ _ _ _).symm]; exact hB
  refine lv_aload_n hx hb dX3_become_40 rfl (lv_at hl 0 rfl) ?_
  refine lv_aload_n hx hb dX3_become_41 rfl (lv_at hl 1 rfl) ?_
  refine j_get (5, p, m) 5 (v := .int ((sr I q (upd (upd (upd (upd (upd (I q) (3 + n) ((I p) (3 + m))) (63 + n) ((I p) (63 + m))) (7 + n) ((I p) (7 + m))) (51 + n) ((I p) (51 + m))) (55 + n) ((I p) (55 + m)))) p (59 + m))) hC hB in_X3 lk_25 dX3_become_42 hp rfl rfl (by decide) rfl ?_
  refine j_eqi (x := (sr I q (upd (upd (upd (upd (upd (I q) (3 + n) ((I p) (3 + m))) (63 + n) ((I p) (63 + m))) (7 + n) ((I p) (7 + m))) (51 + n) ((I p) (51 + m))) (55 + n) ((I p) (55 + m)))) p (59 + m)) (y := (I p) (59 + m)) ((congrFun (sr_ne (show (p : Nat) ≠ q by omega)) _)) ?_
  refine j_put (5, q, n) 5 (u2 (sr I q (upd (upd (upd (upd (upd (I q) (3 + n) ((I p) (3 + m))) (63 + n) ((I p) (63 + m))) (7 + n) ((I p) (7 + m))) (51 + n) ((I p) (51 + m))) (55 + n) ((I p) (55 + m)))) q (59 + n) ((I p) (59 + m)), J, O) (ty := .int) hC hB in_X3 tyX3_ok nmX3 lk_25 dX3_become_45 hq rfl rfl (by decide) rfl (by decide +kernel) rfl rfl (Nat.le_of_ble_eq_true rfl) (fun z hz hne => jw_fr z hz (by rw [jof_m59 (by omega) (by omega)]; exact hne)) (by simp [jw, u2]) (fun H locs hB => ?_)
  have hB : jB G A s_.heap (sr I q (upd (upd (upd (upd (upd (upd (I q) (3 + n) ((I p) (3 + m))) (63 + n) ((I p) (63 + m))) (7 + n) ((I p) (7 + m))) (51 + n) ((I p) (51 + m))) (55 + n) ((I p) (55 + m))) (59 + n) ((I p) (59 + m))), J, O) H locs := by rw [show sr I q (upd (upd (upd (upd (upd (upd (I q) (3 + n) ((I p) (3 + m))) (63 + n) ((I p) (63 + m))) (7 + n) ((I p) (7 + m))) (51 + n) ((I p) (51 + m))) (55 + n) ((I p) (55 + m))) (59 + n) ((I p) (59 + m))) = u2 (sr I q (upd (upd (upd (upd (upd (I q) (3 + n) ((I p) (3 + m))) (63 + n) ((I p) (63 + m))) (7 + n) ((I p) (7 + m))) (51 + n) ((I p) (51 + m))) (55 + n) ((I p) (55 + m)))) q (59 + n) ((I p) (59 + m)) from (u2_sr _ _ _ _ _).symm]; exact hB
  exact j_vret hC hB dX3_become_48 (rfl)

set_option maxHeartbeats 4000000 in
set_option maxRecDepth 100000 in
theorem c_X3_failOnceMore (l_ : Launch) (G : jG) (I : Nat → Nat → Int32) (J : Nat → Nat → Int64) (O : Nat → Nat → Nat) (p m : Nat) (hp : jok (5, p, m)) : jMv l_ G yX3_failOnceMore wsX3_failOnceMore ({ frames := 1, cells := 0, slots := 0, locals := 30 }) [.ref (G.2.2.1 (5, p, m))] (I, J, O) (fun u => u = (sr I p (upd (I p) (59 + m) (faF (I p (59 + m)))), J, O)) := by
  refine jMv_of (cc := cX3_failOnceMore) (maxL := 1) (ret := none) (lv0 := [(0, .ref (G.2.2.1 (5, p, m)))]) (by decide) rfl (Nat.le_of_ble_eq_true rfl) rfl ?_
  intro pg_ ev_ s_ mi_ below meth cd_ A ls hC hB hl
  obtain ⟨hx, hb, hr, hml, hown, hts, hlocks, hK, hA⟩ := id hC
  have lk_25 := hts (.fieldLink RX3 25 "RiddlePrison$Man" "failed" "I") (by decide +kernel)
  have in_X3 := (fun w h => List.mem_cons_of_mem _ (List.mem_append_right _ h) : ∀ w ∈ wsX30, w ∈ wsX3_failOnceMore)
  have hpb := jk5b hp
  refine lv_aload_n hx hb dX3_failOnceMore_0 rfl (lv_at hl 0 rfl) ?_
  refine lv_aload_n hx hb dX3_failOnceMore_1 rfl (lv_at hl 0 rfl) ?_
  refine j_get (5, p, m) 5 (v := .int (I p (59 + m))) hC hB in_X3 lk_25 dX3_failOnceMore_2 hp rfl rfl (by decide) rfl ?_
  refine lv_iconst (v := nI 1) hx hb dX3_failOnceMore_5 (by decide) ?_
  refine lv_iadd hx hb dX3_failOnceMore_6 ?_
  refine lv_bipush (v := nI 99) hx hb dX3_failOnceMore_7 (by decide) ?_
  refine va_mmin hx hb (by rw [hml]; exact hl.1.symm) hown (hts (.methodLink RX3 33 Lib.Math.min.name) (by decide +kernel)) (hts (.static Lib.Math.min.name) (by decide +kernel)) (hts (.initialized "java/lang/Math") (by decide +kernel)) (hts (.code Lib.Math.min.name Lib.Math.min.code 2 (some .int)) (by decide +kernel)) (by decide) (Nat.le_of_ble_eq_true rfl) (Nat.zero_le _) (Nat.zero_le _) dX3_failOnceMore_9 ?_
  refine j_put (5, p, m) 5 (u2 I p (59 + m) (if nI 99 < ((I p) (59 + m)) + (nI 1) then nI 99 else ((I p) (59 + m)) + (nI 1)), J, O) (ty := .int) hC hB in_X3 tyX3_ok nmX3 lk_25 dX3_failOnceMore_12 hp rfl rfl (by decide) rfl (by decide +kernel) rfl rfl (Nat.le_of_ble_eq_true rfl) (fun z hz hne => jw_fr z hz (by rw [jof_m59 (by omega) (by omega)]; exact hne)) (by simp [jw, u2]) (fun H locs hB => ?_)
  have hB : jB G A s_.heap (sr I p (upd (I p) (59 + m) (if nI 99 < ((I p) (59 + m)) + (nI 1) then nI 99 else ((I p) (59 + m)) + (nI 1))), J, O) H locs := by rw [show sr I p (upd (I p) (59 + m) (if nI 99 < ((I p) (59 + m)) + (nI 1) then nI 99 else ((I p) (59 + m)) + (nI 1))) = u2 I p (59 + m) (if nI 99 < ((I p) (59 + m)) + (nI 1) then nI 99 else ((I p) (59 + m)) + (nI 1)) from (u2_eq _ _ _ _).symm]; exact hB
  exact j_vret hC hB dX3_failOnceMore_15 (rfl)

set_option maxHeartbeats 4000000 in
set_option maxRecDepth 100000 in
theorem c_X4_letTry (l_ : Launch) (G : jG) (I : Nat → Nat → Int32) (J : Nat → Nat → Int64) (O : Nat → Nat → Nat) (q p m d : Nat) (hq : q < 19) (hp : jok (5, p, m)) (hd : d < 10) : jMi l_ G yX4_letTry wsX4_letTry ({ frames := 3, cells := 0, slots := 0, locals := 75 }) [.ref (G.2.2.1 (1, q, 0)), .ref (G.2.2.1 (5, p, m)), .int (nI d)] (I, J, O) (fun r u => r = b2 (opB (I q) (I p) m d) ∧ u = (sr I p (ltR (I q) (I p) m d), J, O)) := by
  refine jMi_of (cc := cX4_letTry) (maxL := 4) (ret := (some .boolean)) (lv0 := [(0, .ref (G.2.2.1 (1, q, 0))), (1, .ref (G.2.2.1 (5, p, m))), (2, .int (nI d))]) (by decide) rfl (Nat.le_of_ble_eq_true rfl) rfl ?_
  intro pg_ ev_ s_ mi_ below meth cd_ A ls hC hB hl
  obtain ⟨hx, hb, hr, hml, hown, hts, hlocks, hK, hA⟩ := id hC
  have lk_11 := hts (.fieldLink RX4 11 "RiddlePrison$Prison" "doors" "[LRiddlePrison$Door;") (by decide +kernel)
  have ln_63 := (by decide +kernel : Cond.fieldLinkNest RX4 63 "RiddlePrison$Man" "cell" "I" "RiddlePrison" ∈ nsW)
  have in_X4 := (fun w h => List.mem_cons_of_mem _ (List.mem_append_left _ (List.mem_append_left _ (List.mem_append_right _ h))) : ∀ w ∈ wsX40, w ∈ wsX4_letTry)
  have in_X3 := (fun w h => List.mem_cons_of_mem _ (List.mem_append_left _ (List.mem_append_right _ h)) : ∀ w ∈ wsX30, w ∈ wsX4_letTry)
  have hpb := jk5b hp
  refine lv_aload_n hx hb dX4_letTry_0 rfl (lv_at hl 0 rfl) ?_
  refine j_get (1, q, 0) 0 (v := .ref (G.2.2.1 (2, q, 0))) hC hB in_X4 lk_11 dX4_letTry_1 (jk1 (by omega)) rfl rfl (by decide) rfl ?_
  refine lv_iload_n hx hb dX4_letTry_4 rfl (lv_at hl 2 rfl) ?_
  refine j_ald (2, q, 0) (4, q, d) 3 d hC hB dX4_letTry_5 (jk2 (by omega)) rfl rfl rfl (by omega) (by decide) rfl ?_
  refine lv_astore_n (lv' := [(3, .ref (G.2.2.1 (4, q, d))), (0, .ref (G.2.2.1 (1, q, 0))), (1, .ref (G.2.2.1 (5, p, m))), (2, .int (nI d))]) hx hb dX4_letTry_6 rfl hl (by decide) rfl (fun ls hl => ?_)
  refine lv_aload_n hx hb dX4_letTry_7 rfl (lv_at hl 0 rfl) ?_
  refine lv_aload_n hx hb dX4_letTry_8 rfl (lv_at hl 2 rfl) ?_
  refine j_getN (5, p, m) 3 (v := .int (I p (51 + m))) hC hB in_X3 ln_63 dX4_letTry_9 hp rfl rfl (by decide) rfl ?_
  refine j_cvi (4, q, d) [.int ((I p) (51 + m))] hC hB hl.1 (c_X0_isAt l_ G I J O q d ((I p) (51 + m)) ((jk4 (by omega) (by omega)))) (cwV 1 hts gX4_letTry_X0_isAt rfl rfl rfl (by decide +kernel) ⟨by decide, by decide⟩) dX4_letTry_12 (jk4 (by omega) (by omega)) rfl rfl rfl rfl (Nat.le_of_ble_eq_true rfl) (fun r_12 u_12 H locs hp_12 hB => ?_)
  obtain ⟨rfl, rfl⟩ := hp_12
  refine jb_if_ne (tgt := 20) hx hb dX4_letTry_15 (by decide) (fun c_15 => ?_) (fun c_15 => ?_)
  · refine lv_aload_n hx hb dX4_letTry_20 rfl (lv_at hl 2 rfl) ?_
    refine lv_aload_n hx hb dX4_letTry_21 rfl (lv_at hl 0 rfl) ?_
    refine lv_iload_n hx hb dX4_letTry_22 rfl (lv_at hl 3 rfl) ?_
    refine j_cvi (5, p, m) [.ref (G.2.2.1 (4, q, d)), .int (nI d)] hC hB hl.1 (c_X3_passes l_ G I J O p m q d d (hp) ((jk4 (by omega) (by omega)))) (cwV 2 hts gX4_letTry_X3_passes rfl rfl rfl (by decide +kernel) ⟨by decide, by decide⟩) dX4_letTry_23 hp rfl rfl rfl rfl (Nat.le_of_ble_eq_true rfl) (fun r_23 u_23 H locs hp_23 hB => ?_)
    obtain ⟨rfl, rfl⟩ := hp_23
    refine jb_if_ne (tgt := 35) hx hb dX4_letTry_26 (by decide) (fun c_26 => ?_) (fun c_26 => ?_)
    · refine lv_aload_n hx hb dX4_letTry_35 rfl (lv_at hl 2 rfl) ?_
      refine lv_aload_n hx hb dX4_letTry_36 rfl (lv_at hl 0 rfl) ?_
      refine lv_aload_n hx hb dX4_letTry_37 rfl (lv_at hl 2 rfl) ?_
      refine j_getN (5, p, m) 3 (v := .int (I p (51 + m))) hC hB in_X3 ln_63 dX4_letTry_38 hp rfl rfl (by decide) rfl ?_
      refine j_cvi (4, q, d) [.int ((I p) (51 + m))] hC hB hl.1 (c_X0_beyond l_ G I J O q d ((I p) (51 + m)) ((jk4 (by omega) (by omega)))) (cwV 1 hts gX4_letTry_X0_beyond rfl rfl rfl (by decide +kernel) ⟨by decide, by decide⟩) dX4_letTry_41 (jk4 (by omega) (by omega)) rfl rfl rfl rfl (Nat.le_of_ble_eq_true rfl) (fun r_41 u_41 H locs hp_41 hB => ?_)
      obtain ⟨rfl, rfl⟩ := hp_41
      refine j_putN (5, p, m) 3 (u2 I p (51 + m) (beF (I q) d ((I p) (51 + m))), J, O) (ty := .int) hC hB in_X3 tyX3_ok nmX3 ln_63 dX4_letTry_44 hp rfl rfl (by decide) rfl (by decide +kernel) rfl rfl (Nat.le_of_ble_eq_true rfl) (fun z hz hne => jw_fr z hz (by rw [jof_m51 (by omega) (by omega)]; exact hne)) (by simp [jw, u2]) (fun H locs hB => ?_)
      have hB : jB G A s_.heap (sr I p (upd (I p) (51 + m) (beF (I q) d ((I p) (51 + m)))), J, O) H locs := by rw [show sr I p (upd (I p) (51 + m) (beF (I q) d ((I p) (51 + m)))) = u2 I p (51 + m) (beF (I q) d ((I p) (51 + m))) from (u2_eq _ _ _ _).symm]; exact hB
      refine lv_iconst (v := nI 1) hx hb dX4_letTry_47 (by decide) ?_
      exact j_zret hC hB dX4_letTry_48 (by decide) (⟨by simp [opB, b2, c_15, c_26], by simp [ltR, sr_id, c_15, c_26]⟩)
    · refine lv_aload_n hx hb dX4_letTry_29 rfl (lv_at hl 2 rfl) ?_
      refine j_cvv (5, p, m) [] hC hB hl.1 (c_X3_failOnceMore l_ G I J O p m (hp)) (cwV 0 hts gX4_letTry_X3_failOnceMore rfl rfl rfl (by decide +kernel) ⟨by decide, by decide⟩) dX4_letTry_30 hp rfl rfl rfl rfl (Nat.le_of_ble_eq_true rfl) (fun u_30 H locs hp_30 hB => ?_)
      obtain rfl := hp_30
      have hB : jB G A s_.heap (sr I p (upd (I p) (59 + m) (faF (I p (59 + m)))), J, O) H locs := hB
      refine lv_iconst (v := nI 0) hx hb dX4_letTry_33 (by decide) ?_
      exact j_zret hC hB dX4_letTry_34 (by decide) (⟨by simp [opB, b2, c_15, c_26], by simp [ltR, sr_id, c_15, c_26]⟩)
  · refine lv_iconst (v := nI 0) hx hb dX4_letTry_18 (by decide) ?_
    exact j_zret hC hB dX4_letTry_19 (by decide) (⟨by simp [opB, b2, c_15], by simp [ltR, sr_id, c_15]⟩)

set_option maxHeartbeats 4000000 in
set_option maxRecDepth 100000 in
theorem c_X4_letForget (l_ : Launch) (G : jG) (I : Nat → Nat → Int32) (J : Nat → Nat → Int64) (O : Nat → Nat → Nat) (q d : Nat) (hq : q < 19) {nm : Nat} (hnm : nm ≤ 4) (hM : I q 1 = nI nm) : jMv l_ G yX4_letForget wsX4_letForget ({ frames := 0, cells := 0, slots := 0, locals := 0 }) [.ref (G.2.2.1 (1, q, 0)), .int (nI d)] (I, J, O) (fun u => u = (sr I q (fgR (I q) d nm), J, O)) := by
  refine jMv_of (cc := cX4_letForget) (maxL := 3) (ret := none) (lv0 := [(0, .ref (G.2.2.1 (1, q, 0))), (1, .int (nI d))]) (by decide) rfl (Nat.le_of_ble_eq_true rfl) rfl ?_
  intro pg_ ev_ s_ mi_ below meth cd_ A ls hC hB hl
  obtain ⟨hx, hb, hr, hml, hown, hts, hlocks, hK, hA⟩ := id hC
  have lk_32 := hts (.fieldLink RX4 32 "RiddlePrison$Prison" "manCount" "I") (by decide +kernel)
  have lk_19 := hts (.fieldLink RX4 19 "RiddlePrison$Prison" "men" "[LRiddlePrison$Man;") (by decide +kernel)
  have ln_66 := (by decide +kernel : Cond.fieldLinkNest RX4 66 "RiddlePrison$Man" "known" "I" "RiddlePrison" ∈ nsW)
  have in_X4 := (fun w h => List.mem_cons_of_mem _ (List.mem_append_left _ (List.mem_append_right _ h)) : ∀ w ∈ wsX40, w ∈ wsX4_letForget)
  have in_X3 := (fun w h => List.mem_cons_of_mem _ (List.mem_append_right _ h) : ∀ w ∈ wsX30, w ∈ wsX4_letForget)
  refine lv_iconst (v := nI 0) hx hb dX4_letForget_0 (by decide) ?_
  refine lv_istore_n (lv' := [(2, .int (nI 0)), (0, .ref (G.2.2.1 (1, q, 0))), (1, .int (nI d))]) hx hb dX4_letForget_1 rfl hl (by decide) rfl (fun ls hl => ?_)
  have lp_2 : ∀ (fu : Nat) (f : Nat → Int32) (k : Nat), nm - k < fu → (k ≤ nm) → (f = fgR (I q) d k) → (f 1 = nI nm) → ∀ H locs ls, jB G A s_.heap (sr I q (f), J, O) H locs → lv_has ls 3 [(2, .int (nI k)), (0, .ref (G.2.2.1 (1, q, 0))), (1, .int (nI d))] → W pg_ l_ ev_ ({ frames := 0, cells := 0, slots := 0, locals := 0 }) s_ mi_ ([.ref (G.2.2.1 (1, q, 0)), .int (nI d)]).toArray below meth cd_ H locs 0 0 (jQv G A below [.ref (G.2.2.1 (1, q, 0)), .int (nI d)] s_ (fun u => u = (sr I q (fgR (I q) d nm), J, O))) (F0 mi_ 2 ls []) := by
    intro fu
    induction fu with
    | zero => intro f k hf; exact absurd hf (Nat.not_lt_zero _)
    | succ fu ih_2 =>
      intro f k hf_2 hk hf h1 H locs ls hB hl
      refine lv_iload_n hx hb dX4_letForget_2 rfl (lv_at hl 0 rfl) ?_
      refine lv_aload_n hx hb dX4_letForget_3 rfl (lv_at hl 1 rfl) ?_
      refine j_get (1, q, 0) 3 (v := .int ((sr I q (f)) q 1)) hC hB in_X4 lk_32 dX4_letForget_4 (jk1 (by omega)) rfl rfl (by decide) rfl ?_
      refine j_eqi (x := (sr I q (f)) q 1) (y := nI nm) ((congrFun sr_self _).trans (h1)) ?_
      refine jn_icmp_ge (tgt := 35) hx hb dX4_letForget_7 (by decide) (by omega) (by omega) (fun c_7 => ?_) (fun c_7 => ?_)
      · exact j_vret hC hB dX4_letForget_35 (by rw [hf, show k = nm by omega])
      · refine lv_aload_n hx hb dX4_letForget_10 rfl (lv_at hl 1 rfl) ?_
        refine j_get (1, q, 0) 1 (v := .ref (G.2.2.1 (3, q, 0))) hC hB in_X4 lk_19 dX4_letForget_11 (jk1 (by omega)) rfl rfl (by decide) rfl ?_
        refine lv_iload_n hx hb dX4_letForget_14 rfl (lv_at hl 0 rfl) ?_
        refine j_ald (3, q, 0) (5, q, k) 4 k hC hB dX4_letForget_15 (jk3 (by omega)) rfl rfl rfl (by omega) (by decide) rfl ?_
        refine lv_dup hx hb dX4_letForget_16 rfl ?_
        refine j_getN (5, q, k) 4 (v := .int ((sr I q (f)) q (55 + k))) hC hB in_X3 ln_66 dX4_letForget_17 (jk5 (by omega) (by omega)) rfl rfl (by decide) rfl ?_
        refine j_eqi (x := (sr I q (f)) q (55 + k)) (y := f (55 + k)) ((congrFun sr_self _)) ?_
        refine lv_iconst (v := nI 1) hx hb dX4_letForget_20 (by decide) ?_
        refine lv_iload_n hx hb dX4_letForget_21 rfl (lv_at hl 2 rfl) ?_
        refine lv_ishl hx hb dX4_letForget_22 ?_
        refine lv_iconst (v := (-1 : Int32)) hx hb dX4_letForget_23 (by decide) ?_
        refine lv_ixor hx hb dX4_letForget_24 ?_
        refine lv_iand hx hb dX4_letForget_25 ?_
        refine j_putN (5, q, k) 4 (u2 (sr I q (f)) q (55 + k) ((f (55 + k)) &&& (((nI 1) <<< ((nI d) &&& 31)) ^^^ ((-1 : Int32)))), J, O) (ty := .int) hC hB in_X3 tyX3_ok nmX3 ln_66 dX4_letForget_26 (jk5 (by omega) (by omega)) rfl rfl (by decide) rfl (by decide +kernel) rfl rfl (Nat.le_of_ble_eq_true rfl) (fun z hz hne => jw_fr z hz (by rw [jof_m55 (by omega) (by omega)]; exact hne)) (by simp [jw, u2]) (fun H locs hB => ?_)
        have hB : jB G A s_.heap (sr I q (upd (f) (55 + k) ((f (55 + k)) &&& (((nI 1) <<< ((nI d) &&& 31)) ^^^ ((-1 : Int32))))), J, O) H locs := by rw [show sr I q (upd (f) (55 + k) ((f (55 + k)) &&& (((nI 1) <<< ((nI d) &&& 31)) ^^^ ((-1 : Int32))))) = u2 (sr I q (f)) q (55 + k) ((f (55 + k)) &&& (((nI 1) <<< ((nI d) &&& 31)) ^^^ ((-1 : Int32)))) from (u2_sr _ _ _ _ _).symm]; exact hB
        refine lv_iinc (v := nI (k + 1)) (lv' := [(2, .int (nI (k + 1))), (0, .ref (G.2.2.1 (1, q, 0))), (1, .int (nI d))]) hx hb dX4_letForget_29 hl (k := 0) rfl (jn_inc _ 1) (by decide) rfl (fun ls hl => ?_)
        refine lv_goto (tgt := 2) hx hb dX4_letForget_32 (by decide) ?_
        exact ih_2 (upd (f) (55 + k) ((f (55 + k)) &&& (((nI 1) <<< ((nI d) &&& 31)) ^^^ ((-1 : Int32))))) (k + 1) (by omega) (by omega) (by rw [hf]; exact fgR_step _ _ _) ((pk_un (by omega)).trans h1) _ _ _ (jB_cast2 hB (by first | rfl | exact (sr_id _ _).symm | exact (srJ_id _ _).symm | (funext a; simp +decide only [sr, srJ]; (repeat' split) <;> first | rfl | (exfalso; omega) | (subst_vars; rfl))) (by first | rfl | exact (sr_id _ _).symm | exact (srJ_id _ _).symm | (funext a; simp +decide only [sr, srJ]; (repeat' split) <;> first | rfl | (exfalso; omega) | (subst_vars; rfl)))) (lv_sub hl [0, 1, 2] rfl)
  exact lp_2 _ (I q) 0 (Nat.lt_succ_self _) (by omega) ((fgR_0 _ _).symm) (hM) _ _ _ (jB_cast2 hB (by first | rfl | exact (sr_id _ _).symm | exact (srJ_id _ _).symm | (funext a; simp +decide only [sr, srJ]; (repeat' split) <;> first | rfl | (exfalso; omega) | (subst_vars; rfl))) (by first | rfl | exact (sr_id _ _).symm | exact (srJ_id _ _).symm | (funext a; simp +decide only [sr, srJ]; (repeat' split) <;> first | rfl | (exfalso; omega) | (subst_vars; rfl)))) (lv_sub hl [0, 1, 2] rfl)

set_option maxHeartbeats 4000000 in
set_option maxRecDepth 100000 in
theorem c_X4_addDoor (l_ : Launch) (G : jG) (I : Nat → Nat → Int32) (J : Nat → Nat → Int64) (O : Nat → Nat → Nat) (q : Nat) (cell other sort hard : Int32) (hq : q < 19) {nd : Nat} (hnd : nd < 10) (hD : I q 0 = nI nd) : jMi l_ G yX4_addDoor wsX4_addDoor ({ frames := 0, cells := 0, slots := 0, locals := 0 }) [.ref (G.2.2.1 (1, q, 0)), .int cell, .int other, .int sort, .int hard] (I, J, O) (fun r u => r = nI (nd) ∧ u = (sr I q (adR (I q) cell other sort hard), J, O)) := by
  refine jMi_of (cc := cX4_addDoor) (maxL := 6) (ret := (some .int)) (lv0 := [(0, .ref (G.2.2.1 (1, q, 0))), (1, .int cell), (2, .int other), (3, .int sort), (4, .int hard)]) (by decide) rfl (Nat.le_of_ble_eq_true rfl) rfl ?_
  intro pg_ ev_ s_ mi_ below meth cd_ A ls hC hB hl
  obtain ⟨hx, hb, hr, hml, hown, hts, hlocks, hK, hA⟩ := id hC
  have lk_29 := hts (.fieldLink RX4 29 "RiddlePrison$Prison" "doorCount" "I") (by decide +kernel)
  have lk_11 := hts (.fieldLink RX4 11 "RiddlePrison$Prison" "doors" "[LRiddlePrison$Door;") (by decide +kernel)
  have ln_42 := (by decide +kernel : Cond.fieldLinkNest RX4 42 "RiddlePrison$Door" "first" "I" "RiddlePrison" ∈ nsW)
  have ln_45 := (by decide +kernel : Cond.fieldLinkNest RX4 45 "RiddlePrison$Door" "other" "I" "RiddlePrison" ∈ nsW)
  have ln_48 := (by decide +kernel : Cond.fieldLinkNest RX4 48 "RiddlePrison$Door" "sort" "I" "RiddlePrison" ∈ nsW)
  have ln_51 := (by decide +kernel : Cond.fieldLinkNest RX4 51 "RiddlePrison$Door" "hard" "I" "RiddlePrison" ∈ nsW)
  have in_X4 := (fun w h => List.mem_cons_of_mem _ (List.mem_append_left _ (List.mem_append_right _ h)) : ∀ w ∈ wsX40, w ∈ wsX4_addDoor)
  have in_X0 := (fun w h => List.mem_cons_of_mem _ (List.mem_append_right _ h) : ∀ w ∈ wsX00, w ∈ wsX4_addDoor)
  refine lv_aload_n hx hb dX4_addDoor_0 rfl (lv_at hl 0 rfl) ?_
  refine j_get (1, q, 0) 2 (v := .int (I q 0)) hC hB in_X4 lk_29 dX4_addDoor_1 (jk1 (by omega)) rfl rfl (by decide) rfl ?_
  refine j_eqi (x := I q 0) (y := nI nd) (hD) ?_
  refine lv_bipush (v := nI 10) hx hb dX4_addDoor_4 (by decide) ?_
  refine jn_icmp_lt (tgt := 12) hx hb dX4_addDoor_6 (by decide) (by omega) (by omega) (fun c_6 => ?_) (fun c_6 => ?_)
  · refine lv_aload_n hx hb dX4_addDoor_12 rfl (lv_at hl 0 rfl) ?_
    refine j_get (1, q, 0) 0 (v := .ref (G.2.2.1 (2, q, 0))) hC hB in_X4 lk_11 dX4_addDoor_13 (jk1 (by omega)) rfl rfl (by decide) rfl ?_
    refine lv_aload_n hx hb dX4_addDoor_16 rfl (lv_at hl 0 rfl) ?_
    refine j_get (1, q, 0) 2 (v := .int (I q 0)) hC hB in_X4 lk_29 dX4_addDoor_17 (jk1 (by omega)) rfl rfl (by decide) rfl ?_
    refine j_eqi (x := I q 0) (y := nI nd) (hD) ?_
    refine j_ald (2, q, 0) (4, q, nd) 3 nd hC hB dX4_addDoor_20 (jk2 (by omega)) rfl rfl rfl (by omega) (by decide) rfl ?_
    refine lv_astore (lv' := [(5, .ref (G.2.2.1 (4, q, nd))), (0, .ref (G.2.2.1 (1, q, 0))), (1, .int cell), (2, .int other), (3, .int sort), (4, .int hard)]) hx hb dX4_addDoor_21 hl (by decide) rfl (fun ls hl => ?_)
    refine lv_aload hx hb dX4_addDoor_23 (lv_at hl 0 rfl) ?_
    refine lv_iload_n hx hb dX4_addDoor_25 rfl (lv_at hl 2 rfl) ?_
    refine j_putN (4, q, nd) 0 (u2 I q (11 + nd) cell, J, O) (ty := .int) hC hB in_X0 tyX0_ok nmX0 ln_42 dX4_addDoor_26 (jk4 (by omega) (by omega)) rfl rfl (by decide) rfl (by decide +kernel) rfl rfl (Nat.le_of_ble_eq_true rfl) (fun z hz hne => jw_fr z hz (by rw [jof_d11 (by omega) (by omega)]; exact hne)) (by simp [jw, u2]) (fun H locs hB => ?_)
    have hB : jB G A s_.heap (sr I q (upd (I q) (11 + nd) cell), J, O) H locs := by rw [show sr I q (upd (I q) (11 + nd) cell) = u2 I q (11 + nd) cell from (u2_eq _ _ _ _).symm]; exact hB
    refine lv_aload hx hb dX4_addDoor_29 (lv_at hl 0 rfl) ?_
    refine lv_iload_n hx hb dX4_addDoor_31 rfl (lv_at hl 3 rfl) ?_
    refine j_putN (4, q, nd) 1 (u2 (sr I q (upd (I q) (11 + nd) cell)) q (21 + nd) other, J, O) (ty := .int) hC hB in_X0 tyX0_ok nmX0 ln_45 dX4_addDoor_32 (jk4 (by omega) (by omega)) rfl rfl (by decide) rfl (by decide +kernel) rfl rfl (Nat.le_of_ble_eq_true rfl) (fun z hz hne => jw_fr z hz (by rw [jof_d21 (by omega) (by omega)]; exact hne)) (by simp [jw, u2]) (fun H locs hB => ?_)
    have hB : jB G A s_.heap (sr I q (upd (upd (I q) (11 + nd) cell) (21 + nd) other), J, O) H locs := by rw [show sr I q (upd (upd (I q) (11 + nd) cell) (21 + nd) other) = u2 (sr I q (upd (I q) (11 + nd) cell)) q (21 + nd) other from (u2_sr _ _ _ _ _).symm]; exact hB
    refine lv_aload hx hb dX4_addDoor_35 (lv_at hl 0 rfl) ?_
    refine lv_iload_n hx hb dX4_addDoor_37 rfl (lv_at hl 4 rfl) ?_
    refine j_putN (4, q, nd) 2 (u2 (sr I q (upd (upd (I q) (11 + nd) cell) (21 + nd) other)) q (31 + nd) sort, J, O) (ty := .int) hC hB in_X0 tyX0_ok nmX0 ln_48 dX4_addDoor_38 (jk4 (by omega) (by omega)) rfl rfl (by decide) rfl (by decide +kernel) rfl rfl (Nat.le_of_ble_eq_true rfl) (fun z hz hne => jw_fr z hz (by rw [jof_d31 (by omega) (by omega)]; exact hne)) (by simp [jw, u2]) (fun H locs hB => ?_)
    have hB : jB G A s_.heap (sr I q (upd (upd (upd (I q) (11 + nd) cell) (21 + nd) other) (31 + nd) sort), J, O) H locs := by rw [show sr I q (upd (upd (upd (I q) (11 + nd) cell) (21 + nd) other) (31 + nd) sort) = u2 (sr I q (upd (upd (I q) (11 + nd) cell) (21 + nd) other)) q (31 + nd) sort from (u2_sr _ _ _ _ _).symm]; exact hB
    refine lv_aload hx hb dX4_addDoor_41 (lv_at hl 0 rfl) ?_
    refine lv_iload hx hb dX4_addDoor_43 (lv_at hl 5 rfl) ?_
    refine j_putN (4, q, nd) 3 (u2 (sr I q (upd (upd (upd (I q) (11 + nd) cell) (21 + nd) other) (31 + nd) sort)) q (41 + nd) hard, J, O) (ty := .int) hC hB in_X0 tyX0_ok nmX0 ln_51 dX4_addDoor_45 (jk4 (by omega) (by omega)) rfl rfl (by decide) rfl (by decide +kernel) rfl rfl (Nat.le_of_ble_eq_true rfl) (fun z hz hne => jw_fr z hz (by rw [jof_d41 (by omega) (by omega)]; exact hne)) (by simp [jw, u2]) (fun H locs hB => ?_)
    have hB : jB G A s_.heap (sr I q (upd (upd (upd (upd (I q) (11 + nd) cell) (21 + nd) other) (31 + nd) sort) (41 + nd) hard), J, O) H locs := by rw [show sr I q (upd (upd (upd (upd (I q) (11 + nd) cell) (21 + nd) other) (31 + nd) sort) (41 + nd) hard) = u2 (sr I q (upd (upd (upd (I q) (11 + nd) cell) (21 + nd) other) (31 + nd) sort)) q (41 + nd) hard from (u2_sr _ _ _ _ _).symm]; exact hB
    refine lv_aload_n hx hb dX4_addDoor_48 rfl (lv_at hl 1 rfl) ?_
    refine lv_dup hx hb dX4_addDoor_49 rfl ?_
    refine j_get (1, q, 0) 2 (v := .int ((sr I q (upd (upd (upd (upd (I q) (11 + nd) cell) (21 + nd) other) (31 + nd) sort) (41 + nd) hard)) q 0)) hC hB in_X4 lk_29 dX4_addDoor_50 (jk1 (by omega)) rfl rfl (by decide) rfl ?_
    refine j_eqi (x := (sr I q (upd (upd (upd (upd (I q) (11 + nd) cell) (21 + nd) other) (31 + nd) sort) (41 + nd) hard)) q 0) (y := nI nd) ((congrFun sr_self _).trans ((pk_un (show (0 : Nat) ≠ 41 + nd by omega)).trans ((pk_un (show (0 : Nat) ≠ 31 + nd by omega)).trans ((pk_un (show (0 : Nat) ≠ 21 + nd by omega)).trans ((pk_un (show (0 : Nat) ≠ 11 + nd by omega)).trans (hD)))))) ?_
    refine lv_iconst (v := nI 1) hx hb dX4_addDoor_53 (by decide) ?_
    refine jn_iadd hx hb dX4_addDoor_54 ?_
    refine j_put (1, q, 0) 2 (u2 (sr I q (upd (upd (upd (upd (I q) (11 + nd) cell) (21 + nd) other) (31 + nd) sort) (41 + nd) hard)) q 0 (nI (nd + 1)), J, O) (ty := .int) hC hB in_X4 tyX4_ok nmX4 lk_29 dX4_addDoor_55 (jk1 (by omega)) rfl rfl (by decide) rfl (by decide +kernel) rfl rfl (Nat.le_of_ble_eq_true rfl) (fun z hz hne => jw_fr z hz (by rw [jof_p0 (by omega)]; exact hne)) (by simp [jw, u2]) (fun H locs hB => ?_)
    have hB : jB G A s_.heap (sr I q (upd (upd (upd (upd (upd (I q) (11 + nd) cell) (21 + nd) other) (31 + nd) sort) (41 + nd) hard) 0 (nI (nd + 1))), J, O) H locs := by rw [show sr I q (upd (upd (upd (upd (upd (I q) (11 + nd) cell) (21 + nd) other) (31 + nd) sort) (41 + nd) hard) 0 (nI (nd + 1))) = u2 (sr I q (upd (upd (upd (upd (I q) (11 + nd) cell) (21 + nd) other) (31 + nd) sort) (41 + nd) hard)) q 0 (nI (nd + 1)) from (u2_sr _ _ _ _ _).symm]; exact hB
    refine lv_aload_n hx hb dX4_addDoor_58 rfl (lv_at hl 1 rfl) ?_
    refine j_get (1, q, 0) 2 (v := .int ((sr I q (upd (upd (upd (upd (upd (I q) (11 + nd) cell) (21 + nd) other) (31 + nd) sort) (41 + nd) hard) 0 (nI (nd + 1)))) q 0)) hC hB in_X4 lk_29 dX4_addDoor_59 (jk1 (by omega)) rfl rfl (by decide) rfl ?_
    refine j_eqi (x := (sr I q (upd (upd (upd (upd (upd (I q) (11 + nd) cell) (21 + nd) other) (31 + nd) sort) (41 + nd) hard) 0 (nI (nd + 1)))) q 0) (y := nI (nd + 1)) ((congrFun sr_self _).trans (pk_us)) ?_
    refine lv_iconst (v := nI 1) hx hb dX4_addDoor_62 (by decide) ?_
    refine jn_isub hx hb dX4_addDoor_63 (by omega) ?_
    exact j_iret hC hB dX4_addDoor_64 (⟨by rw [show nd + 1 - 1 = nd by omega], by simp only [adR, tN, hD, nIc (show nd < 2147483648 by omega)]⟩)
  · exact absurd c_6 (by omega)

set_option maxHeartbeats 4000000 in
set_option maxRecDepth 100000 in
theorem c_X4_addMan (l_ : Launch) (G : jG) (I : Nat → Nat → Int32) (J : Nat → Nat → Int64) (O : Nat → Nat → Nat) (q : Nat) (kind wit sort cell : Int32) (hq : q < 19) {nm : Nat} (hnm : nm < 4) (hM : I q 1 = nI nm) : jMi l_ G yX4_addMan wsX4_addMan ({ frames := 0, cells := 0, slots := 0, locals := 0 }) [.ref (G.2.2.1 (1, q, 0)), .int kind, .int wit, .int sort, .int cell] (I, J, O) (fun r u => r = nI (nm) ∧ u = (sr I q (amR (I q) kind wit sort cell), J, O)) := by
  refine jMi_of (cc := cX4_addMan) (maxL := 6) (ret := (some .int)) (lv0 := [(0, .ref (G.2.2.1 (1, q, 0))), (1, .int kind), (2, .int wit), (3, .int sort), (4, .int cell)]) (by decide) rfl (Nat.le_of_ble_eq_true rfl) rfl ?_
  intro pg_ ev_ s_ mi_ below meth cd_ A ls hC hB hl
  obtain ⟨hx, hb, hr, hml, hown, hts, hlocks, hK, hA⟩ := id hC
  have lk_32 := hts (.fieldLink RX4 32 "RiddlePrison$Prison" "manCount" "I") (by decide +kernel)
  have lk_19 := hts (.fieldLink RX4 19 "RiddlePrison$Prison" "men" "[LRiddlePrison$Man;") (by decide +kernel)
  have ln_54 := (by decide +kernel : Cond.fieldLinkNest RX4 54 "RiddlePrison$Man" "kind" "I" "RiddlePrison" ∈ nsW)
  have ln_57 := (by decide +kernel : Cond.fieldLinkNest RX4 57 "RiddlePrison$Man" "wit" "I" "RiddlePrison" ∈ nsW)
  have ln_60 := (by decide +kernel : Cond.fieldLinkNest RX4 60 "RiddlePrison$Man" "own" "I" "RiddlePrison" ∈ nsW)
  have ln_63 := (by decide +kernel : Cond.fieldLinkNest RX4 63 "RiddlePrison$Man" "cell" "I" "RiddlePrison" ∈ nsW)
  have ln_66 := (by decide +kernel : Cond.fieldLinkNest RX4 66 "RiddlePrison$Man" "known" "I" "RiddlePrison" ∈ nsW)
  have ln_69 := (by decide +kernel : Cond.fieldLinkNest RX4 69 "RiddlePrison$Man" "failed" "I" "RiddlePrison" ∈ nsW)
  have in_X4 := (fun w h => List.mem_cons_of_mem _ (List.mem_append_left _ (List.mem_append_right _ h)) : ∀ w ∈ wsX40, w ∈ wsX4_addMan)
  have in_X3 := (fun w h => List.mem_cons_of_mem _ (List.mem_append_right _ h) : ∀ w ∈ wsX30, w ∈ wsX4_addMan)
  refine lv_aload_n hx hb dX4_addMan_0 rfl (lv_at hl 0 rfl) ?_
  refine j_get (1, q, 0) 3 (v := .int (I q 1)) hC hB in_X4 lk_32 dX4_addMan_1 (jk1 (by omega)) rfl rfl (by decide) rfl ?_
  refine j_eqi (x := I q 1) (y := nI nm) (hM) ?_
  refine lv_iconst (v := nI 4) hx hb dX4_addMan_4 (by decide) ?_
  refine jn_icmp_lt (tgt := 11) hx hb dX4_addMan_5 (by decide) (by omega) (by omega) (fun c_5 => ?_) (fun c_5 => ?_)
  · refine lv_aload_n hx hb dX4_addMan_11 rfl (lv_at hl 0 rfl) ?_
    refine j_get (1, q, 0) 1 (v := .ref (G.2.2.1 (3, q, 0))) hC hB in_X4 lk_19 dX4_addMan_12 (jk1 (by omega)) rfl rfl (by decide) rfl ?_
    refine lv_aload_n hx hb dX4_addMan_15 rfl (lv_at hl 0 rfl) ?_
    refine j_get (1, q, 0) 3 (v := .int (I q 1)) hC hB in_X4 lk_32 dX4_addMan_16 (jk1 (by omega)) rfl rfl (by decide) rfl ?_
    refine j_eqi (x := I q 1) (y := nI nm) (hM) ?_
    refine j_ald (3, q, 0) (5, q, nm) 4 nm hC hB dX4_addMan_19 (jk3 (by omega)) rfl rfl rfl (by omega) (by decide) rfl ?_
    refine lv_astore (lv' := [(5, .ref (G.2.2.1 (5, q, nm))), (0, .ref (G.2.2.1 (1, q, 0))), (1, .int kind), (2, .int wit), (3, .int sort), (4, .int cell)]) hx hb dX4_addMan_20 hl (by decide) rfl (fun ls hl => ?_)
    refine lv_aload hx hb dX4_addMan_22 (lv_at hl 0 rfl) ?_
    refine lv_iload_n hx hb dX4_addMan_24 rfl (lv_at hl 2 rfl) ?_
    refine j_putN (5, q, nm) 0 (u2 I q (3 + nm) kind, J, O) (ty := .int) hC hB in_X3 tyX3_ok nmX3 ln_54 dX4_addMan_25 (jk5 (by omega) (by omega)) rfl rfl (by decide) rfl (by decide +kernel) rfl rfl (Nat.le_of_ble_eq_true rfl) (fun z hz hne => jw_fr z hz (by rw [jof_m3 (by omega) (by omega)]; exact hne)) (by simp [jw, u2]) (fun H locs hB => ?_)
    have hB : jB G A s_.heap (sr I q (upd (I q) (3 + nm) kind), J, O) H locs := by rw [show sr I q (upd (I q) (3 + nm) kind) = u2 I q (3 + nm) kind from (u2_eq _ _ _ _).symm]; exact hB
    refine lv_aload hx hb dX4_addMan_28 (lv_at hl 0 rfl) ?_
    refine lv_iload_n hx hb dX4_addMan_30 rfl (lv_at hl 3 rfl) ?_
    refine j_putN (5, q, nm) 1 (u2 (sr I q (upd (I q) (3 + nm) kind)) q (63 + nm) wit, J, O) (ty := .int) hC hB in_X3 tyX3_ok nmX3 ln_57 dX4_addMan_31 (jk5 (by omega) (by omega)) rfl rfl (by decide) rfl (by decide +kernel) rfl rfl (Nat.le_of_ble_eq_true rfl) (fun z hz hne => jw_fr z hz (by rw [jof_m63 (by omega) (by omega)]; exact hne)) (by simp [jw, u2]) (fun H locs hB => ?_)
    have hB : jB G A s_.heap (sr I q (upd (upd (I q) (3 + nm) kind) (63 + nm) wit), J, O) H locs := by rw [show sr I q (upd (upd (I q) (3 + nm) kind) (63 + nm) wit) = u2 (sr I q (upd (I q) (3 + nm) kind)) q (63 + nm) wit from (u2_sr _ _ _ _ _).symm]; exact hB
    refine lv_aload hx hb dX4_addMan_34 (lv_at hl 0 rfl) ?_
    refine lv_iload_n hx hb dX4_addMan_36 rfl (lv_at hl 4 rfl) ?_
    refine j_putN (5, q, nm) 2 (u2 (sr I q (upd (upd (I q) (3 + nm) kind) (63 + nm) wit)) q (7 + nm) sort, J, O) (ty := .int) hC hB in_X3 tyX3_ok nmX3 ln_60 dX4_addMan_37 (jk5 (by omega) (by omega)) rfl rfl (by decide) rfl (by decide +kernel) rfl rfl (Nat.le_of_ble_eq_true rfl) (fun z hz hne => jw_fr z hz (by rw [jof_m7 (by omega) (by omega)]; exact hne)) (by simp [jw, u2]) (fun H locs hB => ?_)
    have hB : jB G A s_.heap (sr I q (upd (upd (upd (I q) (3 + nm) kind) (63 + nm) wit) (7 + nm) sort), J, O) H locs := by rw [show sr I q (upd (upd (upd (I q) (3 + nm) kind) (63 + nm) wit) (7 + nm) sort) = u2 (sr I q (upd (upd (I q) (3 + nm) kind) (63 + nm) wit)) q (7 + nm) sort from (u2_sr _ _ _ _ _).symm]; exact hB
    refine lv_aload hx hb dX4_addMan_40 (lv_at hl 0 rfl) ?_
    refine lv_iload hx hb dX4_addMan_42 (lv_at hl 5 rfl) ?_
    refine j_putN (5, q, nm) 3 (u2 (sr I q (upd (upd (upd (I q) (3 + nm) kind) (63 + nm) wit) (7 + nm) sort)) q (51 + nm) cell, J, O) (ty := .int) hC hB in_X3 tyX3_ok nmX3 ln_63 dX4_addMan_44 (jk5 (by omega) (by omega)) rfl rfl (by decide) rfl (by decide +kernel) rfl rfl (Nat.le_of_ble_eq_true rfl) (fun z hz hne => jw_fr z hz (by rw [jof_m51 (by omega) (by omega)]; exact hne)) (by simp [jw, u2]) (fun H locs hB => ?_)
    have hB : jB G A s_.heap (sr I q (upd (upd (upd (upd (I q) (3 + nm) kind) (63 + nm) wit) (7 + nm) sort) (51 + nm) cell), J, O) H locs := by rw [show sr I q (upd (upd (upd (upd (I q) (3 + nm) kind) (63 + nm) wit) (7 + nm) sort) (51 + nm) cell) = u2 (sr I q (upd (upd (upd (I q) (3 + nm) kind) (63 + nm) wit) (7 + nm) sort)) q (51 + nm) cell from (u2_sr _ _ _ _ _).symm]; exact hB
    refine lv_aload hx hb dX4_addMan_47 (lv_at hl 0 rfl) ?_
    refine lv_iconst (v := nI 0) hx hb dX4_addMan_49 (by decide) ?_
    refine j_putN (5, q, nm) 4 (u2 (sr I q (upd (upd (upd (upd (I q) (3 + nm) kind) (63 + nm) wit) (7 + nm) sort) (51 + nm) cell)) q (55 + nm) (nI 0), J, O) (ty := .int) hC hB in_X3 tyX3_ok nmX3 ln_66 dX4_addMan_50 (jk5 (by omega) (by omega)) rfl rfl (by decide) rfl (by decide +kernel) rfl rfl (Nat.le_of_ble_eq_true rfl) (fun z hz hne => jw_fr z hz (by rw [jof_m55 (by omega) (by omega)]; exact hne)) (by simp [jw, u2]) (fun H locs hB => ?_)
    have hB : jB G A s_.heap (sr I q (upd (upd (upd (upd (upd (I q) (3 + nm) kind) (63 + nm) wit) (7 + nm) sort) (51 + nm) cell) (55 + nm) (nI 0)), J, O) H locs := by rw [show sr I q (upd (upd (upd (upd (upd (I q) (3 + nm) kind) (63 + nm) wit) (7 + nm) sort) (51 + nm) cell) (55 + nm) (nI 0)) = u2 (sr I q (upd (upd (upd (upd (I q) (3 + nm) kind) (63 + nm) wit) (7 + nm) sort) (51 + nm) cell)) q (55 + nm) (nI 0) from (u2_sr _ _ _ _ _).symm]; exact hB
    refine lv_aload hx hb dX4_addMan_53 (lv_at hl 0 rfl) ?_
    refine lv_iconst (v := nI 0) hx hb dX4_addMan_55 (by decide) ?_
    refine j_putN (5, q, nm) 5 (u2 (sr I q (upd (upd (upd (upd (upd (I q) (3 + nm) kind) (63 + nm) wit) (7 + nm) sort) (51 + nm) cell) (55 + nm) (nI 0))) q (59 + nm) (nI 0), J, O) (ty := .int) hC hB in_X3 tyX3_ok nmX3 ln_69 dX4_addMan_56 (jk5 (by omega) (by omega)) rfl rfl (by decide) rfl (by decide +kernel) rfl rfl (Nat.le_of_ble_eq_true rfl) (fun z hz hne => jw_fr z hz (by rw [jof_m59 (by omega) (by omega)]; exact hne)) (by simp [jw, u2]) (fun H locs hB => ?_)
    have hB : jB G A s_.heap (sr I q (upd (upd (upd (upd (upd (upd (I q) (3 + nm) kind) (63 + nm) wit) (7 + nm) sort) (51 + nm) cell) (55 + nm) (nI 0)) (59 + nm) (nI 0)), J, O) H locs := by rw [show sr I q (upd (upd (upd (upd (upd (upd (I q) (3 + nm) kind) (63 + nm) wit) (7 + nm) sort) (51 + nm) cell) (55 + nm) (nI 0)) (59 + nm) (nI 0)) = u2 (sr I q (upd (upd (upd (upd (upd (I q) (3 + nm) kind) (63 + nm) wit) (7 + nm) sort) (51 + nm) cell) (55 + nm) (nI 0))) q (59 + nm) (nI 0) from (u2_sr _ _ _ _ _).symm]; exact hB
    refine lv_aload_n hx hb dX4_addMan_59 rfl (lv_at hl 1 rfl) ?_
    refine lv_dup hx hb dX4_addMan_60 rfl ?_
    refine j_get (1, q, 0) 3 (v := .int ((sr I q (upd (upd (upd (upd (upd (upd (I q) (3 + nm) kind) (63 + nm) wit) (7 + nm) sort) (51 + nm) cell) (55 + nm) (nI 0)) (59 + nm) (nI 0))) q 1)) hC hB in_X4 lk_32 dX4_addMan_61 (jk1 (by omega)) rfl rfl (by decide) rfl ?_
    refine j_eqi (x := (sr I q (upd (upd (upd (upd (upd (upd (I q) (3 + nm) kind) (63 + nm) wit) (7 + nm) sort) (51 + nm) cell) (55 + nm) (nI 0)) (59 + nm) (nI 0))) q 1) (y := nI nm) ((congrFun sr_self _).trans ((pk_un (show (1 : Nat) ≠ 59 + nm by omega)).trans ((pk_un (show (1 : Nat) ≠ 55 + nm by omega)).trans ((pk_un (show (1 : Nat) ≠ 51 + nm by omega)).trans ((pk_un (show (1 : Nat) ≠ 7 + nm by omega)).trans ((pk_un (show (1 : Nat) ≠ 63 + nm by omega)).trans ((pk_un (show (1 : Nat) ≠ 3 + nm by omega)).trans (hM)))))))) ?_
    refine lv_iconst (v := nI 1) hx hb dX4_addMan_64 (by decide) ?_
    refine jn_iadd hx hb dX4_addMan_65 ?_
    refine j_put (1, q, 0) 3 (u2 (sr I q (upd (upd (upd (upd (upd (upd (I q) (3 + nm) kind) (63 + nm) wit) (7 + nm) sort) (51 + nm) cell) (55 + nm) (nI 0)) (59 + nm) (nI 0))) q 1 (nI (nm + 1)), J, O) (ty := .int) hC hB in_X4 tyX4_ok nmX4 lk_32 dX4_addMan_66 (jk1 (by omega)) rfl rfl (by decide) rfl (by decide +kernel) rfl rfl (Nat.le_of_ble_eq_true rfl) (fun z hz hne => jw_fr z hz (by rw [jof_p1 (by omega)]; exact hne)) (by simp [jw, u2]) (fun H locs hB => ?_)
    have hB : jB G A s_.heap (sr I q (upd (upd (upd (upd (upd (upd (upd (I q) (3 + nm) kind) (63 + nm) wit) (7 + nm) sort) (51 + nm) cell) (55 + nm) (nI 0)) (59 + nm) (nI 0)) 1 (nI (nm + 1))), J, O) H locs := by rw [show sr I q (upd (upd (upd (upd (upd (upd (upd (I q) (3 + nm) kind) (63 + nm) wit) (7 + nm) sort) (51 + nm) cell) (55 + nm) (nI 0)) (59 + nm) (nI 0)) 1 (nI (nm + 1))) = u2 (sr I q (upd (upd (upd (upd (upd (upd (I q) (3 + nm) kind) (63 + nm) wit) (7 + nm) sort) (51 + nm) cell) (55 + nm) (nI 0)) (59 + nm) (nI 0))) q 1 (nI (nm + 1)) from (u2_sr _ _ _ _ _).symm]; exact hB
    refine lv_aload_n hx hb dX4_addMan_69 rfl (lv_at hl 1 rfl) ?_
    refine j_get (1, q, 0) 3 (v := .int ((sr I q (upd (upd (upd (upd (upd (upd (upd (I q) (3 + nm) kind) (63 + nm) wit) (7 + nm) sort) (51 + nm) cell) (55 + nm) (nI 0)) (59 + nm) (nI 0)) 1 (nI (nm + 1)))) q 1)) hC hB in_X4 lk_32 dX4_addMan_70 (jk1 (by omega)) rfl rfl (by decide) rfl ?_
    refine j_eqi (x := (sr I q (upd (upd (upd (upd (upd (upd (upd (I q) (3 + nm) kind) (63 + nm) wit) (7 + nm) sort) (51 + nm) cell) (55 + nm) (nI 0)) (59 + nm) (nI 0)) 1 (nI (nm + 1)))) q 1) (y := nI (nm + 1)) ((congrFun sr_self _).trans (pk_us)) ?_
    refine lv_iconst (v := nI 1) hx hb dX4_addMan_73 (by decide) ?_
    refine jn_isub hx hb dX4_addMan_74 (by omega) ?_
    exact j_iret hC hB dX4_addMan_75 (⟨by rw [show nm + 1 - 1 = nm by omega], by simp only [amR, tN, hM, nIc (show nm < 2147483648 by omega)]⟩)
  · exact absurd c_5 (by omega)

set_option maxHeartbeats 4000000 in
set_option maxRecDepth 100000 in
theorem c_X4_become (l_ : Launch) (G : jG) (I : Nat → Nat → Int32) (J : Nat → Nat → Int64) (O : Nat → Nat → Nat) (q p : Nat) (hq : q < 19) (hp : p < 19) (hne : p ≠ q) {nd : Nat} (hnd : nd ≤ 10) (hD : I p 0 = nI nd) {nm : Nat} (hnm : nm ≤ 4) (hM : I p 1 = nI nm) : jMv l_ G yX4_become wsX4_become ({ frames := 1, cells := 0, slots := 0, locals := 21 }) [.ref (G.2.2.1 (1, q, 0)), .ref (G.2.2.1 (1, p, 0))] (I, J, O) (fun u => u = (sr I q (pcR (I q) (I p) nd nm), J, O)) := by
  refine jMv_of (cc := cX4_become) (maxL := 3) (ret := none) (lv0 := [(0, .ref (G.2.2.1 (1, q, 0))), (1, .ref (G.2.2.1 (1, p, 0)))]) (by decide) rfl (Nat.le_of_ble_eq_true rfl) rfl ?_
  intro pg_ ev_ s_ mi_ below meth cd_ A ls hC hB hl
  obtain ⟨hx, hb, hr, hml, hown, hts, hlocks, hK, hA⟩ := id hC
  have lk_29 := hts (.fieldLink RX4 29 "RiddlePrison$Prison" "doorCount" "I") (by decide +kernel)
  have lk_32 := hts (.fieldLink RX4 32 "RiddlePrison$Prison" "manCount" "I") (by decide +kernel)
  have lk_23 := hts (.fieldLink RX4 23 "RiddlePrison$Prison" "draw" "I") (by decide +kernel)
  have lk_19 := hts (.fieldLink RX4 19 "RiddlePrison$Prison" "men" "[LRiddlePrison$Man;") (by decide +kernel)
  have lk_11 := hts (.fieldLink RX4 11 "RiddlePrison$Prison" "doors" "[LRiddlePrison$Door;") (by decide +kernel)
  have in_X4 := (fun w h => List.mem_cons_of_mem _ (List.mem_append_left _ (List.mem_append_left _ (List.mem_append_right _ h))) : ∀ w ∈ wsX40, w ∈ wsX4_become)
  refine lv_aload_n hx hb dX4_become_0 rfl (lv_at hl 0 rfl) ?_
  refine lv_aload_n hx hb dX4_become_1 rfl (lv_at hl 1 rfl) ?_
  refine j_get (1, p, 0) 2 (v := .int (I p 0)) hC hB in_X4 lk_29 dX4_become_2 (jk1 (by omega)) rfl rfl (by decide) rfl ?_
  refine j_eqi (x := I p 0) (y := nI nd) (hD) ?_
  refine j_put (1, q, 0) 2 (u2 I q 0 (nI nd), J, O) (ty := .int) hC hB in_X4 tyX4_ok nmX4 lk_29 dX4_become_5 (jk1 (by omega)) rfl rfl (by decide) rfl (by decide +kernel) rfl rfl (Nat.le_of_ble_eq_true rfl) (fun z hz hne => jw_fr z hz (by rw [jof_p0 (by omega)]; exact hne)) (by simp [jw, u2]) (fun H locs hB => ?_)
  have hB : jB G A s_.heap (sr I q (upd (I q) 0 (nI nd)), J, O) H locs := by rw [show sr I q (upd (I q) 0 (nI nd)) = u2 I q 0 (nI nd) from (u2_eq _ _ _ _).symm]; exact hB
  refine lv_aload_n hx hb dX4_become_8 rfl (lv_at hl 0 rfl) ?_
  refine lv_aload_n hx hb dX4_become_9 rfl (lv_at hl 1 rfl) ?_
  refine j_get (1, p, 0) 3 (v := .int ((sr I q (upd (I q) 0 (nI nd))) p 1)) hC hB in_X4 lk_32 dX4_become_10 (jk1 (by omega)) rfl rfl (by decide) rfl ?_
  refine j_eqi (x := (sr I q (upd (I q) 0 (nI nd))) p 1) (y := nI nm) ((congrFun (sr_ne (show (p : Nat) ≠ q by omega)) _).trans (hM)) ?_
  refine j_put (1, q, 0) 3 (u2 (sr I q (upd (I q) 0 (nI nd))) q 1 (nI nm), J, O) (ty := .int) hC hB in_X4 tyX4_ok nmX4 lk_32 dX4_become_13 (jk1 (by omega)) rfl rfl (by decide) rfl (by decide +kernel) rfl rfl (Nat.le_of_ble_eq_true rfl) (fun z hz hne => jw_fr z hz (by rw [jof_p1 (by omega)]; exact hne)) (by simp [jw, u2]) (fun H locs hB => ?_)
  have hB : jB G A s_.heap (sr I q (upd (upd (I q) 0 (nI nd)) 1 (nI nm)), J, O) H locs := by rw [show sr I q (upd (upd (I q) 0 (nI nd)) 1 (nI nm)) = u2 (sr I q (upd (I q) 0 (nI nd))) q 1 (nI nm) from (u2_sr _ _ _ _ _).symm]; exact hB
  refine lv_aload_n hx hb dX4_become_16 rfl (lv_at hl 0 rfl) ?_
  refine lv_aload_n hx hb dX4_become_17 rfl (lv_at hl 1 rfl) ?_
  refine j_get (1, p, 0) 4 (v := .int ((sr I q (upd (upd (I q) 0 (nI nd)) 1 (nI nm))) p 67)) hC hB in_X4 lk_23 dX4_become_18 (jk1 (by omega)) rfl rfl (by decide) rfl ?_
  refine j_eqi (x := (sr I q (upd (upd (I q) 0 (nI nd)) 1 (nI nm))) p 67) (y := (I p) 67) ((congrFun (sr_ne (show (p : Nat) ≠ q by omega)) _)) ?_
  refine j_put (1, q, 0) 4 (u2 (sr I q (upd (upd (I q) 0 (nI nd)) 1 (nI nm))) q 67 ((I p) 67), J, O) (ty := .int) hC hB in_X4 tyX4_ok nmX4 lk_23 dX4_become_21 (jk1 (by omega)) rfl rfl (by decide) rfl (by decide +kernel) rfl rfl (Nat.le_of_ble_eq_true rfl) (fun z hz hne => jw_fr z hz (by rw [jof_p67 (by omega)]; exact hne)) (by simp [jw, u2]) (fun H locs hB => ?_)
  have hB : jB G A s_.heap (sr I q (upd (upd (upd (I q) 0 (nI nd)) 1 (nI nm)) 67 ((I p) 67)), J, O) H locs := by rw [show sr I q (upd (upd (upd (I q) 0 (nI nd)) 1 (nI nm)) 67 ((I p) 67)) = u2 (sr I q (upd (upd (I q) 0 (nI nd)) 1 (nI nm))) q 67 ((I p) 67) from (u2_sr _ _ _ _ _).symm]; exact hB
  refine lv_iconst (v := nI 0) hx hb dX4_become_24 (by decide) ?_
  refine lv_istore_n (lv' := [(2, .int (nI 0)), (0, .ref (G.2.2.1 (1, q, 0))), (1, .ref (G.2.2.1 (1, p, 0)))]) hx hb dX4_become_25 rfl hl (by decide) rfl (fun ls hl => ?_)
  have lp_26 : ∀ (fu : Nat) (f : Nat → Int32) (k : Nat), nd - k < fu → (k ≤ nd) → (f = it (fun k s => dbR s (I p) k k) k (upd (upd (upd (I q) 0 (I p 0)) 1 (I p 1)) 67 (I p 67))) → (f 0 = nI nd) → (f 1 = nI nm) → ∀ H locs ls, jB G A s_.heap (sr I q (f), J, O) H locs → lv_has ls 3 [(2, .int (nI k)), (0, .ref (G.2.2.1 (1, q, 0))), (1, .ref (G.2.2.1 (1, p, 0)))] → W pg_ l_ ev_ ({ frames := 1, cells := 0, slots := 0, locals := 21 }) s_ mi_ ([.ref (G.2.2.1 (1, q, 0)), .ref (G.2.2.1 (1, p, 0))]).toArray below meth cd_ H locs 0 0 (jQv G A below [.ref (G.2.2.1 (1, q, 0)), .ref (G.2.2.1 (1, p, 0))] s_ (fun u => u = (sr I q (pcR (I q) (I p) nd nm), J, O))) (F0 mi_ 26 ls []) := by
    intro fu
    induction fu with
    | zero => intro f k hf; exact absurd hf (Nat.not_lt_zero _)
    | succ fu ih_26 =>
      intro f k hf_26 hk hf h0 h1 H locs ls hB hl
      refine lv_iload_n hx hb dX4_become_26 rfl (lv_at hl 0 rfl) ?_
      refine lv_aload_n hx hb dX4_become_27 rfl (lv_at hl 1 rfl) ?_
      refine j_get (1, q, 0) 2 (v := .int ((sr I q (f)) q 0)) hC hB in_X4 lk_29 dX4_become_28 (jk1 (by omega)) rfl rfl (by decide) rfl ?_
      refine j_eqi (x := (sr I q (f)) q 0) (y := nI nd) ((congrFun sr_self _).trans (h0)) ?_
      refine jn_icmp_ge (tgt := 55) hx hb dX4_become_31 (by decide) (by omega) (by omega) (fun c_31 => ?_) (fun c_31 => ?_)
      · refine lv_iconst (v := nI 0) hx hb dX4_become_55 (by decide) ?_
        refine lv_istore_n (lv' := [(2, .int (nI 0)), (0, .ref (G.2.2.1 (1, q, 0))), (1, .ref (G.2.2.1 (1, p, 0)))]) hx hb dX4_become_56 rfl hl (by decide) rfl (fun ls hl => ?_)
        have lp_57 : ∀ (fu : Nat) (f2 : Nat → Int32) (k2 : Nat), nm - k2 < fu → (k2 ≤ nm) → (f2 = it (fun k s => mbR s (I p) k k) k2 f) → (f2 1 = nI nm) → ∀ H locs ls, jB G A s_.heap (sr I q (f2), J, O) H locs → lv_has ls 3 [(2, .int (nI k2)), (0, .ref (G.2.2.1 (1, q, 0))), (1, .ref (G.2.2.1 (1, p, 0)))] → W pg_ l_ ev_ ({ frames := 1, cells := 0, slots := 0, locals := 21 }) s_ mi_ ([.ref (G.2.2.1 (1, q, 0)), .ref (G.2.2.1 (1, p, 0))]).toArray below meth cd_ H locs 0 0 (jQv G A below [.ref (G.2.2.1 (1, q, 0)), .ref (G.2.2.1 (1, p, 0))] s_ (fun u => u = (sr I q (pcR (I q) (I p) nd nm), J, O))) (F0 mi_ 57 ls []) := by
          intro fu
          induction fu with
          | zero => intro f2 k2 hf; exact absurd hf (Nat.not_lt_zero _)
          | succ fu ih_57 =>
            intro f2 k2 hf_57 hk2 hf2 h12 H locs ls hB hl
            refine lv_iload_n hx hb dX4_become_57 rfl (lv_at hl 0 rfl) ?_
            refine lv_aload_n hx hb dX4_become_58 rfl (lv_at hl 1 rfl) ?_
            refine j_get (1, q, 0) 3 (v := .int ((sr I q (f2)) q 1)) hC hB in_X4 lk_32 dX4_become_59 (jk1 (by omega)) rfl rfl (by decide) rfl ?_
            refine j_eqi (x := (sr I q (f2)) q 1) (y := nI nm) ((congrFun sr_self _).trans (h12)) ?_
            refine jn_icmp_ge (tgt := 86) hx hb dX4_become_62 (by decide) (by omega) (by omega) (fun c_62 => ?_) (fun c_62 => ?_)
            · exact j_vret hC hB dX4_become_86 (by rw [hf2, show k2 = nm by omega, hf, show k = nd by omega]; rfl)
            · refine lv_aload_n hx hb dX4_become_65 rfl (lv_at hl 1 rfl) ?_
              refine j_get (1, q, 0) 1 (v := .ref (G.2.2.1 (3, q, 0))) hC hB in_X4 lk_19 dX4_become_66 (jk1 (by omega)) rfl rfl (by decide) rfl ?_
              refine lv_iload_n hx hb dX4_become_69 rfl (lv_at hl 0 rfl) ?_
              refine j_ald (3, q, 0) (5, q, k2) 4 k2 hC hB dX4_become_70 (jk3 (by omega)) rfl rfl rfl (by omega) (by decide) rfl ?_
              refine lv_aload_n hx hb dX4_become_71 rfl (lv_at hl 2 rfl) ?_
              refine j_get (1, p, 0) 1 (v := .ref (G.2.2.1 (3, p, 0))) hC hB in_X4 lk_19 dX4_become_72 (jk1 (by omega)) rfl rfl (by decide) rfl ?_
              refine lv_iload_n hx hb dX4_become_75 rfl (lv_at hl 0 rfl) ?_
              refine j_ald (3, p, 0) (5, p, k2) 4 k2 hC hB dX4_become_76 (jk3 (by omega)) rfl rfl rfl (by omega) (by decide) rfl ?_
              refine j_cvv (5, q, k2) [.ref (G.2.2.1 (5, p, k2))] hC hB hl.1 (c_X3_become l_ G (sr I q (f2)) J O q k2 p k2 ((jk5 (by omega) (by omega))) ((jk5 (by omega) (by omega))) (by omega)) (cwV 1 hts gX4_become_X3_become rfl rfl rfl (by decide +kernel) ⟨by decide, by decide⟩) dX4_become_77 (jk5 (by omega) (by omega)) rfl rfl rfl rfl (Nat.le_of_ble_eq_true rfl) (fun u_77 H locs hp_77 hB => ?_)
              obtain rfl := hp_77
              try simp only [show (sr I q (f2)) q = f2 from sr_self, show (sr I q (f2)) p = I p from (sr_ne (show (p : Nat) ≠ q by omega))] at hB
              have hB : jB G A s_.heap (sr I q (mbR (f2) (I p) k2 k2), J, O) H locs := by rw [show sr I q (mbR (f2) (I p) k2 k2) = sr (sr I q (f2)) q (mbR (f2) (I p) k2 k2) from by funext a; simp +decide only [sr]; (repeat' split) <;> first | rfl | (exfalso; omega) | (subst_vars; rfl)]; exact hB
              refine lv_iinc (v := nI (k2 + 1)) (lv' := [(2, .int (nI (k2 + 1))), (0, .ref (G.2.2.1 (1, q, 0))), (1, .ref (G.2.2.1 (1, p, 0)))]) hx hb dX4_become_80 hl (k := 0) rfl (jn_inc _ 1) (by decide) rfl (fun ls hl => ?_)
              refine lv_goto (tgt := 57) hx hb dX4_become_83 (by decide) ?_
              exact ih_57 (mbR (f2) (I p) k2 k2) (k2 + 1) (by omega) (by omega) (by rw [hf2]; rfl) ((mbR_lo (by omega) (by omega)).trans h12) _ _ _ (jB_cast2 hB (by first | rfl | exact (sr_id _ _).symm | exact (srJ_id _ _).symm | (funext a; simp +decide only [sr, srJ]; (repeat' split) <;> first | rfl | (exfalso; omega) | (subst_vars; rfl))) (by first | rfl | exact (sr_id _ _).symm | exact (srJ_id _ _).symm | (funext a; simp +decide only [sr, srJ]; (repeat' split) <;> first | rfl | (exfalso; omega) | (subst_vars; rfl)))) (lv_sub hl [0, 1, 2] rfl)
        exact lp_57 _ f 0 (Nat.lt_succ_self _) (by omega) (rfl) (h1) _ _ _ (jB_cast2 hB (by first | rfl | exact (sr_id _ _).symm | exact (srJ_id _ _).symm | (funext a; simp +decide only [sr, srJ]; (repeat' split) <;> first | rfl | (exfalso; omega) | (subst_vars; rfl))) (by first | rfl | exact (sr_id _ _).symm | exact (srJ_id _ _).symm | (funext a; simp +decide only [sr, srJ]; (repeat' split) <;> first | rfl | (exfalso; omega) | (subst_vars; rfl)))) (lv_sub hl [0, 1, 2] rfl)
      · refine lv_aload_n hx hb dX4_become_34 rfl (lv_at hl 1 rfl) ?_
        refine j_get (1, q, 0) 0 (v := .ref (G.2.2.1 (2, q, 0))) hC hB in_X4 lk_11 dX4_become_35 (jk1 (by omega)) rfl rfl (by decide) rfl ?_
        refine lv_iload_n hx hb dX4_become_38 rfl (lv_at hl 0 rfl) ?_
        refine j_ald (2, q, 0) (4, q, k) 3 k hC hB dX4_become_39 (jk2 (by omega)) rfl rfl rfl (by omega) (by decide) rfl ?_
        refine lv_aload_n hx hb dX4_become_40 rfl (lv_at hl 2 rfl) ?_
        refine j_get (1, p, 0) 0 (v := .ref (G.2.2.1 (2, p, 0))) hC hB in_X4 lk_11 dX4_become_41 (jk1 (by omega)) rfl rfl (by decide) rfl ?_
        refine lv_iload_n hx hb dX4_become_44 rfl (lv_at hl 0 rfl) ?_
        refine j_ald (2, p, 0) (4, p, k) 3 k hC hB dX4_become_45 (jk2 (by omega)) rfl rfl rfl (by omega) (by decide) rfl ?_
        refine j_cvv (4, q, k) [.ref (G.2.2.1 (4, p, k))] hC hB hl.1 (c_X0_become l_ G (sr I q (f)) J O q k p k ((jk4 (by omega) (by omega))) ((jk4 (by omega) (by omega))) (by omega)) (cwV 1 hts gX4_become_X0_become rfl rfl rfl (by decide +kernel) ⟨by decide, by decide⟩) dX4_become_46 (jk4 (by omega) (by omega)) rfl rfl rfl rfl (Nat.le_of_ble_eq_true rfl) (fun u_46 H locs hp_46 hB => ?_)
        obtain rfl := hp_46
        try simp only [show (sr I q (f)) q = f from sr_self, show (sr I q (f)) p = I p from (sr_ne (show (p : Nat) ≠ q by omega))] at hB
        have hB : jB G A s_.heap (sr I q (dbR (f) (I p) k k), J, O) H locs := by rw [show sr I q (dbR (f) (I p) k k) = sr (sr I q (f)) q (dbR (f) (I p) k k) from by funext a; simp +decide only [sr]; (repeat' split) <;> first | rfl | (exfalso; omega) | (subst_vars; rfl)]; exact hB
        refine lv_iinc (v := nI (k + 1)) (lv' := [(2, .int (nI (k + 1))), (0, .ref (G.2.2.1 (1, q, 0))), (1, .ref (G.2.2.1 (1, p, 0)))]) hx hb dX4_become_49 hl (k := 0) rfl (jn_inc _ 1) (by decide) rfl (fun ls hl => ?_)
        refine lv_goto (tgt := 26) hx hb dX4_become_52 (by decide) ?_
        exact ih_26 (dbR (f) (I p) k k) (k + 1) (by omega) (by omega) (by rw [hf]; rfl) ((dbR_lo (by omega) (by omega)).trans h0) ((dbR_lo (by omega) (by omega)).trans h1) _ _ _ (jB_cast2 hB (by first | rfl | exact (sr_id _ _).symm | exact (srJ_id _ _).symm | (funext a; simp +decide only [sr, srJ]; (repeat' split) <;> first | rfl | (exfalso; omega) | (subst_vars; rfl))) (by first | rfl | exact (sr_id _ _).symm | exact (srJ_id _ _).symm | (funext a; simp +decide only [sr, srJ]; (repeat' split) <;> first | rfl | (exfalso; omega) | (subst_vars; rfl)))) (lv_sub hl [0, 1, 2] rfl)
  exact lp_26 _ (upd (upd (upd (I q) 0 (nI nd)) 1 (nI nm)) 67 ((I p) 67)) 0 (Nat.lt_succ_self _) (by omega) (by rw [hD, hM]; rfl) (rfl) (rfl) _ _ _ (jB_cast2 hB (by first | rfl | exact (sr_id _ _).symm | exact (srJ_id _ _).symm | (funext a; simp +decide only [sr, srJ]; (repeat' split) <;> first | rfl | (exfalso; omega) | (subst_vars; rfl))) (by first | rfl | exact (sr_id _ _).symm | exact (srJ_id _ _).symm | (funext a; simp +decide only [sr, srJ]; (repeat' split) <;> first | rfl | (exfalso; omega) | (subst_vars; rfl)))) (lv_sub hl [0, 1, 2] rfl)

set_option maxHeartbeats 4000000 in
set_option maxRecDepth 100000 in
theorem c_X4_driftOnce (l_ : Launch) (G : jG) (I : Nat → Nat → Int32) (J : Nat → Nat → Int64) (O : Nat → Nat → Nat) (q : Nat) (hq : q < 19) {nd : Nat} (hnd : nd ≤ 10) (hD : I q 0 = nI nd) {nm : Nat} (hnm : nm ≤ 4) (hM : I q 1 = nI nm) : jMv l_ G yX4_driftOnce wsX4_driftOnce ({ frames := 4, cells := 0, slots := 0, locals := 98 }) [.ref (G.2.2.1 (1, q, 0))] (I, J, O) (fun u => u = (sr I q (dwR (I q) nd nm), J, O)) := by
  refine jMv_of (cc := cX4_driftOnce) (maxL := 1) (ret := none) (lv0 := [(0, .ref (G.2.2.1 (1, q, 0)))]) (by decide) rfl (Nat.le_of_ble_eq_true rfl) rfl ?_
  intro pg_ ev_ s_ mi_ below meth cd_ A ls hC hB hl
  obtain ⟨hx, hb, hr, hml, hown, hts, hlocks, hK, hA⟩ := id hC
  have lk_23 := hts (.fieldLink RX4 23 "RiddlePrison$Prison" "draw" "I") (by decide +kernel)
  have lk_32 := hts (.fieldLink RX4 32 "RiddlePrison$Prison" "manCount" "I") (by decide +kernel)
  have lk_29 := hts (.fieldLink RX4 29 "RiddlePrison$Prison" "doorCount" "I") (by decide +kernel)
  have lk_19 := hts (.fieldLink RX4 19 "RiddlePrison$Prison" "men" "[LRiddlePrison$Man;") (by decide +kernel)
  have in_X4 := (fun w h => List.mem_cons_of_mem _ (List.mem_append_left _ (List.mem_append_left _ (List.mem_append_right _ h))) : ∀ w ∈ wsX40, w ∈ wsX4_driftOnce)
  refine lv_aload_n hx hb dX4_driftOnce_0 rfl (lv_at hl 0 rfl) ?_
  refine lv_aload_n hx hb dX4_driftOnce_1 rfl (lv_at hl 0 rfl) ?_
  refine j_get (1, q, 0) 4 (v := .int (I q 67)) hC hB in_X4 lk_23 dX4_driftOnce_2 (jk1 (by omega)) rfl rfl (by decide) rfl ?_
  refine lv_ldc (v := 1103515245) hx hb hown (hts (.constant RX4 94 (1103515245)) (by decide +kernel)) dX4_driftOnce_5 ?_
  refine j_eqi (y := nI 1103515245) rfl ?_
  refine lv_imul hx hb dX4_driftOnce_7 ?_
  refine lv_sipush (v := nI 12345) hx hb dX4_driftOnce_8 (by decide) ?_
  refine lv_iadd hx hb dX4_driftOnce_11 ?_
  refine lv_ldc (v := 2147483647) hx hb hown (hts (.constant RX4 95 (2147483647)) (by decide +kernel)) dX4_driftOnce_12 ?_
  refine j_eqi (y := nI 2147483647) rfl ?_
  refine lv_iand hx hb dX4_driftOnce_14 ?_
  refine j_eqi (y := drawF (I q 67)) (draw_eq _) ?_
  refine j_put (1, q, 0) 4 (u2 I q 67 (drawF (I q 67)), J, O) (ty := .int) hC hB in_X4 tyX4_ok nmX4 lk_23 dX4_driftOnce_15 (jk1 (by omega)) rfl rfl (by decide) rfl (by decide +kernel) rfl rfl (Nat.le_of_ble_eq_true rfl) (fun z hz hne => jw_fr z hz (by rw [jof_p67 (by omega)]; exact hne)) (by simp [jw, u2]) (fun H locs hB => ?_)
  have hB : jB G A s_.heap (sr I q (upd (I q) 67 (drawF (I q 67))), J, O) H locs := by rw [show sr I q (upd (I q) 67 (drawF (I q 67))) = u2 I q 67 (drawF (I q 67)) from (u2_eq _ _ _ _).symm]; exact hB
  obtain ⟨w, hw, ew⟩ := drawF_nat (I q 67)
  refine lv_aload_n hx hb dX4_driftOnce_18 rfl (lv_at hl 0 rfl) ?_
  refine j_get (1, q, 0) 3 (v := .int ((sr I q (upd (I q) 67 (drawF (I q 67)))) q 1)) hC hB in_X4 lk_32 dX4_driftOnce_19 (jk1 (by omega)) rfl rfl (by decide) rfl ?_
  refine j_eqi (x := (sr I q (upd (I q) 67 (drawF (I q 67)))) q 1) (y := nI nm) ((congrFun sr_self _).trans ((pk_un (show (1 : Nat) ≠ 67 by omega)).trans (hM))) ?_
  refine jn_if_le (tgt := 67) hx hb dX4_driftOnce_22 (by decide) (by omega) (fun c_22 => ?_) (fun c_22 => ?_)
  · exact j_vret hC hB dX4_driftOnce_67 (by first | (simp [dwR, tN, ew, nIc (show w < 2147483648 by omega), show 0 < nm by omega, show 0 < nd by omega]; done) | (simp [dwR, tN, ew, show ¬ (0 < nm ∧ 0 < nd) by omega]; done))
  · refine lv_aload_n hx hb dX4_driftOnce_25 rfl (lv_at hl 0 rfl) ?_
    refine j_get (1, q, 0) 2 (v := .int ((sr I q (upd (I q) 67 (drawF (I q 67)))) q 0)) hC hB in_X4 lk_29 dX4_driftOnce_26 (jk1 (by omega)) rfl rfl (by decide) rfl ?_
    refine j_eqi (x := (sr I q (upd (I q) 67 (drawF (I q 67)))) q 0) (y := nI nd) ((congrFun sr_self _).trans ((pk_un (show (0 : Nat) ≠ 67 by omega)).trans (hD))) ?_
    refine jn_if_le (tgt := 67) hx hb dX4_driftOnce_29 (by decide) (by omega) (fun c_29 => ?_) (fun c_29 => ?_)
    · exact j_vret hC hB dX4_driftOnce_67 (by first | (simp [dwR, tN, ew, nIc (show w < 2147483648 by omega), show 0 < nm by omega, show 0 < nd by omega]; done) | (simp [dwR, tN, ew, show ¬ (0 < nm ∧ 0 < nd) by omega]; done))
    · refine lv_aload_n hx hb dX4_driftOnce_32 rfl (lv_at hl 0 rfl) ?_
      refine lv_aload_n hx hb dX4_driftOnce_33 rfl (lv_at hl 0 rfl) ?_
      refine j_get (1, q, 0) 1 (v := .ref (G.2.2.1 (3, q, 0))) hC hB in_X4 lk_19 dX4_driftOnce_34 (jk1 (by omega)) rfl rfl (by decide) rfl ?_
      refine lv_aload_n hx hb dX4_driftOnce_37 rfl (lv_at hl 0 rfl) ?_
      refine j_get (1, q, 0) 4 (v := .int ((sr I q (upd (I q) 67 (drawF (I q 67)))) q 67)) hC hB in_X4 lk_23 dX4_driftOnce_38 (jk1 (by omega)) rfl rfl (by decide) rfl ?_
      refine j_eqi (x := (sr I q (upd (I q) 67 (drawF (I q 67)))) q 67) (y := drawF (I q 67)) ((congrFun sr_self _).trans (pk_us)) ?_
      refine j_eqi (y := nI w) (ew) ?_
      refine lv_ldc (v := 65536) hx hb hown (hts (.constant RX4 96 (65536)) (by decide +kernel)) dX4_driftOnce_41 ?_
      refine j_eqi (y := nI 65536) rfl ?_
      refine jn_idiv hx hb dX4_driftOnce_43 (by omega) (by omega) (by omega) ?_
      refine lv_aload_n hx hb dX4_driftOnce_44 rfl (lv_at hl 0 rfl) ?_
      refine j_get (1, q, 0) 3 (v := .int ((sr I q (upd (I q) 67 (drawF (I q 67)))) q 1)) hC hB in_X4 lk_32 dX4_driftOnce_45 (jk1 (by omega)) rfl rfl (by decide) rfl ?_
      refine j_eqi (x := (sr I q (upd (I q) 67 (drawF (I q 67)))) q 1) (y := nI nm) ((congrFun sr_self _).trans ((pk_un (show (1 : Nat) ≠ 67 by omega)).trans (hM))) ?_
      refine jn_irem hx hb dX4_driftOnce_48 (by omega) (by omega) (by omega) ?_
      have hr1 : w / 65536 % nm < nm := Nat.mod_lt _ (by omega)
      refine j_ald (3, q, 0) (5, q, (w / 65536) % nm) 4 ((w / 65536) % nm) hC hB dX4_driftOnce_49 (jk3 (by omega)) rfl rfl rfl (by omega) (by decide) rfl ?_
      refine lv_aload_n hx hb dX4_driftOnce_50 rfl (lv_at hl 0 rfl) ?_
      refine j_get (1, q, 0) 4 (v := .int ((sr I q (upd (I q) 67 (drawF (I q 67)))) q 67)) hC hB in_X4 lk_23 dX4_driftOnce_51 (jk1 (by omega)) rfl rfl (by decide) rfl ?_
      refine j_eqi (x := (sr I q (upd (I q) 67 (drawF (I q 67)))) q 67) (y := drawF (I q 67)) ((congrFun sr_self _).trans (pk_us)) ?_
      refine j_eqi (y := nI w) (ew) ?_
      refine lv_sipush (v := nI 128) hx hb dX4_driftOnce_54 (by decide) ?_
      refine jn_idiv hx hb dX4_driftOnce_57 (by omega) (by omega) (by omega) ?_
      refine lv_aload_n hx hb dX4_driftOnce_58 rfl (lv_at hl 0 rfl) ?_
      refine j_get (1, q, 0) 2 (v := .int ((sr I q (upd (I q) 67 (drawF (I q 67)))) q 0)) hC hB in_X4 lk_29 dX4_driftOnce_59 (jk1 (by omega)) rfl rfl (by decide) rfl ?_
      refine j_eqi (x := (sr I q (upd (I q) 67 (drawF (I q 67)))) q 0) (y := nI nd) ((congrFun sr_self _).trans ((pk_un (show (0 : Nat) ≠ 67 by omega)).trans (hD))) ?_
      refine jn_irem hx hb dX4_driftOnce_62 (by omega) (by omega) (by omega) ?_
      have hr2 : w / 128 % nd < nd := Nat.mod_lt _ (by omega)
      refine j_cvi (1, q, 0) [.ref (G.2.2.1 (5, q, (w / 65536) % nm)), .int (nI ((w / 128) % nd))] hC hB hl.1 (c_X4_letTry l_ G (sr I q (upd (I q) 67 (drawF (I q 67)))) J O q q ((w / 65536) % nm) ((w / 128) % nd) (by omega) ((jk5 (by omega) (by omega))) (by omega)) (cwV 2 hts gX4_driftOnce_X4_letTry rfl rfl rfl (by decide +kernel) ⟨by decide, by decide⟩) dX4_driftOnce_63 (jk1 (by omega)) rfl rfl rfl rfl (Nat.le_of_ble_eq_true rfl) (fun r_63 u_63 H locs hp_63 hB => ?_)
      obtain ⟨rfl, rfl⟩ := hp_63
      try simp only [show (sr I q (upd (I q) 67 (drawF (I q 67)))) q = upd (I q) 67 (drawF (I q 67)) from sr_self] at hB
      have hB : jB G A s_.heap (sr I q (ltR (upd (I q) 67 (drawF (I q 67))) (upd (I q) 67 (drawF (I q 67))) ((w / 65536) % nm) ((w / 128) % nd)), J, O) H locs := by rw [show sr I q (ltR (upd (I q) 67 (drawF (I q 67))) (upd (I q) 67 (drawF (I q 67))) ((w / 65536) % nm) ((w / 128) % nd)) = sr (sr I q (upd (I q) 67 (drawF (I q 67)))) q (ltR (upd (I q) 67 (drawF (I q 67))) (upd (I q) 67 (drawF (I q 67))) ((w / 65536) % nm) ((w / 128) % nd)) from by funext a; simp +decide only [sr]; (repeat' split) <;> first | rfl | (exfalso; omega) | (subst_vars; rfl)]; exact hB
      refine j_eqi (y := b2 (opB (upd (I q) 67 (drawF (I q 67))) (upd (I q) 67 (drawF (I q 67))) ((w / 65536) % nm) ((w / 128) % nd))) (by first | rfl | simp only [show (sr I q (upd (I q) 67 (drawF (I q 67)))) q = upd (I q) 67 (drawF (I q 67)) from sr_self]) ?_
      refine lv_pop hx hb dX4_driftOnce_66 rfl ?_
      exact j_vret hC hB dX4_driftOnce_67 (by first | (simp [dwR, tN, ew, nIc (show w < 2147483648 by omega), show 0 < nm by omega, show 0 < nd by omega]; done) | (simp [dwR, tN, ew, show ¬ (0 < nm ∧ 0 < nd) by omega]; done))
