set_option maxHeartbeats 4000000 in
set_option maxRecDepth 100000 in
theorem ciX4 (l : Launch) (D : va_G) (cA : Nat → ClassId) (h0 sz : Nat) : cnM l D cA yX4_init wsX4_init rmI4 h0 sz [] (.inr (4, [.null, .null, .int 0, .int 0, .int 0])) (cp_e4 (sz)) 16 (cp_f4 cA (sz)) := by
  refine cnM_of (cc := cX4_init) (maxL := 2) (lv0 := [(0, .ref h0)]) (by decide) rfl rfl (by show _ ≤ 2; exact Nat.le_of_ble_eq_true rfl) rfl ?_
  intro p e s m below meth c ls hC hsz hE hl
  obtain ⟨hx, hb, hr, hml, hown, hts, hlocks, hin, hP⟩ := id hC
  have hA : ∀ q, s.heap.size ≤ q → cnA h0 sz q := fun q h => Or.inr (by omega)
  have hlt : h0 < sz := by have h := hE.lt; dsimp only at h; omega
  have hS : va_S (cnA h0 sz) s.heap s.heap [] := va_S.rf
  have hz : s.heap.size = sz + 0 := hsz
  refine lv_aload_n hx hb dX4_init_0 rfl (lv_at hl 0 rfl) ?_
  refine cn_obj hC hl.1 (List.mem_of_getElem? (i := 1) rfl) (List.mem_of_getElem? (i := 2) rfl) (List.mem_of_getElem? (i := 3) rfl) dX4_init_1 (by decide) (by decide) ?_
  refine lv_aload_n hx hb dX4_init_4 rfl (lv_at hl 0 rfl) ?_
  refine lv_bipush (v := nI 10) hx hb dX4_init_5 (by decide) ?_
  refine cn_newq (C := RX0) (t0 := 3) (N' := 10) hC (List.mem_of_getElem? (i := 4) rfl) (List.mem_of_getElem? (i := 0) rfl) rfl (by decide) (by decide) (by decide) (Nat.le_of_ble_eq_true rfl) (Nat.le_of_ble_eq_true rfl) dX4_init_7 hz hS (fun H hc1 hz2 o hS => ?_)
  have hE := cn_kn hE (o _ (by omega))
  have hz : H.size = sz + 1 := by omega
  refine cn_put (T := TX4) (ci := 4) (v := .ref (sz + 0)) 0 hC inI4_4 tyX4_ok nmX4 (List.mem_of_getElem? (i := 5) rfl) dX4_init_10 hE rfl (by decide) rfl (tyX4_ok 0 (by decide)) rfl rfl (Nat.le_of_ble_eq_true rfl) hS (Or.inl rfl) (fun H locs hE hz2 o hS => ?_)
  have hc1 := cn_kn hc1 (o _ (by omega))
  have hE : va_at D vwCl (h0, .inr (4, [.ref (sz + 0), .null, .int 0, .int 0, .int 0])) H := hE
  have hz : H.size = sz + 1 := by omega
  refine lv_aload_n hx hb dX4_init_13 rfl (lv_at hl 0 rfl) ?_
  refine lv_iconst (v := nI 4) hx hb dX4_init_14 (by decide) ?_
  refine cn_newq (C := RX3) (t0 := 4) (N' := 4) hC (List.mem_of_getElem? (i := 6) rfl) (List.mem_of_getElem? (i := 1) rfl) rfl (by decide) (by decide) (by decide) (Nat.le_of_ble_eq_true rfl) (Nat.le_of_ble_eq_true rfl) dX4_init_15 hz hS (fun H hc2 hz2 o hS => ?_)
  have hE := cn_kn hE (o _ (by omega))
  have hc1 := cn_kn hc1 (o _ (by omega))
  have hz : H.size = sz + 2 := by omega
  refine cn_put (T := TX4) (ci := 4) (v := .ref (sz + 1)) 1 hC inI4_4 tyX4_ok nmX4 (List.mem_of_getElem? (i := 7) rfl) dX4_init_18 hE rfl (by decide) rfl (tyX4_ok 1 (by decide)) rfl rfl (Nat.le_of_ble_eq_true rfl) hS (Or.inl rfl) (fun H locs hE hz2 o hS => ?_)
  have hc1 := cn_kn hc1 (o _ (by omega))
  have hc2 := cn_kn hc2 (o _ (by omega))
  have hE : va_at D vwCl (h0, .inr (4, [.ref (sz + 0), .ref (sz + 1), .int 0, .int 0, .int 0])) H := hE
  have hz : H.size = sz + 2 := by omega
  refine lv_aload_n hx hb dX4_init_21 rfl (lv_at hl 0 rfl) ?_
  refine lv_iconst (v := nI 1) hx hb dX4_init_22 (by decide) ?_
  refine cn_put (T := TX4) (ci := 4) (v := .int (nI 1)) 4 hC inI4_4 tyX4_ok nmX4 (List.mem_of_getElem? (i := 8) rfl) dX4_init_23 hE rfl (by decide) rfl (tyX4_ok 4 (by decide)) rfl rfl (Nat.le_of_ble_eq_true rfl) hS (Or.inl rfl) (fun H locs hE hz2 o hS => ?_)
  have hc1 := cn_kn hc1 (o _ (by omega))
  have hc2 := cn_kn hc2 (o _ (by omega))
  have hE : va_at D vwCl (h0, .inr (4, [.ref (sz + 0), .ref (sz + 1), .int 0, .int 0, .int (nI 1)])) H := hE
  have hz : H.size = sz + 2 := by omega
  refine lv_iconst (v := nI 0) hx hb dX4_init_26 (by decide) ?_
  refine lv_istore_n (lv' := [(1, .int (nI 0)), (0, .ref h0)]) hx hb dX4_init_27 rfl hl (by decide) rfl (fun ls hl => ?_)
  refine cl4d (sz + 2) (sz + 0) hC rfl hE (by omega) (by omega) (by omega) (Or.inr (by omega)) (fun q h => Or.inr (by omega)) hA (fun H2 locs ls k1 k2 k3 k4 hS hl => ?_) 10 0 rfl H locs ls (by omega) (cn_arr hc1 (fun d _ => (if_neg (Nat.not_lt_zero _)).symm)) (fun j hj => absurd hj (by omega)) (fun q _ _ => rfl) hS hl
  have hE := cn_kn hE (k4 _ (by omega) (by omega))
  have hc2 := cn_kn hc2 (k4 _ (by omega) (by omega))
  refine lv_iconst (v := nI 0) hx hb dX4_init_53 (by decide) ?_
  refine lv_istore_n (lv' := [(1, .int (nI 0)), (0, .ref h0)]) hx hb dX4_init_54 rfl hl (by decide) rfl (fun ls hl => ?_)
  refine cl4m (sz + 12) (sz + 1) hC rfl hE (by omega) (by omega) (by omega) (Or.inr (by omega)) (fun q h => Or.inr (by omega)) hA (fun H3 locs ls j1 j2 j3 j4 hS hl => ?_) 4 0 rfl H2 locs ls (by omega) (cn_arr hc2 (fun d _ => (if_neg (Nat.not_lt_zero _)).symm)) (fun j hj => absurd hj (by omega)) (fun q _ _ => rfl) hS hl
  have hE := cn_kn hE (j4 _ (by omega) (by omega))
  have k2 := cn_arr (cn_kn k2 (j4 _ (by omega) (by omega))) (g := fun d => some (sz + 2 + 1 * d)) (fun d hd => if_pos hd)
  have j2 := cn_arr j2 (g := fun d => some (sz + 12 + 1 * d)) (fun d hd => if_pos hd)
  refine cn_ret hC hS (by omega) hE (fun i hi => ?_) dX4_init_79
  unfold cp_f4
  by_cases i0 : i = 0
  · subst i0; exact k2
  · rw [if_neg i0]
    by_cases i1 : i = 1
    · subst i1; exact j2
    · rw [if_neg i1]
      by_cases i2 : i < 12
      · rw [if_pos i2]; exact cn_ad (cn_kn (k3 (i - 2) (by omega)) (j4 _ (by omega) (by omega))) (by omega)
      · rw [if_neg i2]; exact cn_ad (j3 (i - 12) (by omega)) (by omega)

