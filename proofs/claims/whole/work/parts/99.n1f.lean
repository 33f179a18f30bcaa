theorem inI1_1 : ∀ w ∈ u_ws RX1 TX1 10, w ∈ wsX1_init := fun w h => List.mem_cons_of_mem _ (List.mem_append_right _ h)

theorem inI1_3 : ∀ w ∈ u_ws RX3 TX3 6, w ∈ wsX1_init := fun w h => List.mem_cons_of_mem _ (List.mem_append_left _ (List.mem_append_right _ h))

set_option maxHeartbeats 4000000 in
set_option maxRecDepth 100000 in
theorem ciX1 (l : Launch) (D : va_G) (cA : Nat → ClassId) (h0 sz : Nat) (pr : Nat) : cnM l D cA yX1_init wsX1_init rmI1 h0 sz [.ref pr] (.inr (1, [.null, .null, .int 0, .null, .null, .null, .null, .null, .null, .null])) (cp_e1I pr (sz)) 8 (cp_f1 cA (sz)) := by
  refine cnM_of (cc := cX1_init) (maxL := 2) (lv0 := [(0, .ref h0), (1, .ref pr)]) (by decide) rfl rfl (by show _ ≤ 2; exact Nat.le_of_ble_eq_true rfl) rfl ?_
  intro p e s m below meth c ls hC hsz hE hl
  obtain ⟨hx, hb, hr, hml, hown, hts, hlocks, hin, hP⟩ := id hC
  have hA : ∀ q, s.heap.size ≤ q → cnA h0 sz q := fun q h => Or.inr (by omega)
  have hlt : h0 < sz := by have h := hE.lt; dsimp only at h; omega
  have hS : va_S (cnA h0 sz) s.heap s.heap [] := va_S.rf
  have hz : s.heap.size = sz + 0 := hsz
  refine lv_aload_n hx hb dX1_init_0 rfl (lv_at hl 0 rfl) ?_
  refine cn_obj hC hl.1 (List.mem_of_getElem? (i := 1) rfl) (List.mem_of_getElem? (i := 2) rfl) (List.mem_of_getElem? (i := 3) rfl) dX1_init_1 (by decide) (by decide) ?_
  refine lv_aload_n hx hb dX1_init_4 rfl (lv_at hl 0 rfl) ?_
  refine cn_new (C := RX3) (T := TX3) (N := 6) (ci := 3) hC inI1_3 tyX3_ok (List.mem_of_getElem? (i := 4) rfl) (List.mem_of_getElem? (i := 5) rfl) (List.mem_of_getElem? (i := 6) rfl) rfl [.int 0, .int 0, .int 0, .int 0, .int 0, .int 0] (fun j hj => by rcases (show j = 0 ∨ j = 1 ∨ j = 2 ∨ j = 3 ∨ j = 4 ∨ j = 5 by omega) with rfl | rfl | rfl | rfl | rfl | rfl <;> rfl) (Nat.le_of_ble_eq_true rfl) (Nat.le_of_ble_eq_true rfl) dX1_init_5 hz hS (fun H n1 n2 o1 hS => ?_)
  have hE := cn_kn hE (o1 _ (by omega))
  refine lv_dup hx hb dX1_init_8 rfl ?_
  refine cn_callN (host := "RiddlePrison") hC hl.1 (ciX3 l D cA (sz + 0) (sz + 1)) ⟨va_cnB 0 hts ggX1_init_X3_init rfl rfl rfl (hP.2.2 _ (List.mem_of_getElem? (i := 3) rfl)) (hts _ (List.mem_of_getElem? (i := 6) rfl)) (by decide +kernel) ⟨by decide, by decide⟩, rfl, hts _ (List.mem_of_getElem? (i := 18) rfl)⟩ rfl rfl (Nat.le_of_ble_eq_true rfl) dX1_init_9 ⟨Nat.le_of_ble_eq_true rfl, Nat.le_of_ble_eq_true rfl⟩ n1 hS hA (Or.inr (by omega)) (show H.size = sz + 1 by omega) (fun H locs m1 m2 m3 o2 hS => ?_)
  have hE := cn_kn hE (o2 _ (by omega) (by omega))
  have hz : H.size = sz + 1 := by omega
  refine cn_put (T := TX1) (ci := 1) (v := .ref (sz + 0)) 1 hC inI1_1 tyX1_ok nmX1 (List.mem_of_getElem? (i := 7) rfl) dX1_init_12 hE rfl (by decide) rfl (tyX1_ok 1 (by decide)) rfl rfl (Nat.le_of_ble_eq_true rfl) hS (Or.inl rfl) (fun H locs hE hz2 o hS => ?_)
  have m2 := cn_kn m2 (o _ (by omega))
  have hE : va_at D vwCl (h0, .inr (1, [.null, .ref (sz + 0), .int 0, .null, .null, .null, .null, .null, .null, .null])) H := hE
  have hz : H.size = sz + 1 := by omega
  refine lv_aload_n hx hb dX1_init_15 rfl (lv_at hl 0 rfl) ?_
  refine lv_bipush (v := nI 8) hx hb dX1_init_16 (by decide) ?_
  refine cn_newa (t0 := 1) (ty := .int) (N' := 8) (a0 := (8, .inl (fun _ => 0))) hC (List.mem_of_getElem? (i := 8) rfl) rfl rfl (fun _ h => by cases h) (fun _ => rfl) (by decide) (by decide) (by decide) (Nat.le_of_ble_eq_true rfl) (Nat.le_of_ble_eq_true rfl) dX1_init_18 hz hS (fun H hc1 hz2 o hS => ?_)
  have hE := cn_kn hE (o _ (by omega))
  have m2 := cn_kn m2 (o _ (by omega))
  have hz : H.size = sz + 2 := by omega
  refine cn_put (T := TX1) (ci := 1) (v := .ref (sz + 1)) 3 hC inI1_1 tyX1_ok nmX1 (List.mem_of_getElem? (i := 9) rfl) dX1_init_20 hE rfl (by decide) rfl (tyX1_ok 3 (by decide)) rfl rfl (Nat.le_of_ble_eq_true rfl) hS (Or.inl rfl) (fun H locs hE hz2 o hS => ?_)
  have m2 := cn_kn m2 (o _ (by omega))
  have hc1 := cn_kn hc1 (o _ (by omega))
  have hE : va_at D vwCl (h0, .inr (1, [.null, .ref (sz + 0), .int 0, .ref (sz + 1), .null, .null, .null, .null, .null, .null])) H := hE
  have hz : H.size = sz + 2 := by omega
  refine lv_aload_n hx hb dX1_init_23 rfl (lv_at hl 0 rfl) ?_
  refine lv_bipush (v := nI 8) hx hb dX1_init_24 (by decide) ?_
  refine cn_newa (t0 := 1) (ty := .int) (N' := 8) (a0 := (8, .inl (fun _ => 0))) hC (List.mem_of_getElem? (i := 8) rfl) rfl rfl (fun _ h => by cases h) (fun _ => rfl) (by decide) (by decide) (by decide) (Nat.le_of_ble_eq_true rfl) (Nat.le_of_ble_eq_true rfl) dX1_init_26 hz hS (fun H hc2 hz2 o hS => ?_)
  have hE := cn_kn hE (o _ (by omega))
  have m2 := cn_kn m2 (o _ (by omega))
  have hc1 := cn_kn hc1 (o _ (by omega))
  have hz : H.size = sz + 3 := by omega
  refine cn_put (T := TX1) (ci := 1) (v := .ref (sz + 2)) 4 hC inI1_1 tyX1_ok nmX1 (List.mem_of_getElem? (i := 10) rfl) dX1_init_28 hE rfl (by decide) rfl (tyX1_ok 4 (by decide)) rfl rfl (Nat.le_of_ble_eq_true rfl) hS (Or.inl rfl) (fun H locs hE hz2 o hS => ?_)
  have m2 := cn_kn m2 (o _ (by omega))
  have hc1 := cn_kn hc1 (o _ (by omega))
  have hc2 := cn_kn hc2 (o _ (by omega))
  have hE : va_at D vwCl (h0, .inr (1, [.null, .ref (sz + 0), .int 0, .ref (sz + 1), .ref (sz + 2), .null, .null, .null, .null, .null])) H := hE
  have hz : H.size = sz + 3 := by omega
  refine lv_aload_n hx hb dX1_init_31 rfl (lv_at hl 0 rfl) ?_
  refine lv_bipush (v := nI 8) hx hb dX1_init_32 (by decide) ?_
  refine cn_newa (t0 := 1) (ty := .int) (N' := 8) (a0 := (8, .inl (fun _ => 0))) hC (List.mem_of_getElem? (i := 8) rfl) rfl rfl (fun _ h => by cases h) (fun _ => rfl) (by decide) (by decide) (by decide) (Nat.le_of_ble_eq_true rfl) (Nat.le_of_ble_eq_true rfl) dX1_init_34 hz hS (fun H hc3 hz2 o hS => ?_)
  have hE := cn_kn hE (o _ (by omega))
  have m2 := cn_kn m2 (o _ (by omega))
  have hc1 := cn_kn hc1 (o _ (by omega))
  have hc2 := cn_kn hc2 (o _ (by omega))
  have hz : H.size = sz + 4 := by omega
  refine cn_put (T := TX1) (ci := 1) (v := .ref (sz + 3)) 5 hC inI1_1 tyX1_ok nmX1 (List.mem_of_getElem? (i := 11) rfl) dX1_init_36 hE rfl (by decide) rfl (tyX1_ok 5 (by decide)) rfl rfl (Nat.le_of_ble_eq_true rfl) hS (Or.inl rfl) (fun H locs hE hz2 o hS => ?_)
  have m2 := cn_kn m2 (o _ (by omega))
  have hc1 := cn_kn hc1 (o _ (by omega))
  have hc2 := cn_kn hc2 (o _ (by omega))
  have hc3 := cn_kn hc3 (o _ (by omega))
  have hE : va_at D vwCl (h0, .inr (1, [.null, .ref (sz + 0), .int 0, .ref (sz + 1), .ref (sz + 2), .ref (sz + 3), .null, .null, .null, .null])) H := hE
  have hz : H.size = sz + 4 := by omega
  refine lv_aload_n hx hb dX1_init_39 rfl (lv_at hl 0 rfl) ?_
  refine lv_bipush (v := nI 8) hx hb dX1_init_40 (by decide) ?_
  refine cn_newa (t0 := 1) (ty := .int) (N' := 8) (a0 := (8, .inl (fun _ => 0))) hC (List.mem_of_getElem? (i := 8) rfl) rfl rfl (fun _ h => by cases h) (fun _ => rfl) (by decide) (by decide) (by decide) (Nat.le_of_ble_eq_true rfl) (Nat.le_of_ble_eq_true rfl) dX1_init_42 hz hS (fun H hc4 hz2 o hS => ?_)
  have hE := cn_kn hE (o _ (by omega))
  have m2 := cn_kn m2 (o _ (by omega))
  have hc1 := cn_kn hc1 (o _ (by omega))
  have hc2 := cn_kn hc2 (o _ (by omega))
  have hc3 := cn_kn hc3 (o _ (by omega))
  have hz : H.size = sz + 5 := by omega
  refine cn_put (T := TX1) (ci := 1) (v := .ref (sz + 4)) 6 hC inI1_1 tyX1_ok nmX1 (List.mem_of_getElem? (i := 12) rfl) dX1_init_44 hE rfl (by decide) rfl (tyX1_ok 6 (by decide)) rfl rfl (Nat.le_of_ble_eq_true rfl) hS (Or.inl rfl) (fun H locs hE hz2 o hS => ?_)
  have m2 := cn_kn m2 (o _ (by omega))
  have hc1 := cn_kn hc1 (o _ (by omega))
  have hc2 := cn_kn hc2 (o _ (by omega))
  have hc3 := cn_kn hc3 (o _ (by omega))
  have hc4 := cn_kn hc4 (o _ (by omega))
  have hE : va_at D vwCl (h0, .inr (1, [.null, .ref (sz + 0), .int 0, .ref (sz + 1), .ref (sz + 2), .ref (sz + 3), .ref (sz + 4), .null, .null, .null])) H := hE
  have hz : H.size = sz + 5 := by omega
  refine lv_aload_n hx hb dX1_init_47 rfl (lv_at hl 0 rfl) ?_
  refine lv_sipush (v := nI 2048) hx hb dX1_init_48 (by decide) ?_
  refine cn_newa (t0 := 1) (ty := .int) (N' := 2048) (a0 := (2048, .inl (fun _ => 0))) hC (List.mem_of_getElem? (i := 8) rfl) rfl rfl (fun _ h => by cases h) (fun _ => rfl) (by decide) (by decide) (by decide) (Nat.le_of_ble_eq_true rfl) (Nat.le_of_ble_eq_true rfl) dX1_init_51 hz hS (fun H hc5 hz2 o hS => ?_)
  have hE := cn_kn hE (o _ (by omega))
  have m2 := cn_kn m2 (o _ (by omega))
  have hc1 := cn_kn hc1 (o _ (by omega))
  have hc2 := cn_kn hc2 (o _ (by omega))
  have hc3 := cn_kn hc3 (o _ (by omega))
  have hc4 := cn_kn hc4 (o _ (by omega))
  have hz : H.size = sz + 6 := by omega
  refine cn_put (T := TX1) (ci := 1) (v := .ref (sz + 5)) 7 hC inI1_1 tyX1_ok nmX1 (List.mem_of_getElem? (i := 13) rfl) dX1_init_53 hE rfl (by decide) rfl (tyX1_ok 7 (by decide)) rfl rfl (Nat.le_of_ble_eq_true rfl) hS (Or.inl rfl) (fun H locs hE hz2 o hS => ?_)
  have m2 := cn_kn m2 (o _ (by omega))
  have hc1 := cn_kn hc1 (o _ (by omega))
  have hc2 := cn_kn hc2 (o _ (by omega))
  have hc3 := cn_kn hc3 (o _ (by omega))
  have hc4 := cn_kn hc4 (o _ (by omega))
  have hc5 := cn_kn hc5 (o _ (by omega))
  have hE : va_at D vwCl (h0, .inr (1, [.null, .ref (sz + 0), .int 0, .ref (sz + 1), .ref (sz + 2), .ref (sz + 3), .ref (sz + 4), .ref (sz + 5), .null, .null])) H := hE
  have hz : H.size = sz + 6 := by omega
  refine lv_aload_n hx hb dX1_init_56 rfl (lv_at hl 0 rfl) ?_
  refine lv_bipush (v := nI 8) hx hb dX1_init_57 (by decide) ?_
  refine cn_newa (t0 := 2) (ty := .long) (N' := 8) (a0 := (8, .inr (.inl (fun _ => 0)))) hC (List.mem_of_getElem? (i := 14) rfl) rfl rfl (fun _ h => by cases h) (fun _ => rfl) (by decide) (by decide) (by decide) (Nat.le_of_ble_eq_true rfl) (Nat.le_of_ble_eq_true rfl) dX1_init_59 hz hS (fun H hc6 hz2 o hS => ?_)
  have hE := cn_kn hE (o _ (by omega))
  have m2 := cn_kn m2 (o _ (by omega))
  have hc1 := cn_kn hc1 (o _ (by omega))
  have hc2 := cn_kn hc2 (o _ (by omega))
  have hc3 := cn_kn hc3 (o _ (by omega))
  have hc4 := cn_kn hc4 (o _ (by omega))
  have hc5 := cn_kn hc5 (o _ (by omega))
  have hz : H.size = sz + 7 := by omega
  refine cn_put (T := TX1) (ci := 1) (v := .ref (sz + 6)) 8 hC inI1_1 tyX1_ok nmX1 (List.mem_of_getElem? (i := 15) rfl) dX1_init_61 hE rfl (by decide) rfl (tyX1_ok 8 (by decide)) rfl rfl (Nat.le_of_ble_eq_true rfl) hS (Or.inl rfl) (fun H locs hE hz2 o hS => ?_)
  have m2 := cn_kn m2 (o _ (by omega))
  have hc1 := cn_kn hc1 (o _ (by omega))
  have hc2 := cn_kn hc2 (o _ (by omega))
  have hc3 := cn_kn hc3 (o _ (by omega))
  have hc4 := cn_kn hc4 (o _ (by omega))
  have hc5 := cn_kn hc5 (o _ (by omega))
  have hc6 := cn_kn hc6 (o _ (by omega))
  have hE : va_at D vwCl (h0, .inr (1, [.null, .ref (sz + 0), .int 0, .ref (sz + 1), .ref (sz + 2), .ref (sz + 3), .ref (sz + 4), .ref (sz + 5), .ref (sz + 6), .null])) H := hE
  have hz : H.size = sz + 7 := by omega
  refine lv_aload_n hx hb dX1_init_64 rfl (lv_at hl 0 rfl) ?_
  refine lv_bipush (v := nI 8) hx hb dX1_init_65 (by decide) ?_
  refine cn_newa (t0 := 2) (ty := .long) (N' := 8) (a0 := (8, .inr (.inl (fun _ => 0)))) hC (List.mem_of_getElem? (i := 14) rfl) rfl rfl (fun _ h => by cases h) (fun _ => rfl) (by decide) (by decide) (by decide) (Nat.le_of_ble_eq_true rfl) (Nat.le_of_ble_eq_true rfl) dX1_init_67 hz hS (fun H hc7 hz2 o hS => ?_)
  have hE := cn_kn hE (o _ (by omega))
  have m2 := cn_kn m2 (o _ (by omega))
  have hc1 := cn_kn hc1 (o _ (by omega))
  have hc2 := cn_kn hc2 (o _ (by omega))
  have hc3 := cn_kn hc3 (o _ (by omega))
  have hc4 := cn_kn hc4 (o _ (by omega))
  have hc5 := cn_kn hc5 (o _ (by omega))
  have hc6 := cn_kn hc6 (o _ (by omega))
  have hz : H.size = sz + 8 := by omega
  refine cn_put (T := TX1) (ci := 1) (v := .ref (sz + 7)) 9 hC inI1_1 tyX1_ok nmX1 (List.mem_of_getElem? (i := 16) rfl) dX1_init_69 hE rfl (by decide) rfl (tyX1_ok 9 (by decide)) rfl rfl (Nat.le_of_ble_eq_true rfl) hS (Or.inl rfl) (fun H locs hE hz2 o hS => ?_)
  have m2 := cn_kn m2 (o _ (by omega))
  have hc1 := cn_kn hc1 (o _ (by omega))
  have hc2 := cn_kn hc2 (o _ (by omega))
  have hc3 := cn_kn hc3 (o _ (by omega))
  have hc4 := cn_kn hc4 (o _ (by omega))
  have hc5 := cn_kn hc5 (o _ (by omega))
  have hc6 := cn_kn hc6 (o _ (by omega))
  have hc7 := cn_kn hc7 (o _ (by omega))
  have hE : va_at D vwCl (h0, .inr (1, [.null, .ref (sz + 0), .int 0, .ref (sz + 1), .ref (sz + 2), .ref (sz + 3), .ref (sz + 4), .ref (sz + 5), .ref (sz + 6), .ref (sz + 7)])) H := hE
  have hz : H.size = sz + 8 := by omega
  refine lv_aload_n hx hb dX1_init_72 rfl (lv_at hl 0 rfl) ?_
  refine lv_aload_n hx hb dX1_init_73 rfl (lv_at hl 1 rfl) ?_
  refine cn_put (T := TX1) (ci := 1) (v := .ref pr) 0 hC inI1_1 tyX1_ok nmX1 (List.mem_of_getElem? (i := 17) rfl) dX1_init_74 hE rfl (by decide) rfl (tyX1_ok 0 (by decide)) rfl rfl (Nat.le_of_ble_eq_true rfl) hS (Or.inl rfl) (fun H locs hE hz2 o hS => ?_)
  have m2 := cn_kn m2 (o _ (by omega))
  have hc1 := cn_kn hc1 (o _ (by omega))
  have hc2 := cn_kn hc2 (o _ (by omega))
  have hc3 := cn_kn hc3 (o _ (by omega))
  have hc4 := cn_kn hc4 (o _ (by omega))
  have hc5 := cn_kn hc5 (o _ (by omega))
  have hc6 := cn_kn hc6 (o _ (by omega))
  have hc7 := cn_kn hc7 (o _ (by omega))
  have hE : va_at D vwCl (h0, .inr (1, [.ref pr, .ref (sz + 0), .int 0, .ref (sz + 1), .ref (sz + 2), .ref (sz + 3), .ref (sz + 4), .ref (sz + 5), .ref (sz + 6), .ref (sz + 7)])) H := hE
  have hz : H.size = sz + 8 := by omega
  refine cn_ret hC hS hz hE (fun i hi => ?_) dX1_init_77
  rcases (show i = 0 ∨ i = 1 ∨ i = 2 ∨ i = 3 ∨ i = 4 ∨ i = 5 ∨ i = 6 ∨ i = 7 by omega) with rfl | rfl | rfl | rfl | rfl | rfl | rfl | rfl
  · exact m2
  · exact hc1
  · exact hc2
  · exact hc3
  · exact hc4
  · exact hc5
  · exact hc6
  · exact hc7
