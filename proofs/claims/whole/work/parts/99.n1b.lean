set_option maxHeartbeats 4000000 in
set_option maxRecDepth 100000 in
theorem ciX0 (l : Launch) (D : va_G) (cA : Nat → ClassId) (h0 sz : Nat) : cnM l D cA yX0_init wsX0_init rmI0 h0 sz [] (.inr (0, [.int 0, .int 0, .int 0, .int 0])) (.inr (0, [.int 0, .int 0, .int 0, .int 0])) 0 (fun _ => .inr (0, [.int 0, .int 0, .int 0, .int 0])) := by
  refine cnM_of (cc := cX0_init) (maxL := 1) (lv0 := [(0, .ref h0)]) (by decide) rfl rfl (by show _ ≤ 1; exact Nat.le_of_ble_eq_true rfl) rfl ?_
  intro p e s m below meth c ls hC hsz hE hl
  obtain ⟨hx, hb, hr, hml, hown, hts, hlocks, hin, hP⟩ := id hC
  have hA : ∀ q, s.heap.size ≤ q → cnA h0 sz q := fun q h => Or.inr (by omega)
  have hlt : h0 < sz := by have h := hE.lt; dsimp only at h; omega
  have hS : va_S (cnA h0 sz) s.heap s.heap [] := va_S.rf
  have hz : s.heap.size = sz + 0 := hsz
  refine lv_aload_n hx hb dX0_init_0 rfl (lv_at hl 0 rfl) ?_
  refine cn_obj hC hl.1 (List.mem_of_getElem? (i := 1) rfl) (List.mem_of_getElem? (i := 2) rfl) (List.mem_of_getElem? (i := 3) rfl) dX0_init_1 (by decide) (by decide) ?_
  exact cn_ret hC hS hz hE (fun i hi => absurd hi (by omega)) dX0_init_4

set_option maxHeartbeats 4000000 in
set_option maxRecDepth 100000 in
theorem ciX3 (l : Launch) (D : va_G) (cA : Nat → ClassId) (h0 sz : Nat) : cnM l D cA yX3_init wsX3_init rmI3 h0 sz [] (.inr (3, [.int 0, .int 0, .int 0, .int 0, .int 0, .int 0])) (.inr (3, [.int 0, .int 0, .int 0, .int 0, .int 0, .int 0])) 0 (fun _ => .inr (3, [.int 0, .int 0, .int 0, .int 0, .int 0, .int 0])) := by
  refine cnM_of (cc := cX3_init) (maxL := 1) (lv0 := [(0, .ref h0)]) (by decide) rfl rfl (by show _ ≤ 1; exact Nat.le_of_ble_eq_true rfl) rfl ?_
  intro p e s m below meth c ls hC hsz hE hl
  obtain ⟨hx, hb, hr, hml, hown, hts, hlocks, hin, hP⟩ := id hC
  have hA : ∀ q, s.heap.size ≤ q → cnA h0 sz q := fun q h => Or.inr (by omega)
  have hlt : h0 < sz := by have h := hE.lt; dsimp only at h; omega
  have hS : va_S (cnA h0 sz) s.heap s.heap [] := va_S.rf
  have hz : s.heap.size = sz + 0 := hsz
  refine lv_aload_n hx hb dX3_init_0 rfl (lv_at hl 0 rfl) ?_
  refine cn_obj hC hl.1 (List.mem_of_getElem? (i := 1) rfl) (List.mem_of_getElem? (i := 2) rfl) (List.mem_of_getElem? (i := 3) rfl) dX3_init_1 (by decide) (by decide) ?_
  exact cn_ret hC hS hz hE (fun i hi => absurd hi (by omega)) dX3_init_4

theorem inI5_5 : ∀ w ∈ u_ws RX5 TX5 4, w ∈ wsX5_init := fun w h => List.mem_cons_of_mem _ (List.mem_append_right _ h)

set_option maxHeartbeats 4000000 in
set_option maxRecDepth 100000 in
theorem ciX5 (l : Launch) (D : va_G) (cA : Nat → ClassId) (h0 sz : Nat) : cnM l D cA yX5_init wsX5_init rmI5 h0 sz [] (.inr (5, [.null, .int 0, .int 0, .int 0])) (cp_e5 (sz)) 1 (cp_f5 cA (sz)) := by
  refine cnM_of (cc := cX5_init) (maxL := 1) (lv0 := [(0, .ref h0)]) (by decide) rfl rfl (by show _ ≤ 1; exact Nat.le_of_ble_eq_true rfl) rfl ?_
  intro p e s m below meth c ls hC hsz hE hl
  obtain ⟨hx, hb, hr, hml, hown, hts, hlocks, hin, hP⟩ := id hC
  have hA : ∀ q, s.heap.size ≤ q → cnA h0 sz q := fun q h => Or.inr (by omega)
  have hlt : h0 < sz := by have h := hE.lt; dsimp only at h; omega
  have hS : va_S (cnA h0 sz) s.heap s.heap [] := va_S.rf
  have hz : s.heap.size = sz + 0 := hsz
  refine lv_aload_n hx hb dX5_init_0 rfl (lv_at hl 0 rfl) ?_
  refine cn_obj hC hl.1 (List.mem_of_getElem? (i := 1) rfl) (List.mem_of_getElem? (i := 2) rfl) (List.mem_of_getElem? (i := 3) rfl) dX5_init_1 (by decide) (by decide) ?_
  refine lv_aload_n hx hb dX5_init_4 rfl (lv_at hl 0 rfl) ?_
  refine lv_bipush (v := nI 24) hx hb dX5_init_5 (by decide) ?_
  refine cn_newa (t0 := 2) (ty := .long) (N' := 24) (a0 := (24, .inr (.inl (fun _ => 0)))) hC (List.mem_of_getElem? (i := 4) rfl) rfl rfl (fun _ h => by cases h) (fun _ => rfl) (by decide) (by decide) (by decide) (Nat.le_of_ble_eq_true rfl) (Nat.le_of_ble_eq_true rfl) dX5_init_7 hz hS (fun H hc1 hz2 o hS => ?_)
  have hE := cn_kn hE (o _ (by omega))
  have hz : H.size = sz + 1 := by omega
  refine cn_put (T := TX5) (ci := 5) (v := .ref (sz + 0)) 0 hC inI5_5 tyX5_ok nmX5 (List.mem_of_getElem? (i := 5) rfl) dX5_init_9 hE rfl (by decide) rfl (tyX5_ok 0 (by decide)) rfl rfl (Nat.le_of_ble_eq_true rfl) hS (Or.inl rfl) (fun H locs hE hz2 o hS => ?_)
  have hc1 := cn_kn hc1 (o _ (by omega))
  have hE : va_at D vwCl (h0, .inr (5, [.ref (sz + 0), .int 0, .int 0, .int 0])) H := hE
  have hz : H.size = sz + 1 := by omega
  refine cn_ret hC hS hz hE (fun i hi => ?_) dX5_init_12
  obtain rfl : i = 0 := by omega
  exact hc1

theorem inI6_6 : ∀ w ∈ u_ws RX6 TX6 4, w ∈ wsX6_init := fun w h => List.mem_cons_of_mem _ (List.mem_append_right _ h)

set_option maxHeartbeats 4000000 in
set_option maxRecDepth 100000 in
theorem ciX6 (l : Launch) (D : va_G) (cA : Nat → ClassId) (h0 sz : Nat) : cnM l D cA yX6_init wsX6_init rmI6 h0 sz [] (.inr (6, [.null, .int 0, .int 0, .int 0])) (cp_e6 (sz)) 1 (cp_f6 cA (sz)) := by
  refine cnM_of (cc := cX6_init) (maxL := 1) (lv0 := [(0, .ref h0)]) (by decide) rfl rfl (by show _ ≤ 1; exact Nat.le_of_ble_eq_true rfl) rfl ?_
  intro p e s m below meth c ls hC hsz hE hl
  obtain ⟨hx, hb, hr, hml, hown, hts, hlocks, hin, hP⟩ := id hC
  have hA : ∀ q, s.heap.size ≤ q → cnA h0 sz q := fun q h => Or.inr (by omega)
  have hlt : h0 < sz := by have h := hE.lt; dsimp only at h; omega
  have hS : va_S (cnA h0 sz) s.heap s.heap [] := va_S.rf
  have hz : s.heap.size = sz + 0 := hsz
  refine lv_aload_n hx hb dX6_init_0 rfl (lv_at hl 0 rfl) ?_
  refine cn_obj hC hl.1 (List.mem_of_getElem? (i := 1) rfl) (List.mem_of_getElem? (i := 2) rfl) (List.mem_of_getElem? (i := 3) rfl) dX6_init_1 (by decide) (by decide) ?_
  refine lv_aload_n hx hb dX6_init_4 rfl (lv_at hl 0 rfl) ?_
  refine lv_bipush (v := nI 90) hx hb dX6_init_5 (by decide) ?_
  refine cn_newa (t0 := 0) (ty := .char) (N' := 90) (a0 := (90, .inl (fun _ => 0))) hC (List.mem_of_getElem? (i := 4) rfl) rfl rfl (fun _ h => by cases h) (fun _ => rfl) (by decide) (by decide) (by decide) (Nat.le_of_ble_eq_true rfl) (Nat.le_of_ble_eq_true rfl) dX6_init_7 hz hS (fun H hc1 hz2 o hS => ?_)
  have hE := cn_kn hE (o _ (by omega))
  have hz : H.size = sz + 1 := by omega
  refine cn_put (T := TX6) (ci := 6) (v := .ref (sz + 0)) 0 hC inI6_6 tyX6_ok nmX6 (List.mem_of_getElem? (i := 5) rfl) dX6_init_9 hE rfl (by decide) rfl (tyX6_ok 0 (by decide)) rfl rfl (Nat.le_of_ble_eq_true rfl) hS (Or.inl rfl) (fun H locs hE hz2 o hS => ?_)
  have hc1 := cn_kn hc1 (o _ (by omega))
  have hE : va_at D vwCl (h0, .inr (6, [.ref (sz + 0), .int 0, .int 0, .int 0])) H := hE
  have hz : H.size = sz + 1 := by omega
  refine cn_ret hC hS hz hE (fun i hi => ?_) dX6_init_12
  obtain rfl : i = 0 := by omega
  exact hc1

