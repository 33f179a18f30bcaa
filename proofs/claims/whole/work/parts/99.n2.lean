/-! the reference's constructor -/
theorem cn_more {D : va_G} {cl : List vw_C} {sz n : Nat} {F : Nat → va_E} {H H1 : Heap} (hF : ∀ i, i < n → va_at D cl (sz + i, F i) H) (o : ∀ q, q < sz + n → H1[q]? = H[q]?) (hn : va_at D cl (sz + n, F n) H1) : ∀ i, i < n + 1 → va_at D cl (sz + i, F i) H1 := by
  intro i hi
  by_cases h : i < n
  · exact cn_kn (hF i h) (o _ (by omega))
  · obtain rfl : i = n := by omega
    exact hn
theorem cn_moreK {D : va_G} {cl : List vw_C} {sz n : Nat} (k : Nat) {F : Nat → va_E} {H H1 : Heap} (hF : ∀ i, i < n → va_at D cl (sz + i, F i) H) (o : ∀ q, q < sz + n → H1[q]? = H[q]?) (hn : ∀ i, n ≤ i → i < n + k → va_at D cl (sz + i, F i) H1) : ∀ i, i < n + k → va_at D cl (sz + i, F i) H1 := by
  intro i hi
  by_cases h : i < n
  · exact cn_kn (hF i h) (o _ (by omega))
  · exact hn i (by omega) hi
theorem cn_moreP {D : va_G} {cl : List vw_C} {sz n h0 : Nat} {F : Nat → va_E} {H H1 : Heap} (hF : ∀ i, i < n → va_at D cl (sz + i, F i) H) (hlt : h0 < sz) (o : ∀ q, q ≠ h0 → H1[q]? = H[q]?) : ∀ i, i < n → va_at D cl (sz + i, F i) H1 := fun i hi => cn_kn (hF i hi) (o _ (by omega))
theorem cn_o2 {H H1 H2 : Heap} {z z' : Nat} (o1 : ∀ q, q < z → H1[q]? = H[q]?) (o2 : ∀ q, q < z' → q ≠ z → H2[q]? = H1[q]?) (h : z ≤ z') : ∀ q, q < z → H2[q]? = H[q]? := fun q hq => (o2 q (by omega) (by omega)).trans (o1 q hq)
theorem cn_lt {h0 sz n : Nat} (h : h0 < sz) : h0 < sz + n := by omega
theorem cn_lt1 {h0 sz n : Nat} (h : h0 < sz) : h0 < sz + n + 1 := by omega
theorem cn_ne {h0 sz n : Nat} (h : h0 < sz) : h0 ≠ sz + n := by omega

abbrev rmI8 : Room := { frames := 1, cells := 17, slots := 3422, locals := 12 }

theorem inI8_8 : ∀ w ∈ u_ws RX8 TX8 22, w ∈ wsX8_init := fun w h => List.mem_cons_of_mem _ (List.mem_append_right _ h)

def cp_e8 (z : Nat) : va_E := .inr (8, [.ref (z + 0), .ref (z + 1), .int 0, .int 0, .ref (z + 2), .ref (z + 3), .ref (z + 4), .ref (z + 5), .ref (z + 6), .ref (z + 7), .ref (z + 8), .ref (z + 9), .int 0, .int 0, .ref (z + 10), .int 0, .ref (z + 11), .ref (z + 12), .ref (z + 13), .ref (z + 14), .ref (z + 15), .ref (z + 16)])
def cp_f8 (cA : Nat → ClassId) (_ i : Nat) : va_E := match i with
  | 0 => .inl (cA 1, 364, .inl (fun j => if j = 67 then nI 1 else 0))
  | 1 => .inl (cA 1, 364, .inl (fun _ => 0))
  | 2 => .inl (cA 1, 8, .inl (fun _ => 0))
  | 3 => .inl (cA 1, 8, .inl (fun _ => 0))
  | 4 => .inl (cA 1, 8, .inl (fun _ => 0))
  | 5 => .inl (cA 1, 2048, .inl (fun _ => 0))
  | 6 => .inl (cA 1, 8, .inl (fun _ => 0))
  | 7 => .inl (cA 2, 8, .inr (.inl (fun _ => 0)))
  | 8 => .inl (cA 2, 8, .inr (.inl (fun _ => 0)))
  | 9 => .inl (cA 1, 90, .inl (fun _ => 0))
  | 10 => .inl (cA 1, 364, .inl (fun _ => 0))
  | 11 => .inl (cA 1, 4, .inl (fun j => if j < 4 then -4 else 0))
  | 12 => .inl (cA 1, 4, .inl (fun _ => 0))
  | 13 => .inl (cA 2, 96, .inr (.inl (fun _ => 0)))
  | 14 => .inl (cA 2, 24, .inr (.inl (fun _ => 0)))
  | 15 => .inl (cA 1, 8, .inl (fun _ => 0))
  | _ => .inl (cA 1, 8, .inl (fun _ => 0))

def cp_g8 (cA : Nat → ClassId) (i : Nat) : va_E := match i with
  | 0 => .inl (cA 1, 364, .inl (fun _ => 0))
  | 1 => .inl (cA 1, 364, .inl (fun _ => 0))
  | 2 => .inl (cA 1, 8, .inl (fun _ => 0))
  | 3 => .inl (cA 1, 8, .inl (fun _ => 0))
  | 4 => .inl (cA 1, 8, .inl (fun _ => 0))
  | 5 => .inl (cA 1, 2048, .inl (fun _ => 0))
  | 6 => .inl (cA 1, 8, .inl (fun _ => 0))
  | 7 => .inl (cA 2, 8, .inr (.inl (fun _ => 0)))
  | 8 => .inl (cA 2, 8, .inr (.inl (fun _ => 0)))
  | 9 => .inl (cA 1, 90, .inl (fun _ => 0))
  | 10 => .inl (cA 1, 364, .inl (fun _ => 0))
  | 11 => .inl (cA 1, 4, .inl (fun _ => 0))
  | 12 => .inl (cA 1, 4, .inl (fun _ => 0))
  | 13 => .inl (cA 2, 96, .inr (.inl (fun _ => 0)))
  | 14 => .inl (cA 2, 24, .inr (.inl (fun _ => 0)))
  | 15 => .inl (cA 1, 8, .inl (fun _ => 0))
  | _ => .inl (cA 1, 8, .inl (fun _ => 0))

set_option maxHeartbeats 4000000 in
set_option maxRecDepth 100000 in
theorem ciX8 (l : Launch) (D : va_G) (cA : Nat → ClassId) (h0 sz : Nat) : cnM l D cA yX8_init wsX8_init rmI8 h0 sz [] (.inr (8, [.null, .null, .int 0, .int 0, .null, .null, .null, .null, .null, .null, .null, .null, .int 0, .int 0, .null, .int 0, .null, .null, .null, .null, .null, .null])) (cp_e8 (sz)) 17 (cp_f8 cA (sz)) := by
  refine cnM_of (cc := cX8_init) (maxL := 2) (lv0 := [(0, .ref h0)]) (by decide) rfl rfl (by show _ ≤ 2; exact Nat.le_of_ble_eq_true rfl) rfl ?_
  intro p e s m below meth c ls hC hsz hE hl
  obtain ⟨hx, hb, hr, hml, hown, hts, hlocks, hin, hP⟩ := id hC
  have hA : ∀ q, s.heap.size ≤ q → cnA h0 sz q := fun q h => Or.inr (by omega)
  have hlt : h0 < sz := by have h := hE.lt; dsimp only at h; omega
  have hS : va_S (cnA h0 sz) s.heap s.heap [] := va_S.rf
  have hz : s.heap.size = sz + 0 := hsz
  have hF : ∀ i, i < 0 → va_at D vwCl (sz + i, cp_g8 cA i) s.heap := fun i hi => absurd hi (Nat.not_lt_zero _)
  refine lv_aload_n hx hb dX8_init_0 rfl (lv_at hl 0 rfl) ?_
  refine cn_obj hC hl.1 (List.mem_of_getElem? (i := 1) rfl) (List.mem_of_getElem? (i := 2) rfl) (List.mem_of_getElem? (i := 3) rfl) dX8_init_1 (by decide) (by decide) ?_
  refine lv_aload_n hx hb dX8_init_4 rfl (lv_at hl 0 rfl) ?_
  refine lv_sipush (v := nI 364) hx hb dX8_init_5 (by decide) ?_
  refine cn_newa (t0 := 1) (ty := .int) (N' := 364) (a0 := (364, .inl (fun _ => 0))) hC (List.mem_of_getElem? (i := 4) rfl) rfl rfl (fun _ h => by cases h) (fun _ => rfl) (by decide) (by decide) (by decide) (Nat.le_of_ble_eq_true rfl) (Nat.le_of_ble_eq_true rfl) dX8_init_8 hz hS (fun H hN hz2 o hS => ?_)
  have hE := cn_kn hE (o _ (cn_lt hlt))
  have hF : ∀ i, i < 1 → va_at D vwCl (sz + i, cp_g8 cA i) H := cn_more hF o hN
  have hz : H.size = sz + 1 := hz2
  refine cn_put (T := TX8) (ci := 8) (v := .ref (sz + 0)) 0 hC inI8_8 tyX8_ok nmX8 (List.mem_of_getElem? (i := 5) rfl) dX8_init_10 hE rfl (by decide) rfl (tyX8_ok 0 (by decide)) rfl rfl (Nat.le_of_ble_eq_true rfl) hS (Or.inl rfl) (fun H locs hE hz2 o hS => ?_)
  have hE : va_at D vwCl (h0, .inr (8, [.ref (sz + 0), .null, .int 0, .int 0, .null, .null, .null, .null, .null, .null, .null, .null, .int 0, .int 0, .null, .int 0, .null, .null, .null, .null, .null, .null])) H := hE
  have hF := cn_moreP hF hlt o
  have hz : H.size = sz + 1 := hz2.trans hz
  refine lv_aload_n hx hb dX8_init_13 rfl (lv_at hl 0 rfl) ?_
  refine lv_sipush (v := nI 364) hx hb dX8_init_14 (by decide) ?_
  refine cn_newa (t0 := 1) (ty := .int) (N' := 364) (a0 := (364, .inl (fun _ => 0))) hC (List.mem_of_getElem? (i := 4) rfl) rfl rfl (fun _ h => by cases h) (fun _ => rfl) (by decide) (by decide) (by decide) (Nat.le_of_ble_eq_true rfl) (Nat.le_of_ble_eq_true rfl) dX8_init_17 hz hS (fun H hN hz2 o hS => ?_)
  have hE := cn_kn hE (o _ (cn_lt hlt))
  have hF : ∀ i, i < 2 → va_at D vwCl (sz + i, cp_g8 cA i) H := cn_more hF o hN
  have hz : H.size = sz + 2 := hz2
  refine cn_put (T := TX8) (ci := 8) (v := .ref (sz + 1)) 1 hC inI8_8 tyX8_ok nmX8 (List.mem_of_getElem? (i := 6) rfl) dX8_init_19 hE rfl (by decide) rfl (tyX8_ok 1 (by decide)) rfl rfl (Nat.le_of_ble_eq_true rfl) hS (Or.inl rfl) (fun H locs hE hz2 o hS => ?_)
  have hE : va_at D vwCl (h0, .inr (8, [.ref (sz + 0), .ref (sz + 1), .int 0, .int 0, .null, .null, .null, .null, .null, .null, .null, .null, .int 0, .int 0, .null, .int 0, .null, .null, .null, .null, .null, .null])) H := hE
  have hF := cn_moreP hF hlt o
  have hz : H.size = sz + 2 := hz2.trans hz
  refine lv_aload_n hx hb dX8_init_22 rfl (lv_at hl 0 rfl) ?_
  refine lv_bipush (v := nI 8) hx hb dX8_init_23 (by decide) ?_
  refine cn_newa (t0 := 1) (ty := .int) (N' := 8) (a0 := (8, .inl (fun _ => 0))) hC (List.mem_of_getElem? (i := 4) rfl) rfl rfl (fun _ h => by cases h) (fun _ => rfl) (by decide) (by decide) (by decide) (Nat.le_of_ble_eq_true rfl) (Nat.le_of_ble_eq_true rfl) dX8_init_25 hz hS (fun H hN hz2 o hS => ?_)
  have hE := cn_kn hE (o _ (cn_lt hlt))
  have hF : ∀ i, i < 3 → va_at D vwCl (sz + i, cp_g8 cA i) H := cn_more hF o hN
  have hz : H.size = sz + 3 := hz2
  refine cn_put (T := TX8) (ci := 8) (v := .ref (sz + 2)) 4 hC inI8_8 tyX8_ok nmX8 (List.mem_of_getElem? (i := 7) rfl) dX8_init_27 hE rfl (by decide) rfl (tyX8_ok 4 (by decide)) rfl rfl (Nat.le_of_ble_eq_true rfl) hS (Or.inl rfl) (fun H locs hE hz2 o hS => ?_)
  have hE : va_at D vwCl (h0, .inr (8, [.ref (sz + 0), .ref (sz + 1), .int 0, .int 0, .ref (sz + 2), .null, .null, .null, .null, .null, .null, .null, .int 0, .int 0, .null, .int 0, .null, .null, .null, .null, .null, .null])) H := hE
  have hF := cn_moreP hF hlt o
  have hz : H.size = sz + 3 := hz2.trans hz
  refine lv_aload_n hx hb dX8_init_30 rfl (lv_at hl 0 rfl) ?_
  refine lv_bipush (v := nI 8) hx hb dX8_init_31 (by decide) ?_
  refine cn_newa (t0 := 1) (ty := .int) (N' := 8) (a0 := (8, .inl (fun _ => 0))) hC (List.mem_of_getElem? (i := 4) rfl) rfl rfl (fun _ h => by cases h) (fun _ => rfl) (by decide) (by decide) (by decide) (Nat.le_of_ble_eq_true rfl) (Nat.le_of_ble_eq_true rfl) dX8_init_33 hz hS (fun H hN hz2 o hS => ?_)
  have hE := cn_kn hE (o _ (cn_lt hlt))
  have hF : ∀ i, i < 4 → va_at D vwCl (sz + i, cp_g8 cA i) H := cn_more hF o hN
  have hz : H.size = sz + 4 := hz2
  refine cn_put (T := TX8) (ci := 8) (v := .ref (sz + 3)) 5 hC inI8_8 tyX8_ok nmX8 (List.mem_of_getElem? (i := 8) rfl) dX8_init_35 hE rfl (by decide) rfl (tyX8_ok 5 (by decide)) rfl rfl (Nat.le_of_ble_eq_true rfl) hS (Or.inl rfl) (fun H locs hE hz2 o hS => ?_)
  have hE : va_at D vwCl (h0, .inr (8, [.ref (sz + 0), .ref (sz + 1), .int 0, .int 0, .ref (sz + 2), .ref (sz + 3), .null, .null, .null, .null, .null, .null, .int 0, .int 0, .null, .int 0, .null, .null, .null, .null, .null, .null])) H := hE
  have hF := cn_moreP hF hlt o
  have hz : H.size = sz + 4 := hz2.trans hz
  refine lv_aload_n hx hb dX8_init_38 rfl (lv_at hl 0 rfl) ?_
  refine lv_bipush (v := nI 8) hx hb dX8_init_39 (by decide) ?_
  refine cn_newa (t0 := 1) (ty := .int) (N' := 8) (a0 := (8, .inl (fun _ => 0))) hC (List.mem_of_getElem? (i := 4) rfl) rfl rfl (fun _ h => by cases h) (fun _ => rfl) (by decide) (by decide) (by decide) (Nat.le_of_ble_eq_true rfl) (Nat.le_of_ble_eq_true rfl) dX8_init_41 hz hS (fun H hN hz2 o hS => ?_)
  have hE := cn_kn hE (o _ (cn_lt hlt))
  have hF : ∀ i, i < 5 → va_at D vwCl (sz + i, cp_g8 cA i) H := cn_more hF o hN
  have hz : H.size = sz + 5 := hz2
  refine cn_put (T := TX8) (ci := 8) (v := .ref (sz + 4)) 6 hC inI8_8 tyX8_ok nmX8 (List.mem_of_getElem? (i := 9) rfl) dX8_init_43 hE rfl (by decide) rfl (tyX8_ok 6 (by decide)) rfl rfl (Nat.le_of_ble_eq_true rfl) hS (Or.inl rfl) (fun H locs hE hz2 o hS => ?_)
  have hE : va_at D vwCl (h0, .inr (8, [.ref (sz + 0), .ref (sz + 1), .int 0, .int 0, .ref (sz + 2), .ref (sz + 3), .ref (sz + 4), .null, .null, .null, .null, .null, .int 0, .int 0, .null, .int 0, .null, .null, .null, .null, .null, .null])) H := hE
  have hF := cn_moreP hF hlt o
  have hz : H.size = sz + 5 := hz2.trans hz
  refine lv_aload_n hx hb dX8_init_46 rfl (lv_at hl 0 rfl) ?_
  refine lv_sipush (v := nI 2048) hx hb dX8_init_47 (by decide) ?_
  refine cn_newa (t0 := 1) (ty := .int) (N' := 2048) (a0 := (2048, .inl (fun _ => 0))) hC (List.mem_of_getElem? (i := 4) rfl) rfl rfl (fun _ h => by cases h) (fun _ => rfl) (by decide) (by decide) (by decide) (Nat.le_of_ble_eq_true rfl) (Nat.le_of_ble_eq_true rfl) dX8_init_50 hz hS (fun H hN hz2 o hS => ?_)
  have hE := cn_kn hE (o _ (cn_lt hlt))
  have hF : ∀ i, i < 6 → va_at D vwCl (sz + i, cp_g8 cA i) H := cn_more hF o hN
  have hz : H.size = sz + 6 := hz2
  refine cn_put (T := TX8) (ci := 8) (v := .ref (sz + 5)) 7 hC inI8_8 tyX8_ok nmX8 (List.mem_of_getElem? (i := 10) rfl) dX8_init_52 hE rfl (by decide) rfl (tyX8_ok 7 (by decide)) rfl rfl (Nat.le_of_ble_eq_true rfl) hS (Or.inl rfl) (fun H locs hE hz2 o hS => ?_)
  have hE : va_at D vwCl (h0, .inr (8, [.ref (sz + 0), .ref (sz + 1), .int 0, .int 0, .ref (sz + 2), .ref (sz + 3), .ref (sz + 4), .ref (sz + 5), .null, .null, .null, .null, .int 0, .int 0, .null, .int 0, .null, .null, .null, .null, .null, .null])) H := hE
  have hF := cn_moreP hF hlt o
  have hz : H.size = sz + 6 := hz2.trans hz
  refine lv_aload_n hx hb dX8_init_55 rfl (lv_at hl 0 rfl) ?_
  refine lv_bipush (v := nI 8) hx hb dX8_init_56 (by decide) ?_
  refine cn_newa (t0 := 1) (ty := .int) (N' := 8) (a0 := (8, .inl (fun _ => 0))) hC (List.mem_of_getElem? (i := 4) rfl) rfl rfl (fun _ h => by cases h) (fun _ => rfl) (by decide) (by decide) (by decide) (Nat.le_of_ble_eq_true rfl) (Nat.le_of_ble_eq_true rfl) dX8_init_58 hz hS (fun H hN hz2 o hS => ?_)
  have hE := cn_kn hE (o _ (cn_lt hlt))
  have hF : ∀ i, i < 7 → va_at D vwCl (sz + i, cp_g8 cA i) H := cn_more hF o hN
  have hz : H.size = sz + 7 := hz2
  refine cn_put (T := TX8) (ci := 8) (v := .ref (sz + 6)) 8 hC inI8_8 tyX8_ok nmX8 (List.mem_of_getElem? (i := 11) rfl) dX8_init_60 hE rfl (by decide) rfl (tyX8_ok 8 (by decide)) rfl rfl (Nat.le_of_ble_eq_true rfl) hS (Or.inl rfl) (fun H locs hE hz2 o hS => ?_)
  have hE : va_at D vwCl (h0, .inr (8, [.ref (sz + 0), .ref (sz + 1), .int 0, .int 0, .ref (sz + 2), .ref (sz + 3), .ref (sz + 4), .ref (sz + 5), .ref (sz + 6), .null, .null, .null, .int 0, .int 0, .null, .int 0, .null, .null, .null, .null, .null, .null])) H := hE
  have hF := cn_moreP hF hlt o
  have hz : H.size = sz + 7 := hz2.trans hz
  refine lv_aload_n hx hb dX8_init_63 rfl (lv_at hl 0 rfl) ?_
  refine lv_bipush (v := nI 8) hx hb dX8_init_64 (by decide) ?_
  refine cn_newa (t0 := 2) (ty := .long) (N' := 8) (a0 := (8, .inr (.inl (fun _ => 0)))) hC (List.mem_of_getElem? (i := 12) rfl) rfl rfl (fun _ h => by cases h) (fun _ => rfl) (by decide) (by decide) (by decide) (Nat.le_of_ble_eq_true rfl) (Nat.le_of_ble_eq_true rfl) dX8_init_66 hz hS (fun H hN hz2 o hS => ?_)
  have hE := cn_kn hE (o _ (cn_lt hlt))
  have hF : ∀ i, i < 8 → va_at D vwCl (sz + i, cp_g8 cA i) H := cn_more hF o hN
  have hz : H.size = sz + 8 := hz2
  refine cn_put (T := TX8) (ci := 8) (v := .ref (sz + 7)) 9 hC inI8_8 tyX8_ok nmX8 (List.mem_of_getElem? (i := 13) rfl) dX8_init_68 hE rfl (by decide) rfl (tyX8_ok 9 (by decide)) rfl rfl (Nat.le_of_ble_eq_true rfl) hS (Or.inl rfl) (fun H locs hE hz2 o hS => ?_)
  have hE : va_at D vwCl (h0, .inr (8, [.ref (sz + 0), .ref (sz + 1), .int 0, .int 0, .ref (sz + 2), .ref (sz + 3), .ref (sz + 4), .ref (sz + 5), .ref (sz + 6), .ref (sz + 7), .null, .null, .int 0, .int 0, .null, .int 0, .null, .null, .null, .null, .null, .null])) H := hE
  have hF := cn_moreP hF hlt o
  have hz : H.size = sz + 8 := hz2.trans hz
  refine lv_aload_n hx hb dX8_init_71 rfl (lv_at hl 0 rfl) ?_
  refine lv_bipush (v := nI 8) hx hb dX8_init_72 (by decide) ?_
  refine cn_newa (t0 := 2) (ty := .long) (N' := 8) (a0 := (8, .inr (.inl (fun _ => 0)))) hC (List.mem_of_getElem? (i := 12) rfl) rfl rfl (fun _ h => by cases h) (fun _ => rfl) (by decide) (by decide) (by decide) (Nat.le_of_ble_eq_true rfl) (Nat.le_of_ble_eq_true rfl) dX8_init_74 hz hS (fun H hN hz2 o hS => ?_)
  have hE := cn_kn hE (o _ (cn_lt hlt))
  have hF : ∀ i, i < 9 → va_at D vwCl (sz + i, cp_g8 cA i) H := cn_more hF o hN
  have hz : H.size = sz + 9 := hz2
  refine cn_put (T := TX8) (ci := 8) (v := .ref (sz + 8)) 10 hC inI8_8 tyX8_ok nmX8 (List.mem_of_getElem? (i := 14) rfl) dX8_init_76 hE rfl (by decide) rfl (tyX8_ok 10 (by decide)) rfl rfl (Nat.le_of_ble_eq_true rfl) hS (Or.inl rfl) (fun H locs hE hz2 o hS => ?_)
  have hE : va_at D vwCl (h0, .inr (8, [.ref (sz + 0), .ref (sz + 1), .int 0, .int 0, .ref (sz + 2), .ref (sz + 3), .ref (sz + 4), .ref (sz + 5), .ref (sz + 6), .ref (sz + 7), .ref (sz + 8), .null, .int 0, .int 0, .null, .int 0, .null, .null, .null, .null, .null, .null])) H := hE
  have hF := cn_moreP hF hlt o
  have hz : H.size = sz + 9 := hz2.trans hz
  refine lv_aload_n hx hb dX8_init_79 rfl (lv_at hl 0 rfl) ?_
  refine lv_bipush (v := nI 90) hx hb dX8_init_80 (by decide) ?_
  refine cn_newa (t0 := 1) (ty := .int) (N' := 90) (a0 := (90, .inl (fun _ => 0))) hC (List.mem_of_getElem? (i := 4) rfl) rfl rfl (fun _ h => by cases h) (fun _ => rfl) (by decide) (by decide) (by decide) (Nat.le_of_ble_eq_true rfl) (Nat.le_of_ble_eq_true rfl) dX8_init_82 hz hS (fun H hN hz2 o hS => ?_)
  have hE := cn_kn hE (o _ (cn_lt hlt))
  have hF : ∀ i, i < 10 → va_at D vwCl (sz + i, cp_g8 cA i) H := cn_more hF o hN
  have hz : H.size = sz + 10 := hz2
  refine cn_put (T := TX8) (ci := 8) (v := .ref (sz + 9)) 11 hC inI8_8 tyX8_ok nmX8 (List.mem_of_getElem? (i := 15) rfl) dX8_init_84 hE rfl (by decide) rfl (tyX8_ok 11 (by decide)) rfl rfl (Nat.le_of_ble_eq_true rfl) hS (Or.inl rfl) (fun H locs hE hz2 o hS => ?_)
  have hE : va_at D vwCl (h0, .inr (8, [.ref (sz + 0), .ref (sz + 1), .int 0, .int 0, .ref (sz + 2), .ref (sz + 3), .ref (sz + 4), .ref (sz + 5), .ref (sz + 6), .ref (sz + 7), .ref (sz + 8), .ref (sz + 9), .int 0, .int 0, .null, .int 0, .null, .null, .null, .null, .null, .null])) H := hE
  have hF := cn_moreP hF hlt o
  have hz : H.size = sz + 10 := hz2.trans hz
  refine lv_aload_n hx hb dX8_init_87 rfl (lv_at hl 0 rfl) ?_
  refine lv_sipush (v := nI 364) hx hb dX8_init_88 (by decide) ?_
  refine cn_newa (t0 := 1) (ty := .int) (N' := 364) (a0 := (364, .inl (fun _ => 0))) hC (List.mem_of_getElem? (i := 4) rfl) rfl rfl (fun _ h => by cases h) (fun _ => rfl) (by decide) (by decide) (by decide) (Nat.le_of_ble_eq_true rfl) (Nat.le_of_ble_eq_true rfl) dX8_init_91 hz hS (fun H hN hz2 o hS => ?_)
  have hE := cn_kn hE (o _ (cn_lt hlt))
  have hF : ∀ i, i < 11 → va_at D vwCl (sz + i, cp_g8 cA i) H := cn_more hF o hN
  have hz : H.size = sz + 11 := hz2
  refine cn_put (T := TX8) (ci := 8) (v := .ref (sz + 10)) 14 hC inI8_8 tyX8_ok nmX8 (List.mem_of_getElem? (i := 16) rfl) dX8_init_93 hE rfl (by decide) rfl (tyX8_ok 14 (by decide)) rfl rfl (Nat.le_of_ble_eq_true rfl) hS (Or.inl rfl) (fun H locs hE hz2 o hS => ?_)
  have hE : va_at D vwCl (h0, .inr (8, [.ref (sz + 0), .ref (sz + 1), .int 0, .int 0, .ref (sz + 2), .ref (sz + 3), .ref (sz + 4), .ref (sz + 5), .ref (sz + 6), .ref (sz + 7), .ref (sz + 8), .ref (sz + 9), .int 0, .int 0, .ref (sz + 10), .int 0, .null, .null, .null, .null, .null, .null])) H := hE
  have hF := cn_moreP hF hlt o
  have hz : H.size = sz + 11 := hz2.trans hz
  refine lv_aload_n hx hb dX8_init_96 rfl (lv_at hl 0 rfl) ?_
  refine lv_iconst (v := nI 4) hx hb dX8_init_97 (by decide) ?_
  refine cn_newa (t0 := 1) (ty := .int) (N' := 4) (a0 := (4, .inl (fun _ => 0))) hC (List.mem_of_getElem? (i := 4) rfl) rfl rfl (fun _ h => by cases h) (fun _ => rfl) (by decide) (by decide) (by decide) (Nat.le_of_ble_eq_true rfl) (Nat.le_of_ble_eq_true rfl) dX8_init_98 hz hS (fun H hN hz2 o hS => ?_)
  have hE := cn_kn hE (o _ (cn_lt hlt))
  have hF : ∀ i, i < 12 → va_at D vwCl (sz + i, cp_g8 cA i) H := cn_more hF o hN
  have hz : H.size = sz + 12 := hz2
  refine cn_put (T := TX8) (ci := 8) (v := .ref (sz + 11)) 16 hC inI8_8 tyX8_ok nmX8 (List.mem_of_getElem? (i := 17) rfl) dX8_init_100 hE rfl (by decide) rfl (tyX8_ok 16 (by decide)) rfl rfl (Nat.le_of_ble_eq_true rfl) hS (Or.inl rfl) (fun H locs hE hz2 o hS => ?_)
  have hE : va_at D vwCl (h0, .inr (8, [.ref (sz + 0), .ref (sz + 1), .int 0, .int 0, .ref (sz + 2), .ref (sz + 3), .ref (sz + 4), .ref (sz + 5), .ref (sz + 6), .ref (sz + 7), .ref (sz + 8), .ref (sz + 9), .int 0, .int 0, .ref (sz + 10), .int 0, .ref (sz + 11), .null, .null, .null, .null, .null])) H := hE
  have hF := cn_moreP hF hlt o
  have hz : H.size = sz + 12 := hz2.trans hz
  refine lv_aload_n hx hb dX8_init_103 rfl (lv_at hl 0 rfl) ?_
  refine lv_iconst (v := nI 4) hx hb dX8_init_104 (by decide) ?_
  refine cn_newa (t0 := 1) (ty := .int) (N' := 4) (a0 := (4, .inl (fun _ => 0))) hC (List.mem_of_getElem? (i := 4) rfl) rfl rfl (fun _ h => by cases h) (fun _ => rfl) (by decide) (by decide) (by decide) (Nat.le_of_ble_eq_true rfl) (Nat.le_of_ble_eq_true rfl) dX8_init_105 hz hS (fun H hN hz2 o hS => ?_)
  have hE := cn_kn hE (o _ (cn_lt hlt))
  have hF : ∀ i, i < 13 → va_at D vwCl (sz + i, cp_g8 cA i) H := cn_more hF o hN
  have hz : H.size = sz + 13 := hz2
  refine cn_put (T := TX8) (ci := 8) (v := .ref (sz + 12)) 17 hC inI8_8 tyX8_ok nmX8 (List.mem_of_getElem? (i := 18) rfl) dX8_init_107 hE rfl (by decide) rfl (tyX8_ok 17 (by decide)) rfl rfl (Nat.le_of_ble_eq_true rfl) hS (Or.inl rfl) (fun H locs hE hz2 o hS => ?_)
  have hE : va_at D vwCl (h0, .inr (8, [.ref (sz + 0), .ref (sz + 1), .int 0, .int 0, .ref (sz + 2), .ref (sz + 3), .ref (sz + 4), .ref (sz + 5), .ref (sz + 6), .ref (sz + 7), .ref (sz + 8), .ref (sz + 9), .int 0, .int 0, .ref (sz + 10), .int 0, .ref (sz + 11), .ref (sz + 12), .null, .null, .null, .null])) H := hE
  have hF := cn_moreP hF hlt o
  have hz : H.size = sz + 13 := hz2.trans hz
  refine lv_aload_n hx hb dX8_init_110 rfl (lv_at hl 0 rfl) ?_
  refine lv_bipush (v := nI 96) hx hb dX8_init_111 (by decide) ?_
  refine cn_newa (t0 := 2) (ty := .long) (N' := 96) (a0 := (96, .inr (.inl (fun _ => 0)))) hC (List.mem_of_getElem? (i := 12) rfl) rfl rfl (fun _ h => by cases h) (fun _ => rfl) (by decide) (by decide) (by decide) (Nat.le_of_ble_eq_true rfl) (Nat.le_of_ble_eq_true rfl) dX8_init_113 hz hS (fun H hN hz2 o hS => ?_)
  have hE := cn_kn hE (o _ (cn_lt hlt))
  have hF : ∀ i, i < 14 → va_at D vwCl (sz + i, cp_g8 cA i) H := cn_more hF o hN
  have hz : H.size = sz + 14 := hz2
  refine cn_put (T := TX8) (ci := 8) (v := .ref (sz + 13)) 18 hC inI8_8 tyX8_ok nmX8 (List.mem_of_getElem? (i := 19) rfl) dX8_init_115 hE rfl (by decide) rfl (tyX8_ok 18 (by decide)) rfl rfl (Nat.le_of_ble_eq_true rfl) hS (Or.inl rfl) (fun H locs hE hz2 o hS => ?_)
  have hE : va_at D vwCl (h0, .inr (8, [.ref (sz + 0), .ref (sz + 1), .int 0, .int 0, .ref (sz + 2), .ref (sz + 3), .ref (sz + 4), .ref (sz + 5), .ref (sz + 6), .ref (sz + 7), .ref (sz + 8), .ref (sz + 9), .int 0, .int 0, .ref (sz + 10), .int 0, .ref (sz + 11), .ref (sz + 12), .ref (sz + 13), .null, .null, .null])) H := hE
  have hF := cn_moreP hF hlt o
  have hz : H.size = sz + 14 := hz2.trans hz
  refine lv_aload_n hx hb dX8_init_118 rfl (lv_at hl 0 rfl) ?_
  refine lv_bipush (v := nI 24) hx hb dX8_init_119 (by decide) ?_
  refine cn_newa (t0 := 2) (ty := .long) (N' := 24) (a0 := (24, .inr (.inl (fun _ => 0)))) hC (List.mem_of_getElem? (i := 12) rfl) rfl rfl (fun _ h => by cases h) (fun _ => rfl) (by decide) (by decide) (by decide) (Nat.le_of_ble_eq_true rfl) (Nat.le_of_ble_eq_true rfl) dX8_init_121 hz hS (fun H hN hz2 o hS => ?_)
  have hE := cn_kn hE (o _ (cn_lt hlt))
  have hF : ∀ i, i < 15 → va_at D vwCl (sz + i, cp_g8 cA i) H := cn_more hF o hN
  have hz : H.size = sz + 15 := hz2
  refine cn_put (T := TX8) (ci := 8) (v := .ref (sz + 14)) 19 hC inI8_8 tyX8_ok nmX8 (List.mem_of_getElem? (i := 20) rfl) dX8_init_123 hE rfl (by decide) rfl (tyX8_ok 19 (by decide)) rfl rfl (Nat.le_of_ble_eq_true rfl) hS (Or.inl rfl) (fun H locs hE hz2 o hS => ?_)
  have hE : va_at D vwCl (h0, .inr (8, [.ref (sz + 0), .ref (sz + 1), .int 0, .int 0, .ref (sz + 2), .ref (sz + 3), .ref (sz + 4), .ref (sz + 5), .ref (sz + 6), .ref (sz + 7), .ref (sz + 8), .ref (sz + 9), .int 0, .int 0, .ref (sz + 10), .int 0, .ref (sz + 11), .ref (sz + 12), .ref (sz + 13), .ref (sz + 14), .null, .null])) H := hE
  have hF := cn_moreP hF hlt o
  have hz : H.size = sz + 15 := hz2.trans hz
  refine lv_aload_n hx hb dX8_init_126 rfl (lv_at hl 0 rfl) ?_
  refine lv_bipush (v := nI 8) hx hb dX8_init_127 (by decide) ?_
  refine cn_newa (t0 := 1) (ty := .int) (N' := 8) (a0 := (8, .inl (fun _ => 0))) hC (List.mem_of_getElem? (i := 4) rfl) rfl rfl (fun _ h => by cases h) (fun _ => rfl) (by decide) (by decide) (by decide) (Nat.le_of_ble_eq_true rfl) (Nat.le_of_ble_eq_true rfl) dX8_init_129 hz hS (fun H hN hz2 o hS => ?_)
  have hE := cn_kn hE (o _ (cn_lt hlt))
  have hF : ∀ i, i < 16 → va_at D vwCl (sz + i, cp_g8 cA i) H := cn_more hF o hN
  have hz : H.size = sz + 16 := hz2
  refine cn_put (T := TX8) (ci := 8) (v := .ref (sz + 15)) 20 hC inI8_8 tyX8_ok nmX8 (List.mem_of_getElem? (i := 21) rfl) dX8_init_131 hE rfl (by decide) rfl (tyX8_ok 20 (by decide)) rfl rfl (Nat.le_of_ble_eq_true rfl) hS (Or.inl rfl) (fun H locs hE hz2 o hS => ?_)
  have hE : va_at D vwCl (h0, .inr (8, [.ref (sz + 0), .ref (sz + 1), .int 0, .int 0, .ref (sz + 2), .ref (sz + 3), .ref (sz + 4), .ref (sz + 5), .ref (sz + 6), .ref (sz + 7), .ref (sz + 8), .ref (sz + 9), .int 0, .int 0, .ref (sz + 10), .int 0, .ref (sz + 11), .ref (sz + 12), .ref (sz + 13), .ref (sz + 14), .ref (sz + 15), .null])) H := hE
  have hF := cn_moreP hF hlt o
  have hz : H.size = sz + 16 := hz2.trans hz
  refine lv_aload_n hx hb dX8_init_134 rfl (lv_at hl 0 rfl) ?_
  refine lv_bipush (v := nI 8) hx hb dX8_init_135 (by decide) ?_
  refine cn_newa (t0 := 1) (ty := .int) (N' := 8) (a0 := (8, .inl (fun _ => 0))) hC (List.mem_of_getElem? (i := 4) rfl) rfl rfl (fun _ h => by cases h) (fun _ => rfl) (by decide) (by decide) (by decide) (Nat.le_of_ble_eq_true rfl) (Nat.le_of_ble_eq_true rfl) dX8_init_137 hz hS (fun H hN hz2 o hS => ?_)
  have hE := cn_kn hE (o _ (cn_lt hlt))
  have hF : ∀ i, i < 17 → va_at D vwCl (sz + i, cp_g8 cA i) H := cn_more hF o hN
  have hz : H.size = sz + 17 := hz2
  refine cn_put (T := TX8) (ci := 8) (v := .ref (sz + 16)) 21 hC inI8_8 tyX8_ok nmX8 (List.mem_of_getElem? (i := 22) rfl) dX8_init_139 hE rfl (by decide) rfl (tyX8_ok 21 (by decide)) rfl rfl (Nat.le_of_ble_eq_true rfl) hS (Or.inl rfl) (fun H locs hE hz2 o hS => ?_)
  have hE : va_at D vwCl (h0, .inr (8, [.ref (sz + 0), .ref (sz + 1), .int 0, .int 0, .ref (sz + 2), .ref (sz + 3), .ref (sz + 4), .ref (sz + 5), .ref (sz + 6), .ref (sz + 7), .ref (sz + 8), .ref (sz + 9), .int 0, .int 0, .ref (sz + 10), .int 0, .ref (sz + 11), .ref (sz + 12), .ref (sz + 13), .ref (sz + 14), .ref (sz + 15), .ref (sz + 16)])) H := hE
  have hF := cn_moreP hF hlt o
  have hz : H.size = sz + 17 := hz2.trans hz
  refine lv_aload_n hx hb dX8_init_142 rfl (lv_at hl 0 rfl) ?_
  refine cn_get (T := TX8) 0 hC inI8_8 (List.mem_of_getElem? (i := 5) rfl) dX8_init_143 hE rfl (by decide) rfl ?_
  refine lv_bipush (v := nI 67) hx hb dX8_init_146 (by decide) ?_
  refine lv_iconst (v := nI 1) hx hb dX8_init_148 (by decide) ?_
  refine cn_iast (t0 := 1) (j := 67) hC (hF 0 (by decide)) rfl (by decide) (by decide) dX8_init_149 hS (Or.inr (Nat.le_refl _)) (fun H locs a0 hz2 o hS => ?_)
  have hE := cn_kn hE (o _ (cn_ne hlt))
  have hF : ∀ i, i < 17 → i ≠ 0 → va_at D vwCl (sz + i, cp_g8 cA i) H := fun i hi h => cn_kn (hF i hi) (o _ (by omega))
  have hz : H.size = sz + 17 := hz2.trans hz
  refine lv_iconst (v := nI 0) hx hb dX8_init_150 (by decide) ?_
  refine lv_istore_n (lv' := [(1, .int (nI 0)), (0, .ref h0)]) hx hb dX8_init_151 rfl hl (by decide) rfl (fun ls hl => ?_)
  have a1 := hF 11 (by decide) (by decide)
  have hF : ∀ i, i < 17 → i ≠ 0 → i ≠ 11 → va_at D vwCl (sz + i, cp_g8 cA i) H := fun i hi h _ => hF i hi h
  refine lv_iload_n hx hb dX8_init_152 rfl (lv_at hl 0 rfl) ?_
  refine lv_iconst (v := nI 4) hx hb dX8_init_153 (by decide) ?_
  refine jn_icmp_ge (tgt := 171) hx hb dX8_init_154 (by decide) (by decide) (by decide) (fun q => absurd q (by decide)) (fun _ => ?_)
  refine lv_aload_n hx hb dX8_init_157 rfl (lv_at hl 1 rfl) ?_
  refine cn_get (T := TX8) 16 hC inI8_8 (List.mem_of_getElem? (i := 17) rfl) dX8_init_158 hE rfl (by decide) rfl ?_
  refine lv_iload_n hx hb dX8_init_161 rfl (lv_at hl 0 rfl) ?_
  refine lv_bipush (v := -4) hx hb dX8_init_162 (by decide) ?_
  refine cn_iast (t0 := 1) (j := 0) hC a1 rfl (by decide) (by decide) dX8_init_164 hS (Or.inr (Nat.le_add_right _ _)) (fun H locs a1 hz2 o hS => ?_)
  have hE := cn_kn hE (o _ (cn_ne hlt))
  have a0 := cn_kn a0 (o _ (by omega))
  have hF : ∀ i, i < 17 → i ≠ 0 → i ≠ 11 → va_at D vwCl (sz + i, cp_g8 cA i) H := fun i hi h h2 => cn_kn (hF i hi h h2) (o _ (by omega))
  have hz : H.size = sz + 17 := hz2.trans hz
  refine lv_iinc (v := nI 1) (lv' := [(1, .int (nI 1)), (0, .ref h0)]) hx hb dX8_init_165 hl (k := 0) rfl (jn_inc _ 1) (by decide) rfl (fun ls hl => ?_)
  refine lv_goto (tgt := 152) hx hb dX8_init_168 (by decide) ?_
  refine lv_iload_n hx hb dX8_init_152 rfl (lv_at hl 0 rfl) ?_
  refine lv_iconst (v := nI 4) hx hb dX8_init_153 (by decide) ?_
  refine jn_icmp_ge (tgt := 171) hx hb dX8_init_154 (by decide) (by decide) (by decide) (fun q => absurd q (by decide)) (fun _ => ?_)
  refine lv_aload_n hx hb dX8_init_157 rfl (lv_at hl 1 rfl) ?_
  refine cn_get (T := TX8) 16 hC inI8_8 (List.mem_of_getElem? (i := 17) rfl) dX8_init_158 hE rfl (by decide) rfl ?_
  refine lv_iload_n hx hb dX8_init_161 rfl (lv_at hl 0 rfl) ?_
  refine lv_bipush (v := -4) hx hb dX8_init_162 (by decide) ?_
  refine cn_iast (t0 := 1) (j := 1) hC a1 rfl (by decide) (by decide) dX8_init_164 hS (Or.inr (Nat.le_add_right _ _)) (fun H locs a1 hz2 o hS => ?_)
  have hE := cn_kn hE (o _ (cn_ne hlt))
  have a0 := cn_kn a0 (o _ (by omega))
  have hF : ∀ i, i < 17 → i ≠ 0 → i ≠ 11 → va_at D vwCl (sz + i, cp_g8 cA i) H := fun i hi h h2 => cn_kn (hF i hi h h2) (o _ (by omega))
  have hz : H.size = sz + 17 := hz2.trans hz
  refine lv_iinc (v := nI 2) (lv' := [(1, .int (nI 2)), (0, .ref h0)]) hx hb dX8_init_165 hl (k := 0) rfl (jn_inc _ 1) (by decide) rfl (fun ls hl => ?_)
  refine lv_goto (tgt := 152) hx hb dX8_init_168 (by decide) ?_
  refine lv_iload_n hx hb dX8_init_152 rfl (lv_at hl 0 rfl) ?_
  refine lv_iconst (v := nI 4) hx hb dX8_init_153 (by decide) ?_
  refine jn_icmp_ge (tgt := 171) hx hb dX8_init_154 (by decide) (by decide) (by decide) (fun q => absurd q (by decide)) (fun _ => ?_)
  refine lv_aload_n hx hb dX8_init_157 rfl (lv_at hl 1 rfl) ?_
  refine cn_get (T := TX8) 16 hC inI8_8 (List.mem_of_getElem? (i := 17) rfl) dX8_init_158 hE rfl (by decide) rfl ?_
  refine lv_iload_n hx hb dX8_init_161 rfl (lv_at hl 0 rfl) ?_
  refine lv_bipush (v := -4) hx hb dX8_init_162 (by decide) ?_
  refine cn_iast (t0 := 1) (j := 2) hC a1 rfl (by decide) (by decide) dX8_init_164 hS (Or.inr (Nat.le_add_right _ _)) (fun H locs a1 hz2 o hS => ?_)
  have hE := cn_kn hE (o _ (cn_ne hlt))
  have a0 := cn_kn a0 (o _ (by omega))
  have hF : ∀ i, i < 17 → i ≠ 0 → i ≠ 11 → va_at D vwCl (sz + i, cp_g8 cA i) H := fun i hi h h2 => cn_kn (hF i hi h h2) (o _ (by omega))
  have hz : H.size = sz + 17 := hz2.trans hz
  refine lv_iinc (v := nI 3) (lv' := [(1, .int (nI 3)), (0, .ref h0)]) hx hb dX8_init_165 hl (k := 0) rfl (jn_inc _ 1) (by decide) rfl (fun ls hl => ?_)
  refine lv_goto (tgt := 152) hx hb dX8_init_168 (by decide) ?_
  refine lv_iload_n hx hb dX8_init_152 rfl (lv_at hl 0 rfl) ?_
  refine lv_iconst (v := nI 4) hx hb dX8_init_153 (by decide) ?_
  refine jn_icmp_ge (tgt := 171) hx hb dX8_init_154 (by decide) (by decide) (by decide) (fun q => absurd q (by decide)) (fun _ => ?_)
  refine lv_aload_n hx hb dX8_init_157 rfl (lv_at hl 1 rfl) ?_
  refine cn_get (T := TX8) 16 hC inI8_8 (List.mem_of_getElem? (i := 17) rfl) dX8_init_158 hE rfl (by decide) rfl ?_
  refine lv_iload_n hx hb dX8_init_161 rfl (lv_at hl 0 rfl) ?_
  refine lv_bipush (v := -4) hx hb dX8_init_162 (by decide) ?_
  refine cn_iast (t0 := 1) (j := 3) hC a1 rfl (by decide) (by decide) dX8_init_164 hS (Or.inr (Nat.le_add_right _ _)) (fun H locs a1 hz2 o hS => ?_)
  have hE := cn_kn hE (o _ (cn_ne hlt))
  have a0 := cn_kn a0 (o _ (by omega))
  have hF : ∀ i, i < 17 → i ≠ 0 → i ≠ 11 → va_at D vwCl (sz + i, cp_g8 cA i) H := fun i hi h h2 => cn_kn (hF i hi h h2) (o _ (by omega))
  have hz : H.size = sz + 17 := hz2.trans hz
  refine lv_iinc (v := nI 4) (lv' := [(1, .int (nI 4)), (0, .ref h0)]) hx hb dX8_init_165 hl (k := 0) rfl (jn_inc _ 1) (by decide) rfl (fun ls hl => ?_)
  refine lv_goto (tgt := 152) hx hb dX8_init_168 (by decide) ?_
  refine lv_iload_n hx hb dX8_init_152 rfl (lv_at hl 0 rfl) ?_
  refine lv_iconst (v := nI 4) hx hb dX8_init_153 (by decide) ?_
  refine jn_icmp_ge (tgt := 171) hx hb dX8_init_154 (by decide) (by decide) (by decide) (fun _ => ?_) (fun q => absurd q (by decide))
  have a0 := cn_arrI a0 (g := fun j => if j = 67 then nI 1 else 0) (fun d _ => rfl)
  have a1 := cn_arrI a1 (g := fun j => if j < 4 then -4 else 0) (fun d hd => by rcases (show d = 0 ∨ d = 1 ∨ d = 2 ∨ d = 3 by omega) with rfl | rfl | rfl | rfl <;> rfl)
  refine cn_ret hC hS hz hE (fun i hi => ?_) dX8_init_171
  rcases (show i = 0 ∨ i = 1 ∨ i = 2 ∨ i = 3 ∨ i = 4 ∨ i = 5 ∨ i = 6 ∨ i = 7 ∨ i = 8 ∨ i = 9 ∨ i = 10 ∨ i = 11 ∨ i = 12 ∨ i = 13 ∨ i = 14 ∨ i = 15 ∨ i = 16 by omega) with rfl | rfl | rfl | rfl | rfl | rfl | rfl | rfl | rfl | rfl | rfl | rfl | rfl | rfl | rfl | rfl | rfl
  · exact a0
  · exact hF 1 (by decide) (by decide) (by decide)
  · exact hF 2 (by decide) (by decide) (by decide)
  · exact hF 3 (by decide) (by decide) (by decide)
  · exact hF 4 (by decide) (by decide) (by decide)
  · exact hF 5 (by decide) (by decide) (by decide)
  · exact hF 6 (by decide) (by decide) (by decide)
  · exact hF 7 (by decide) (by decide) (by decide)
  · exact hF 8 (by decide) (by decide) (by decide)
  · exact hF 9 (by decide) (by decide) (by decide)
  · exact hF 10 (by decide) (by decide) (by decide)
  · exact a1
  · exact hF 12 (by decide) (by decide) (by decide)
  · exact hF 13 (by decide) (by decide) (by decide)
  · exact hF 14 (by decide) (by decide) (by decide)
  · exact hF 15 (by decide) (by decide) (by decide)
  · exact hF 16 (by decide) (by decide) (by decide)
