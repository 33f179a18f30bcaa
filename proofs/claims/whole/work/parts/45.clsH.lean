set_option maxHeartbeats 4000000 in
set_option maxRecDepth 100000 in
theorem c_J7_fill_d0a16 (l_ : Launch) (G : jG) (I : Nat → Nat → Int32) (J : Nat → Nat → Int64) (O : Nat → Nat → Nat) (r : Nat) (v : Int64) (hrr : r < 6 ∨ (10 ≤ r ∧ r ≤ 13)) : jMv l_ G yJ7_fill_d0a16 wsJ7_fill_d0a16 ({ frames := 0, cells := 0, slots := 0, locals := 0 }) [.ref (G.2.2.1 (22, r, 0)), .long v] (I, J, O) (fun u => u = (I, srJ J r (filJ (J r) v (lenJ r)), O)) := by
  refine jMv_of (cc := cJ7_fill_d0a16) (maxL := 5) (ret := none) (lv0 := [(0, .ref (G.2.2.1 (22, r, 0))), (1, .long v)]) (by decide) rfl (Nat.le_of_ble_eq_true rfl) rfl ?_
  intro pg_ ev_ s_ mi_ below meth cd_ A ls hC hB hl
  obtain ⟨hx, hb, hr, hml, hown, hts, hlocks, hK, hA⟩ := id hC
  have hlt := lenJ_lt r
  refine lv_iconst (v := nI 0) hx hb dJ7_fill_d0a16_0 (by decide) ?_
  refine lv_istore_n (lv' := [(3, .int (nI 0)), (0, .ref (G.2.2.1 (22, r, 0))), (1, .long v)]) hx hb dJ7_fill_d0a16_1 rfl hl (by decide) rfl (fun ls hl => ?_)
  refine lv_aload_n hx hb dJ7_fill_d0a16_2 rfl (lv_at hl 1 rfl) ?_
  refine j_alenJ r hC hB dJ7_fill_d0a16_3 hrr ?_
  refine lv_istore (lv' := [(4, .int (nI (lenJ r))), (3, .int (nI 0)), (0, .ref (G.2.2.1 (22, r, 0))), (1, .long v)]) hx hb dJ7_fill_d0a16_4 hl (by decide) rfl (fun ls hl => ?_)
  have lp_6 : ∀ (fu : Nat) (f : Nat → Int64) (k : Nat), lenJ r - k < fu → (k ≤ lenJ r) → (f = filJ (J r) v k) → ∀ H locs ls, jB G A s_.heap (I, srJ J r (f), O) H locs → lv_has ls 5 [(4, .int (nI (lenJ r))), (3, .int (nI k)), (0, .ref (G.2.2.1 (22, r, 0))), (1, .long v)] → W pg_ l_ ev_ ({ frames := 0, cells := 0, slots := 0, locals := 0 }) s_ mi_ ([.ref (G.2.2.1 (22, r, 0)), .long v]).toArray below meth cd_ H locs 0 0 (jQv G A below [.ref (G.2.2.1 (22, r, 0)), .long v] s_ (fun u => u = (I, srJ J r (filJ (J r) v (lenJ r)), O))) (F0 mi_ 6 ls []) := by
    intro fu
    induction fu with
    | zero => intro f k hf; exact absurd hf (Nat.not_lt_zero _)
    | succ fu ih_6 =>
      intro f k hf_6 hk hf H locs ls hB hl
      refine lv_iload_n hx hb dJ7_fill_d0a16_6 rfl (lv_at hl 1 rfl) ?_
      refine lv_iload hx hb dJ7_fill_d0a16_7 (lv_at hl 0 rfl) ?_
      refine jn_icmp_ge (tgt := 22) hx hb dJ7_fill_d0a16_9 (by decide) (by omega) (by omega) (fun c_9 => ?_) (fun c_9 => ?_)
      · exact j_vret hC hB dJ7_fill_d0a16_22 (by rw [hf, show k = lenJ r by omega])
      · refine lv_aload_n hx hb dJ7_fill_d0a16_12 rfl (lv_at hl 2 rfl) ?_
        refine lv_iload_n hx hb dJ7_fill_d0a16_13 rfl (lv_at hl 1 rfl) ?_
        refine lv_lload_n hx hb dJ7_fill_d0a16_14 rfl (lv_at hl 3 rfl) ?_
        refine j_lst r k hC hB dJ7_fill_d0a16_15 hrr rfl (by omega) (fun H locs hB => ?_)
        have hB : jB G A s_.heap (I, srJ J r (vp_updL (f) k v), O) H locs := by rw [show srJ J r (vp_updL (f) k v) = v2 (srJ J r (f)) r k v from (v2_srJ _ _ _ _ _).symm]; exact hB
        refine lv_iinc (v := nI (k + 1)) (lv' := [(3, .int (nI (k + 1))), (4, .int (nI (lenJ r))), (0, .ref (G.2.2.1 (22, r, 0))), (1, .long v)]) hx hb dJ7_fill_d0a16_16 hl (k := 1) rfl (jn_inc _ 1) (by decide) rfl (fun ls hl => ?_)
        refine lv_goto (tgt := 6) hx hb dJ7_fill_d0a16_19 (by decide) ?_
        exact ih_6 (vp_updL (f) k v) (k + 1) (by omega) (by omega) (by rw [hf]; exact filJ_step _ _ _) _ _ _ (jB_cast2 hB (by first | rfl | exact (sr_id _ _).symm | exact (srJ_id _ _).symm | (funext a; simp +decide only [sr, srJ]; (repeat' split) <;> first | rfl | (exfalso; omega) | (subst_vars; rfl))) (by first | rfl | exact (sr_id _ _).symm | exact (srJ_id _ _).symm | (funext a; simp +decide only [sr, srJ]; (repeat' split) <;> first | rfl | (exfalso; omega) | (subst_vars; rfl)))) (lv_sub hl [1, 0, 2, 3] rfl)
  exact lp_6 _ (J r) 0 (Nat.lt_succ_self _) (Nat.zero_le _) ((filJ_0 _ _).symm) _ _ _ (jB_cast2 hB (by first | rfl | exact (sr_id _ _).symm | exact (srJ_id _ _).symm | (funext a; simp +decide only [sr, srJ]; (repeat' split) <;> first | rfl | (exfalso; omega) | (subst_vars; rfl))) (by first | rfl | exact (sr_id _ _).symm | exact (srJ_id _ _).symm | (funext a; simp +decide only [sr, srJ]; (repeat' split) <;> first | rfl | (exfalso; omega) | (subst_vars; rfl)))) (lv_sub hl [0, 1, 2, 3] rfl)

set_option maxHeartbeats 4000000 in
set_option maxRecDepth 100000 in
theorem c_J7_fill_53178 (l_ : Launch) (G : jG) (I : Nat → Nat → Int32) (J : Nat → Nat → Int64) (O : Nat → Nat → Nat) (r : Nat) (v : Int32) (hrr : (27 ≤ r ∧ r ≤ 31) ∨ (41 ≤ r ∧ r ≤ 53)) : jMv l_ G yJ7_fill_53178 wsJ7_fill_53178 ({ frames := 0, cells := 0, slots := 0, locals := 0 }) [.ref (G.2.2.1 (21, r, 0)), .int v] (I, J, O) (fun u => u = (sr I r (filI (I r) v (lenI r)), J, O)) := by
  refine jMv_of (cc := cJ7_fill_53178) (maxL := 4) (ret := none) (lv0 := [(0, .ref (G.2.2.1 (21, r, 0))), (1, .int v)]) (by decide) rfl (Nat.le_of_ble_eq_true rfl) rfl ?_
  intro pg_ ev_ s_ mi_ below meth cd_ A ls hC hB hl
  obtain ⟨hx, hb, hr, hml, hown, hts, hlocks, hK, hA⟩ := id hC
  have hlt := lenI_lt r
  refine lv_iconst (v := nI 0) hx hb dJ7_fill_53178_0 (by decide) ?_
  refine lv_istore_n (lv' := [(2, .int (nI 0)), (0, .ref (G.2.2.1 (21, r, 0))), (1, .int v)]) hx hb dJ7_fill_53178_1 rfl hl (by decide) rfl (fun ls hl => ?_)
  refine lv_aload_n hx hb dJ7_fill_53178_2 rfl (lv_at hl 1 rfl) ?_
  refine j_alenI r hC hB dJ7_fill_53178_3 hrr ?_
  refine lv_istore_n (lv' := [(3, .int (nI (lenI r))), (2, .int (nI 0)), (0, .ref (G.2.2.1 (21, r, 0))), (1, .int v)]) hx hb dJ7_fill_53178_4 rfl hl (by decide) rfl (fun ls hl => ?_)
  have lp_5 : ∀ (fu : Nat) (f : Nat → Int32) (k : Nat), lenI r - k < fu → (k ≤ lenI r) → (f = filI (I r) v k) → ∀ H locs ls, jB G A s_.heap (sr I r (f), J, O) H locs → lv_has ls 4 [(3, .int (nI (lenI r))), (2, .int (nI k)), (0, .ref (G.2.2.1 (21, r, 0))), (1, .int v)] → W pg_ l_ ev_ ({ frames := 0, cells := 0, slots := 0, locals := 0 }) s_ mi_ ([.ref (G.2.2.1 (21, r, 0)), .int v]).toArray below meth cd_ H locs 0 0 (jQv G A below [.ref (G.2.2.1 (21, r, 0)), .int v] s_ (fun u => u = (sr I r (filI (I r) v (lenI r)), J, O))) (F0 mi_ 5 ls []) := by
    intro fu
    induction fu with
    | zero => intro f k hf; exact absurd hf (Nat.not_lt_zero _)
    | succ fu ih_5 =>
      intro f k hf_5 hk hf H locs ls hB hl
      refine lv_iload_n hx hb dJ7_fill_53178_5 rfl (lv_at hl 1 rfl) ?_
      refine lv_iload_n hx hb dJ7_fill_53178_6 rfl (lv_at hl 0 rfl) ?_
      refine jn_icmp_ge (tgt := 20) hx hb dJ7_fill_53178_7 (by decide) (by omega) (by omega) (fun c_7 => ?_) (fun c_7 => ?_)
      · exact j_vret hC hB dJ7_fill_53178_20 (by rw [hf, show k = lenI r by omega])
      · refine lv_aload_n hx hb dJ7_fill_53178_10 rfl (lv_at hl 2 rfl) ?_
        refine lv_iload_n hx hb dJ7_fill_53178_11 rfl (lv_at hl 1 rfl) ?_
        refine lv_iload_n hx hb dJ7_fill_53178_12 rfl (lv_at hl 3 rfl) ?_
        refine j_ist r k hC hB dJ7_fill_53178_13 hrr rfl (by omega) (fun H locs hB => ?_)
        have hB : jB G A s_.heap (sr I r (upd (f) k v), J, O) H locs := by rw [show sr I r (upd (f) k v) = u2 (sr I r (f)) r k v from (u2_sr _ _ _ _ _).symm]; exact hB
        refine lv_iinc (v := nI (k + 1)) (lv' := [(2, .int (nI (k + 1))), (3, .int (nI (lenI r))), (0, .ref (G.2.2.1 (21, r, 0))), (1, .int v)]) hx hb dJ7_fill_53178_14 hl (k := 1) rfl (jn_inc _ 1) (by decide) rfl (fun ls hl => ?_)
        refine lv_goto (tgt := 5) hx hb dJ7_fill_53178_17 (by decide) ?_
        exact ih_5 (upd (f) k v) (k + 1) (by omega) (by omega) (by rw [hf]; exact filI_step _ _ _) _ _ _ (jB_cast2 hB (by first | rfl | exact (sr_id _ _).symm | exact (srJ_id _ _).symm | (funext a; simp +decide only [sr, srJ]; (repeat' split) <;> first | rfl | (exfalso; omega) | (subst_vars; rfl))) (by first | rfl | exact (sr_id _ _).symm | exact (srJ_id _ _).symm | (funext a; simp +decide only [sr, srJ]; (repeat' split) <;> first | rfl | (exfalso; omega) | (subst_vars; rfl)))) (lv_sub hl [1, 0, 2, 3] rfl)
  exact lp_5 _ (I r) 0 (Nat.lt_succ_self _) (Nat.zero_le _) ((filI_0 _ _).symm) _ _ _ (jB_cast2 hB (by first | rfl | exact (sr_id _ _).symm | exact (srJ_id _ _).symm | (funext a; simp +decide only [sr, srJ]; (repeat' split) <;> first | rfl | (exfalso; omega) | (subst_vars; rfl))) (by first | rfl | exact (sr_id _ _).symm | exact (srJ_id _ _).symm | (funext a; simp +decide only [sr, srJ]; (repeat' split) <;> first | rfl | (exfalso; omega) | (subst_vars; rfl)))) (lv_sub hl [0, 1, 2, 3] rfl)

set_option maxHeartbeats 4000000 in
set_option maxRecDepth 100000 in
theorem c_J6_bitCount_0f7a4 (l_ : Launch) (G : jG) (I : Nat → Nat → Int32) (J : Nat → Nat → Int64) (O : Nat → Nat → Nat) (x : Int32) : jMi l_ G yJ6_bitCount_0f7a4 wsJ6_bitCount_0f7a4 ({ frames := 0, cells := 0, slots := 0, locals := 0 }) [.int x] (I, J, O) (fun r u => r = bcJ x ∧ u = (I, J, O)) := by
  refine jMi_of (cc := cJ6_bitCount_0f7a4) (maxL := 1) (ret := (some .int)) (lv0 := [(0, .int x)]) (by decide) rfl (Nat.le_of_ble_eq_true rfl) rfl ?_
  intro pg_ ev_ s_ mi_ below meth cd_ A ls hC hB hl
  obtain ⟨hx, hb, hr, hml, hown, hts, hlocks, hK, hA⟩ := id hC
  refine lv_iload_n hx hb dJ6_bitCount_0f7a4_0 rfl (lv_at hl 0 rfl) ?_
  refine lv_iload_n hx hb dJ6_bitCount_0f7a4_1 rfl (lv_at hl 0 rfl) ?_
  refine lv_iconst (v := nI 1) hx hb dJ6_bitCount_0f7a4_2 (by decide) ?_
  refine lv_iushr (v := (x.toUInt32 >>> ((nI 1).toUInt32 &&& Int32.toUInt32 31)).toInt32) hx hb dJ6_bitCount_0f7a4_3 rfl ?_
  refine lv_ldcw (v := 1431655765) hx hb hown (hts (.constant RJ6 265 (1431655765)) (by decide +kernel)) dJ6_bitCount_0f7a4_4 ?_
  refine lv_iand hx hb dJ6_bitCount_0f7a4_7 ?_
  refine lv_isub hx hb dJ6_bitCount_0f7a4_8 ?_
  refine j_eqi (y := bc1 x) (rfl) ?_
  refine lv_istore_n (lv' := [(0, .int (bc1 x))]) hx hb dJ6_bitCount_0f7a4_9 rfl hl (by decide) rfl (fun ls hl => ?_)
  refine lv_iload_n hx hb dJ6_bitCount_0f7a4_10 rfl (lv_at hl 0 rfl) ?_
  refine lv_ldcw (v := 858993459) hx hb hown (hts (.constant RJ6 266 (858993459)) (by decide +kernel)) dJ6_bitCount_0f7a4_11 ?_
  refine lv_iand hx hb dJ6_bitCount_0f7a4_14 ?_
  refine lv_iload_n hx hb dJ6_bitCount_0f7a4_15 rfl (lv_at hl 0 rfl) ?_
  refine lv_iconst (v := nI 2) hx hb dJ6_bitCount_0f7a4_16 (by decide) ?_
  refine lv_iushr (v := ((bc1 x).toUInt32 >>> ((nI 2).toUInt32 &&& Int32.toUInt32 31)).toInt32) hx hb dJ6_bitCount_0f7a4_17 rfl ?_
  refine lv_ldcw (v := 858993459) hx hb hown (hts (.constant RJ6 266 (858993459)) (by decide +kernel)) dJ6_bitCount_0f7a4_18 ?_
  refine lv_iand hx hb dJ6_bitCount_0f7a4_21 ?_
  refine lv_iadd hx hb dJ6_bitCount_0f7a4_22 ?_
  refine j_eqi (y := bc2 (bc1 x)) (rfl) ?_
  refine lv_istore_n (lv' := [(0, .int (bc2 (bc1 x)))]) hx hb dJ6_bitCount_0f7a4_23 rfl hl (by decide) rfl (fun ls hl => ?_)
  refine lv_iload_n hx hb dJ6_bitCount_0f7a4_24 rfl (lv_at hl 0 rfl) ?_
  refine lv_iload_n hx hb dJ6_bitCount_0f7a4_25 rfl (lv_at hl 0 rfl) ?_
  refine lv_iconst (v := nI 4) hx hb dJ6_bitCount_0f7a4_26 (by decide) ?_
  refine lv_iushr (v := ((bc2 (bc1 x)).toUInt32 >>> ((nI 4).toUInt32 &&& Int32.toUInt32 31)).toInt32) hx hb dJ6_bitCount_0f7a4_27 rfl ?_
  refine lv_iadd hx hb dJ6_bitCount_0f7a4_28 ?_
  refine lv_ldcw (v := 252645135) hx hb hown (hts (.constant RJ6 267 (252645135)) (by decide +kernel)) dJ6_bitCount_0f7a4_29 ?_
  refine lv_iand hx hb dJ6_bitCount_0f7a4_32 ?_
  refine j_eqi (y := bc3 (bc2 (bc1 x))) (rfl) ?_
  refine lv_istore_n (lv' := [(0, .int (bc3 (bc2 (bc1 x))))]) hx hb dJ6_bitCount_0f7a4_33 rfl hl (by decide) rfl (fun ls hl => ?_)
  refine lv_iload_n hx hb dJ6_bitCount_0f7a4_34 rfl (lv_at hl 0 rfl) ?_
  refine lv_iload_n hx hb dJ6_bitCount_0f7a4_35 rfl (lv_at hl 0 rfl) ?_
  refine lv_bipush (v := nI 8) hx hb dJ6_bitCount_0f7a4_36 (by decide) ?_
  refine lv_iushr (v := ((bc3 (bc2 (bc1 x))).toUInt32 >>> ((nI 8).toUInt32 &&& Int32.toUInt32 31)).toInt32) hx hb dJ6_bitCount_0f7a4_38 rfl ?_
  refine lv_iadd hx hb dJ6_bitCount_0f7a4_39 ?_
  refine j_eqi (y := bc4 (bc3 (bc2 (bc1 x)))) (rfl) ?_
  refine lv_istore_n (lv' := [(0, .int (bc4 (bc3 (bc2 (bc1 x)))))]) hx hb dJ6_bitCount_0f7a4_40 rfl hl (by decide) rfl (fun ls hl => ?_)
  refine lv_iload_n hx hb dJ6_bitCount_0f7a4_41 rfl (lv_at hl 0 rfl) ?_
  refine lv_iload_n hx hb dJ6_bitCount_0f7a4_42 rfl (lv_at hl 0 rfl) ?_
  refine lv_bipush (v := nI 16) hx hb dJ6_bitCount_0f7a4_43 (by decide) ?_
  refine lv_iushr (v := ((bc4 (bc3 (bc2 (bc1 x)))).toUInt32 >>> ((nI 16).toUInt32 &&& Int32.toUInt32 31)).toInt32) hx hb dJ6_bitCount_0f7a4_45 rfl ?_
  refine lv_iadd hx hb dJ6_bitCount_0f7a4_46 ?_
  refine j_eqi (y := bc5 (bc4 (bc3 (bc2 (bc1 x))))) (rfl) ?_
  refine lv_istore_n (lv' := [(0, .int (bc5 (bc4 (bc3 (bc2 (bc1 x))))))]) hx hb dJ6_bitCount_0f7a4_47 rfl hl (by decide) rfl (fun ls hl => ?_)
  refine lv_iload_n hx hb dJ6_bitCount_0f7a4_48 rfl (lv_at hl 0 rfl) ?_
  refine lv_bipush (v := nI 63) hx hb dJ6_bitCount_0f7a4_49 (by decide) ?_
  refine lv_iand hx hb dJ6_bitCount_0f7a4_51 ?_
  exact j_iret hC hB dJ6_bitCount_0f7a4_52 (⟨rfl, rfl⟩)

set_option maxHeartbeats 4000000 in
set_option maxRecDepth 100000 in
theorem c_X5_faultOf (l_ : Launch) (G : jG) (I : Nat → Nat → Int32) (J : Nat → Nat → Int64) (O : Nat → Nat → Nat) (s : Nat) (lane i n : Int32) (hs : s < 4) {hold : Bool} (hH : I 33 (3 * s) = b2 hold) : jMi l_ G yX5_faultOf wsX5_faultOf ({ frames := 0, cells := 0, slots := 0, locals := 0 }) [.ref (G.2.2.1 (15, s, 0)), .int lane, .int i, .int n] (I, J, O) (fun r u => r = flC (I 33) s hold lane i n ∧ u = (I, J, O)) := by
  refine jMi_of (cc := cX5_faultOf) (maxL := 4) (ret := (some .int)) (lv0 := [(0, .ref (G.2.2.1 (15, s, 0))), (1, .int lane), (2, .int i), (3, .int n)]) (by decide) rfl (Nat.le_of_ble_eq_true rfl) rfl ?_
  intro pg_ ev_ s_ mi_ below meth cd_ A ls hC hB hl
  obtain ⟨hx, hb, hr, hml, hown, hts, hlocks, hK, hA⟩ := id hC
  have lk_22 := hts (.fieldLink RX5 22 "RiddlePrison$Sheet" "holds" "Z") (by decide +kernel)
  have lk_15 := hts (.fieldLink RX5 15 "RiddlePrison$Sheet" "lane" "I") (by decide +kernel)
  have lk_19 := hts (.fieldLink RX5 19 "RiddlePrison$Sheet" "size" "I") (by decide +kernel)
  have in_X5 := (fun w h => List.mem_cons_of_mem _ (List.mem_append_right _ h) : ∀ w ∈ wsX50, w ∈ wsX5_faultOf)
  refine lv_aload_n hx hb dX5_faultOf_0 rfl (lv_at hl 0 rfl) ?_
  refine j_get (15, s, 0) 1 (v := .int (I 33 (3 * s))) hC hB in_X5 lk_22 dX5_faultOf_1 (jk15 (by omega)) rfl rfl (by decide) rfl ?_
  refine j_eqi (x := I 33 (3 * s)) (y := b2 hold) (hH) ?_
  refine jb_if_ne (tgt := 10) hx hb dX5_faultOf_4 (by decide) (fun c_4 => ?_) (fun c_4 => ?_)
  · refine lv_aload_n hx hb dX5_faultOf_10 rfl (lv_at hl 0 rfl) ?_
    refine j_get (15, s, 0) 2 (v := .int (I 33 (3 * s + 1))) hC hB in_X5 lk_15 dX5_faultOf_11 (jk15 (by omega)) rfl rfl (by decide) rfl ?_
    refine lv_iload_n hx hb dX5_faultOf_14 rfl (lv_at hl 1 rfl) ?_
    refine lv_icmp_eq (tgt := 21) hx hb dX5_faultOf_15 (by decide) (fun c_15 => ?_) (fun c_15 => ?_)
    · refine lv_iload_n hx hb dX5_faultOf_21 rfl (lv_at hl 2 rfl) ?_
      refine lv_if_lt (tgt := 39) hx hb dX5_faultOf_22 (by decide) (fun c_22 => ?_) (fun c_22 => ?_)
      · refine lv_bipush (v := (-13 : Int32)) hx hb dX5_faultOf_39 (by decide) ?_
        refine lv_goto (tgt := 45) hx hb dX5_faultOf_41 (by decide) ?_
        exact j_iret hC hB dX5_faultOf_45 (⟨by simp [flC, c_4, eq_true c_15, c_22], rfl⟩)
      · refine lv_iload_n hx hb dX5_faultOf_25 rfl (lv_at hl 3 rfl) ?_
        refine lv_if_lt (tgt := 39) hx hb dX5_faultOf_26 (by decide) (fun c_26 => ?_) (fun c_26 => ?_)
        · refine lv_bipush (v := (-13 : Int32)) hx hb dX5_faultOf_39 (by decide) ?_
          refine lv_goto (tgt := 45) hx hb dX5_faultOf_41 (by decide) ?_
          exact j_iret hC hB dX5_faultOf_45 (⟨by simp [flC, c_4, eq_true c_15, c_22, c_26], rfl⟩)
        · refine lv_iload_n hx hb dX5_faultOf_29 rfl (lv_at hl 2 rfl) ?_
          refine lv_aload_n hx hb dX5_faultOf_30 rfl (lv_at hl 0 rfl) ?_
          refine j_get (15, s, 0) 3 (v := .int (I 33 (3 * s + 2))) hC hB in_X5 lk_19 dX5_faultOf_31 (jk15 (by omega)) rfl rfl (by decide) rfl ?_
          refine lv_iload_n hx hb dX5_faultOf_34 rfl (lv_at hl 3 rfl) ?_
          refine lv_isub hx hb dX5_faultOf_35 ?_
          refine lv_icmp_le (tgt := 44) hx hb dX5_faultOf_36 (by decide) (fun c_36 => ?_) (fun c_36 => ?_)
          · refine lv_iconst (v := nI 0) hx hb dX5_faultOf_44 (by decide) ?_
            exact j_iret hC hB dX5_faultOf_45 (⟨by simp [flC, c_4, eq_true c_15, c_22, c_26, c_36], rfl⟩)
          · refine lv_bipush (v := (-13 : Int32)) hx hb dX5_faultOf_39 (by decide) ?_
            refine lv_goto (tgt := 45) hx hb dX5_faultOf_41 (by decide) ?_
            exact j_iret hC hB dX5_faultOf_45 (⟨by simp [flC, c_4, eq_true c_15, c_22, c_26, c_36], rfl⟩)
    · refine lv_bipush (v := (-12 : Int32)) hx hb dX5_faultOf_18 (by decide) ?_
      exact j_iret hC hB dX5_faultOf_20 (⟨by simp [flC, c_4, c_15], rfl⟩)
  · refine lv_bipush (v := (-11 : Int32)) hx hb dX5_faultOf_7 (by decide) ?_
    exact j_iret hC hB dX5_faultOf_9 (⟨by simp [flC, c_4], rfl⟩)

set_option maxHeartbeats 4000000 in
set_option maxRecDepth 100000 in
theorem c_X5_put (l_ : Launch) (G : jG) (I : Nat → Nat → Int32) (J : Nat → Nat → Int64) (O : Nat → Nat → Nat) (s n : Nat) (v : Int64) (hs : s < 4) (hn : n < 24) : jMv l_ G yX5_put wsX5_put ({ frames := 0, cells := 0, slots := 0, locals := 0 }) [.ref (G.2.2.1 (15, s, 0)), .int (nI n), .long v] (I, J, O) (fun u => u = (I, srJ J (2 + s) (vp_updL (J (2 + s)) n (cutC (I 33 (3 * s + 1)) v)), O)) := by
  refine jMv_of (cc := cX5_put) (maxL := 4) (ret := none) (lv0 := [(0, .ref (G.2.2.1 (15, s, 0))), (1, .int (nI n)), (2, .long v)]) (by decide) rfl (Nat.le_of_ble_eq_true rfl) rfl ?_
  intro pg_ ev_ s_ mi_ below meth cd_ A ls hC hB hl
  obtain ⟨hx, hb, hr, hml, hown, hts, hlocks, hK, hA⟩ := id hC
  have lk_15 := hts (.fieldLink RX5 15 "RiddlePrison$Sheet" "lane" "I") (by decide +kernel)
  have lk_9 := hts (.fieldLink RX5 9 "RiddlePrison$Sheet" "items" "[J") (by decide +kernel)
  have in_X5 := (fun w h => List.mem_cons_of_mem _ (List.mem_append_right _ h) : ∀ w ∈ wsX50, w ∈ wsX5_put)
  refine lv_aload_n hx hb dX5_put_0 rfl (lv_at hl 0 rfl) ?_
  refine j_get (15, s, 0) 2 (v := .int (I 33 (3 * s + 1))) hC hB in_X5 lk_15 dX5_put_1 (jk15 (by omega)) rfl rfl (by decide) rfl ?_
  refine (Decidable.em ((I 33) (3 * s + 1) = nI 0)).elim (fun c_4_0 => ?_) (fun c_4_0 => ?_)
  · refine j_eqi c_4_0 ?_
    refine lv_tableIn (tgt := 32) hx hb dX5_put_4 (by decide) (by decide) rfl (by decide) ?_
    refine lv_aload_n hx hb dX5_put_32 rfl (lv_at hl 0 rfl) ?_
    refine j_get (15, s, 0) 0 (v := .ref (G.2.2.1 (22, 2 + s, 0))) hC hB in_X5 lk_9 dX5_put_33 (jk15 (by omega)) rfl rfl (by decide) rfl ?_
    refine lv_iload_n hx hb dX5_put_36 rfl (lv_at hl 1 rfl) ?_
    refine lv_lload_n hx hb dX5_put_37 rfl (lv_at hl 2 rfl) ?_
    refine lv_l2i (v := v.toInt32) hx hb dX5_put_38 rfl ?_
    refine lv_i2b (v := v.toInt32.toInt8.toInt32) hx hb dX5_put_39 rfl ?_
    refine lv_i2l (v := v.toInt32.toInt8.toInt32.toInt64) hx hb dX5_put_40 rfl ?_
    refine j_lst (2 + s) n hC hB dX5_put_41 (by omega) rfl (by rw [lenJ_s hs]; omega) (fun H locs hB => ?_)
    have hB : jB G A s_.heap (I, srJ J (2 + s) (vp_updL (J (2 + s)) n v.toInt32.toInt8.toInt32.toInt64), O) H locs := by rw [show srJ J (2 + s) (vp_updL (J (2 + s)) n v.toInt32.toInt8.toInt32.toInt64) = v2 J (2 + s) n v.toInt32.toInt8.toInt32.toInt64 from (v2_eq _ _ _ _).symm]; exact hB
    refine lv_goto (tgt := 77) hx hb dX5_put_42 (by decide) ?_
    exact j_vret hC hB dX5_put_77 (by simp [cutC, eq_true c_4_0])
  refine (Decidable.em ((I 33) (3 * s + 1) = nI 1)).elim (fun c_4_1 => ?_) (fun c_4_1 => ?_)
  · refine j_eqi c_4_1 ?_
    refine lv_tableIn (tgt := 45) hx hb dX5_put_4 (by decide) (by decide) rfl (by decide) ?_
    refine lv_aload_n hx hb dX5_put_45 rfl (lv_at hl 0 rfl) ?_
    refine j_get (15, s, 0) 0 (v := .ref (G.2.2.1 (22, 2 + s, 0))) hC hB in_X5 lk_9 dX5_put_46 (jk15 (by omega)) rfl rfl (by decide) rfl ?_
    refine lv_iload_n hx hb dX5_put_49 rfl (lv_at hl 1 rfl) ?_
    refine lv_lload_n hx hb dX5_put_50 rfl (lv_at hl 2 rfl) ?_
    refine lv_l2i (v := v.toInt32) hx hb dX5_put_51 rfl ?_
    refine lv_i2s (v := v.toInt32.toInt16.toInt32) hx hb dX5_put_52 rfl ?_
    refine lv_i2l (v := v.toInt32.toInt16.toInt32.toInt64) hx hb dX5_put_53 rfl ?_
    refine j_lst (2 + s) n hC hB dX5_put_54 (by omega) rfl (by rw [lenJ_s hs]; omega) (fun H locs hB => ?_)
    have hB : jB G A s_.heap (I, srJ J (2 + s) (vp_updL (J (2 + s)) n v.toInt32.toInt16.toInt32.toInt64), O) H locs := by rw [show srJ J (2 + s) (vp_updL (J (2 + s)) n v.toInt32.toInt16.toInt32.toInt64) = v2 J (2 + s) n v.toInt32.toInt16.toInt32.toInt64 from (v2_eq _ _ _ _).symm]; exact hB
    refine lv_goto (tgt := 77) hx hb dX5_put_55 (by decide) ?_
    exact j_vret hC hB dX5_put_77 (by simp [cutC, c_4_0, eq_true c_4_1])
  refine (Decidable.em ((I 33) (3 * s + 1) = nI 2)).elim (fun c_4_2 => ?_) (fun c_4_2 => ?_)
  · refine j_eqi c_4_2 ?_
    refine lv_tableIn (tgt := 58) hx hb dX5_put_4 (by decide) (by decide) rfl (by decide) ?_
    refine lv_aload_n hx hb dX5_put_58 rfl (lv_at hl 0 rfl) ?_
    refine j_get (15, s, 0) 0 (v := .ref (G.2.2.1 (22, 2 + s, 0))) hC hB in_X5 lk_9 dX5_put_59 (jk15 (by omega)) rfl rfl (by decide) rfl ?_
    refine lv_iload_n hx hb dX5_put_62 rfl (lv_at hl 1 rfl) ?_
    refine lv_lload_n hx hb dX5_put_63 rfl (lv_at hl 2 rfl) ?_
    refine lv_l2i (v := v.toInt32) hx hb dX5_put_64 rfl ?_
    refine lv_i2l (v := v.toInt32.toInt64) hx hb dX5_put_65 rfl ?_
    refine j_lst (2 + s) n hC hB dX5_put_66 (by omega) rfl (by rw [lenJ_s hs]; omega) (fun H locs hB => ?_)
    have hB : jB G A s_.heap (I, srJ J (2 + s) (vp_updL (J (2 + s)) n v.toInt32.toInt64), O) H locs := by rw [show srJ J (2 + s) (vp_updL (J (2 + s)) n v.toInt32.toInt64) = v2 J (2 + s) n v.toInt32.toInt64 from (v2_eq _ _ _ _).symm]; exact hB
    refine lv_goto (tgt := 77) hx hb dX5_put_67 (by decide) ?_
    exact j_vret hC hB dX5_put_77 (by simp [cutC, c_4_0, c_4_1, eq_true c_4_2])
  have h_4 := jtsw_0_2 c_4_0 c_4_1 c_4_2
  refine lv_tableOut (tgt := 70) hx hb dX5_put_4 h_4 (by decide) ?_
  refine lv_aload_n hx hb dX5_put_70 rfl (lv_at hl 0 rfl) ?_
  refine j_get (15, s, 0) 0 (v := .ref (G.2.2.1 (22, 2 + s, 0))) hC hB in_X5 lk_9 dX5_put_71 (jk15 (by omega)) rfl rfl (by decide) rfl ?_
  refine lv_iload_n hx hb dX5_put_74 rfl (lv_at hl 1 rfl) ?_
  refine lv_lload_n hx hb dX5_put_75 rfl (lv_at hl 2 rfl) ?_
  refine j_lst (2 + s) n hC hB dX5_put_76 (by omega) rfl (by rw [lenJ_s hs]; omega) (fun H locs hB => ?_)
  have hB : jB G A s_.heap (I, srJ J (2 + s) (vp_updL (J (2 + s)) n v), O) H locs := by rw [show srJ J (2 + s) (vp_updL (J (2 + s)) n v) = v2 J (2 + s) n v from (v2_eq _ _ _ _).symm]; exact hB
  exact j_vret hC hB dX5_put_77 (by simp [cutC, c_4_0, c_4_1, c_4_2])

set_option maxHeartbeats 4000000 in
set_option maxRecDepth 100000 in
theorem c_X5_begin (l_ : Launch) (G : jG) (I : Nat → Nat → Int32) (J : Nat → Nat → Int64) (O : Nat → Nat → Nat) (s : Nat) (lane n : Int32) (hs : s < 4) : jMv l_ G yX5_begin wsX5_begin ({ frames := 1, cells := 0, slots := 0, locals := 24 }) [.ref (G.2.2.1 (15, s, 0)), .int lane, .int n] (I, J, O) (fun u => u = (sr I 33 (upd (upd (upd (I 33) (3 * s + 1) lane) (3 * s + 2) n) (3 * s) (nI 1)), srJ J (2 + s) (filJ (J (2 + s)) 0 (lenJ (2 + s))), O)) := by
  refine jMv_of (cc := cX5_begin) (maxL := 3) (ret := none) (lv0 := [(0, .ref (G.2.2.1 (15, s, 0))), (1, .int lane), (2, .int n)]) (by decide) rfl (Nat.le_of_ble_eq_true rfl) rfl ?_
  intro pg_ ev_ s_ mi_ below meth cd_ A ls hC hB hl
  obtain ⟨hx, hb, hr, hml, hown, hts, hlocks, hK, hA⟩ := id hC
  have lk_15 := hts (.fieldLink RX5 15 "RiddlePrison$Sheet" "lane" "I") (by decide +kernel)
  have lk_19 := hts (.fieldLink RX5 19 "RiddlePrison$Sheet" "size" "I") (by decide +kernel)
  have lk_22 := hts (.fieldLink RX5 22 "RiddlePrison$Sheet" "holds" "Z") (by decide +kernel)
  have lk_9 := hts (.fieldLink RX5 9 "RiddlePrison$Sheet" "items" "[J") (by decide +kernel)
  have in_X5 := (fun w h => List.mem_cons_of_mem _ (List.mem_append_right _ h) : ∀ w ∈ wsX50, w ∈ wsX5_begin)
  refine lv_aload_n hx hb dX5_begin_0 rfl (lv_at hl 0 rfl) ?_
  refine lv_iload_n hx hb dX5_begin_1 rfl (lv_at hl 1 rfl) ?_
  refine j_put (15, s, 0) 2 (u2 I 33 (3 * s + 1) lane, J, O) (ty := .int) hC hB in_X5 tyX5_ok nmX5 lk_15 dX5_begin_2 (jk15 (by omega)) rfl rfl (by decide) rfl (by decide +kernel) rfl rfl (Nat.le_of_ble_eq_true rfl) (fun z hz hne => jw_fr z hz (by rw [jof_s1]; exact hne)) (by simp [jw, u2]) (fun H locs hB => ?_)
  have hB : jB G A s_.heap (sr I 33 (upd (I 33) (3 * s + 1) lane), J, O) H locs := by rw [show sr I 33 (upd (I 33) (3 * s + 1) lane) = u2 I 33 (3 * s + 1) lane from (u2_eq _ _ _ _).symm]; exact hB
  refine lv_aload_n hx hb dX5_begin_5 rfl (lv_at hl 0 rfl) ?_
  refine lv_iload_n hx hb dX5_begin_6 rfl (lv_at hl 2 rfl) ?_
  refine j_put (15, s, 0) 3 (u2 (sr I 33 (upd (I 33) (3 * s + 1) lane)) 33 (3 * s + 2) n, J, O) (ty := .int) hC hB in_X5 tyX5_ok nmX5 lk_19 dX5_begin_7 (jk15 (by omega)) rfl rfl (by decide) rfl (by decide +kernel) rfl rfl (Nat.le_of_ble_eq_true rfl) (fun z hz hne => jw_fr z hz (by rw [jof_s2]; exact hne)) (by simp [jw, u2]) (fun H locs hB => ?_)
  have hB : jB G A s_.heap (sr I 33 (upd (upd (I 33) (3 * s + 1) lane) (3 * s + 2) n), J, O) H locs := by rw [show sr I 33 (upd (upd (I 33) (3 * s + 1) lane) (3 * s + 2) n) = u2 (sr I 33 (upd (I 33) (3 * s + 1) lane)) 33 (3 * s + 2) n from (u2_sr _ _ _ _ _).symm]; exact hB
  refine lv_aload_n hx hb dX5_begin_10 rfl (lv_at hl 0 rfl) ?_
  refine lv_iconst (v := nI 1) hx hb dX5_begin_11 (by decide) ?_
  refine j_put (15, s, 0) 1 (u2 (sr I 33 (upd (upd (I 33) (3 * s + 1) lane) (3 * s + 2) n)) 33 (3 * s) (nI 1), J, O) (ty := .boolean) hC hB in_X5 tyX5_ok nmX5 lk_22 dX5_begin_12 (jk15 (by omega)) rfl rfl (by decide) rfl (by decide +kernel) rfl rfl (Nat.le_of_ble_eq_true rfl) (fun z hz hne => jw_fr z hz (by rw [jof_s0]; exact hne)) (by simp [jw, u2]) (fun H locs hB => ?_)
  have hB : jB G A s_.heap (sr I 33 (upd (upd (upd (I 33) (3 * s + 1) lane) (3 * s + 2) n) (3 * s) (nI 1)), J, O) H locs := by rw [show sr I 33 (upd (upd (upd (I 33) (3 * s + 1) lane) (3 * s + 2) n) (3 * s) (nI 1)) = u2 (sr I 33 (upd (upd (I 33) (3 * s + 1) lane) (3 * s + 2) n)) 33 (3 * s) (nI 1) from (u2_sr _ _ _ _ _).symm]; exact hB
  refine lv_aload_n hx hb dX5_begin_15 rfl (lv_at hl 0 rfl) ?_
  refine j_get (15, s, 0) 0 (v := .ref (G.2.2.1 (22, 2 + s, 0))) hC hB in_X5 lk_9 dX5_begin_16 (jk15 (by omega)) rfl rfl (by decide) rfl ?_
  refine lv_lconst (v := 0) hx hb dX5_begin_19 rfl ?_
  refine j_csv [.ref (G.2.2.1 (22, 2 + s, 0)), .long ((0 : Int64))] hC hB hl.1 (c_J7_fill_d0a16 l_ G (sr I 33 (upd (upd (upd (I 33) (3 * s + 1) lane) (3 * s + 2) n) (3 * s) (nI 1))) J O (2 + s) ((0 : Int64)) (by omega)) (va_cwS 2 hts gX5_begin_J7_fill_d0a16 rfl rfl rfl (by decide +kernel) ⟨by decide, by decide⟩) dX5_begin_20 rfl rfl (Nat.le_of_ble_eq_true rfl) (fun u_20 H locs hp_20 hB => ?_)
  obtain rfl := hp_20
  exact j_vret hC hB dX5_begin_23 (rfl)

set_option maxHeartbeats 4000000 in
set_option maxRecDepth 100000 in
theorem c_X7_sheet (l_ : Launch) (G : jG) (I : Nat → Nat → Int32) (J : Nat → Nat → Int64) (O : Nat → Nat → Nat) (sheet lane n : Int32) : jMi l_ G yX7_sheet wsX7_sheet ({ frames := 2, cells := 0, slots := 0, locals := 46 }) [.ref (G.2.2.1 (0, 0, 0)), .int sheet, .int lane, .int n] (I, J, O) (fun r u => r = shtA sheet lane n ∧ u = shtS I J O sheet lane n) := by
  refine jMi_of (cc := cX7_sheet) (maxL := 4) (ret := (some .int)) (lv0 := [(0, .ref (G.2.2.1 (0, 0, 0))), (1, .int sheet), (2, .int lane), (3, .int n)]) (by decide) rfl (Nat.le_of_ble_eq_true rfl) rfl ?_
  intro pg_ ev_ s_ mi_ below meth cd_ A ls hC hB hl
  obtain ⟨hx, hb, hr, hml, hown, hts, hlocks, hK, hA⟩ := id hC
  have lk_57 := hts (.fieldLink RX7 57 "RiddlePrison" "sheets" "[LRiddlePrison$Sheet;") (by decide +kernel)
  have in_X7 := (fun w h => List.mem_cons_of_mem _ (List.mem_append_left _ (List.mem_append_right _ h)) : ∀ w ∈ wsX70, w ∈ wsX7_sheet)
  refine lv_iload_n hx hb dX7_sheet_0 rfl (lv_at hl 1 rfl) ?_
  refine lv_iload_n hx hb dX7_sheet_1 rfl (lv_at hl 2 rfl) ?_
  refine j_csi [.int sheet, .int lane] hC hB hl.1 (c_X7_isSheetLane l_ G I J O sheet lane) (va_cwS 2 hts gX7_sheet_X7_isSheetLane rfl rfl rfl (by decide +kernel) ⟨by decide, by decide⟩) dX7_sheet_2 rfl rfl (Nat.le_of_ble_eq_true rfl) (fun r_2 u_2 H locs hp_2 hB => ?_)
  obtain ⟨rfl, rfl⟩ := hp_2
  refine jb_if_eq (tgt := 14) hx hb dX7_sheet_5 (by decide) (fun c_5 => ?_) (fun c_5 => ?_)
  · refine lv_iconst (v := (-1 : Int32)) hx hb dX7_sheet_14 (by decide) ?_
    exact j_iret hC hB dX7_sheet_15 (⟨by simp [shtA, c_5], by simp [shtS, c_5]⟩)
  · refine lv_iload_n hx hb dX7_sheet_8 rfl (lv_at hl 3 rfl) ?_
    refine lv_bipush (v := nI 24) hx hb dX7_sheet_9 (by decide) ?_
    refine lv_icmp_le (tgt := 16) hx hb dX7_sheet_11 (by decide) (fun c_11 => ?_) (fun c_11 => ?_)
    · have h45 := (Bool.and_eq_true _ _).mp c_5
      obtain ⟨ss, hss, rfl⟩ := isB_nat h45.1 (by omega)
      refine lv_iload_n hx hb dX7_sheet_16 rfl (lv_at hl 3 rfl) ?_
      refine lv_if_ge (tgt := 23) hx hb dX7_sheet_17 (by decide) (fun c_17 => ?_) (fun c_17 => ?_)
      · refine lv_aload_n hx hb dX7_sheet_23 rfl (lv_at hl 0 rfl) ?_
        refine j_get (0, 0, 0) 9 (v := .ref (G.2.2.1 (14, 0, 0))) hC hB in_X7 lk_57 dX7_sheet_24 jk0 rfl rfl (by decide) rfl ?_
        refine lv_iload_n hx hb dX7_sheet_27 rfl (lv_at hl 1 rfl) ?_
        refine j_ald (14, 0, 0) (15, ss, 0) 6 ss hC hB dX7_sheet_28 jk14 rfl rfl rfl (by omega) (by decide) rfl ?_
        refine lv_iload_n hx hb dX7_sheet_29 rfl (lv_at hl 2 rfl) ?_
        refine lv_iload_n hx hb dX7_sheet_30 rfl (lv_at hl 3 rfl) ?_
        refine j_cvv (15, ss, 0) [.int lane, .int n] hC hB hl.1 (c_X5_begin l_ G I J O ss lane n (by omega)) (cwV 2 hts gX7_sheet_X5_begin rfl rfl rfl (by decide +kernel) ⟨by decide, by decide⟩) dX7_sheet_31 (jk15 (by omega)) rfl rfl rfl rfl (Nat.le_of_ble_eq_true rfl) (fun u_31 H locs hp_31 hB => ?_)
        obtain rfl := hp_31
        have hB : jB G A s_.heap (sr I 33 (upd (upd (upd (I 33) (3 * ss + 1) lane) (3 * ss + 2) n) (3 * ss) (nI 1)), srJ J (2 + ss) (filJ (J (2 + ss)) 0 (lenJ (2 + ss))), O) H locs := hB
        refine lv_iload_n hx hb dX7_sheet_34 rfl (lv_at hl 3 rfl) ?_
        exact j_iret hC hB dX7_sheet_35 (⟨by simp [shtA, tN, nIc (show ss < 2147483648 by omega), h45.1, h45.2, lenJ_s hss, c_11, c_17], by simp [shtS, tN, nIc (show ss < 2147483648 by omega), h45.1, h45.2, lenJ_s hss, c_11, c_17]⟩)
      · refine lv_bipush (v := (-14 : Int32)) hx hb dX7_sheet_20 (by decide) ?_
        exact j_iret hC hB dX7_sheet_22 (⟨by simp [shtA, tN, nIc (show ss < 2147483648 by omega), h45.1, h45.2, lenJ_s hss, c_11, c_17], by simp [shtS, tN, nIc (show ss < 2147483648 by omega), h45.1, h45.2, lenJ_s hss, c_11, c_17]⟩)
    · refine lv_iconst (v := (-1 : Int32)) hx hb dX7_sheet_14 (by decide) ?_
      exact j_iret hC hB dX7_sheet_15 (⟨by simp [shtA, c_5, c_11], by simp [shtS, c_5, c_11]⟩)

set_option maxHeartbeats 4000000 in
set_option maxRecDepth 100000 in
theorem c_X7_drop (l_ : Launch) (G : jG) (I : Nat → Nat → Int32) (J : Nat → Nat → Int64) (O : Nat → Nat → Nat) (sheet : Int32) (hHo : ∀ s, s < 4 → ∃ b, I 33 (3 * s) = b2 b) : jMi l_ G yX7_drop wsX7_drop ({ frames := 1, cells := 0, slots := 0, locals := 21 }) [.ref (G.2.2.1 (0, 0, 0)), .int sheet] (I, J, O) (fun r u => r = drpA (I 33) sheet ∧ u = (drpI I sheet, J, O)) := by
  refine jMi_of (cc := cX7_drop) (maxL := 3) (ret := (some .int)) (lv0 := [(0, .ref (G.2.2.1 (0, 0, 0))), (1, .int sheet)]) (by decide) rfl (Nat.le_of_ble_eq_true rfl) rfl ?_
  intro pg_ ev_ s_ mi_ below meth cd_ A ls hC hB hl
  obtain ⟨hx, hb, hr, hml, hown, hts, hlocks, hK, hA⟩ := id hC
  have lk_57 := hts (.fieldLink RX7 57 "RiddlePrison" "sheets" "[LRiddlePrison$Sheet;") (by decide +kernel)
  have ln_296 := (by decide +kernel : Cond.fieldLinkNest RX7 296 "RiddlePrison$Sheet" "holds" "Z" "RiddlePrison" ∈ nsW)
  have ln_299 := (by decide +kernel : Cond.fieldLinkNest RX7 299 "RiddlePrison$Sheet" "size" "I" "RiddlePrison" ∈ nsW)
  have in_X7 := (fun w h => List.mem_cons_of_mem _ (List.mem_append_left _ (List.mem_append_right _ h)) : ∀ w ∈ wsX70, w ∈ wsX7_drop)
  have in_X5 := (fun w h => List.mem_cons_of_mem _ (List.mem_append_right _ h) : ∀ w ∈ wsX50, w ∈ wsX7_drop)
  refine lv_iload_n hx hb dX7_drop_0 rfl (lv_at hl 1 rfl) ?_
  refine lv_iconst (v := nI 4) hx hb dX7_drop_1 (by decide) ?_
  refine j_csi [.int sheet, .int (nI 4)] hC hB hl.1 (c_X7_isBelow l_ G I J O sheet 4 (by omega)) (va_cwS 2 hts gX7_drop_X7_isBelow rfl rfl rfl (by decide +kernel) ⟨by decide, by decide⟩) dX7_drop_2 rfl rfl (Nat.le_of_ble_eq_true rfl) (fun r_2 u_2 H locs hp_2 hB => ?_)
  obtain ⟨rfl, rfl⟩ := hp_2
  refine jb_if_ne (tgt := 10) hx hb dX7_drop_5 (by decide) (fun c_5 => ?_) (fun c_5 => ?_)
  · obtain ⟨ss, hss, rfl⟩ := isB_nat c_5 (by omega)
    obtain ⟨hold, ehold⟩ := hHo ss hss
    refine lv_aload_n hx hb dX7_drop_10 rfl (lv_at hl 0 rfl) ?_
    refine j_get (0, 0, 0) 9 (v := .ref (G.2.2.1 (14, 0, 0))) hC hB in_X7 lk_57 dX7_drop_11 jk0 rfl rfl (by decide) rfl ?_
    refine lv_iload_n hx hb dX7_drop_14 rfl (lv_at hl 1 rfl) ?_
    refine j_ald (14, 0, 0) (15, ss, 0) 6 ss hC hB dX7_drop_15 jk14 rfl rfl rfl (by omega) (by decide) rfl ?_
    refine lv_astore_n (lv' := [(2, .ref (G.2.2.1 (15, ss, 0))), (0, .ref (G.2.2.1 (0, 0, 0))), (1, .int (nI ss))]) hx hb dX7_drop_16 rfl hl (by decide) rfl (fun ls hl => ?_)
    refine lv_aload_n hx hb dX7_drop_17 rfl (lv_at hl 0 rfl) ?_
    refine j_getN (15, ss, 0) 1 (v := .int (I 33 (3 * ss))) hC hB in_X5 ln_296 dX7_drop_18 (jk15 (by omega)) rfl rfl (by decide) rfl ?_
    refine j_eqi (x := I 33 (3 * ss)) (y := b2 hold) (ehold) ?_
    refine jb_if_ne (tgt := 27) hx hb dX7_drop_21 (by decide) (fun c_21 => ?_) (fun c_21 => ?_)
    · refine lv_aload_n hx hb dX7_drop_27 rfl (lv_at hl 0 rfl) ?_
      refine lv_iconst (v := nI 0) hx hb dX7_drop_28 (by decide) ?_
      refine j_putN (15, ss, 0) 1 (u2 I 33 (3 * ss) (nI 0), J, O) (ty := .boolean) hC hB in_X5 tyX5_ok nmX5 ln_296 dX7_drop_29 (jk15 (by omega)) rfl rfl (by decide) rfl (by decide +kernel) rfl rfl (Nat.le_of_ble_eq_true rfl) (fun z hz hne => jw_fr z hz (by rw [jof_s0]; exact hne)) (by simp [jw, u2]) (fun H locs hB => ?_)
      have hB : jB G A s_.heap (sr I 33 (upd (I 33) (3 * ss) (nI 0)), J, O) H locs := by rw [show sr I 33 (upd (I 33) (3 * ss) (nI 0)) = u2 I 33 (3 * ss) (nI 0) from (u2_eq _ _ _ _).symm]; exact hB
      refine lv_aload_n hx hb dX7_drop_32 rfl (lv_at hl 0 rfl) ?_
      refine j_getN (15, ss, 0) 3 (v := .int ((sr I 33 (upd (I 33) (3 * ss) (nI 0))) 33 (3 * ss + 2))) hC hB in_X5 ln_299 dX7_drop_33 (jk15 (by omega)) rfl rfl (by decide) rfl ?_
      refine j_eqi (x := (sr I 33 (upd (I 33) (3 * ss) (nI 0))) 33 (3 * ss + 2)) (y := (I 33) (3 * ss + 2)) ((congrFun sr_self _).trans ((pk_un (show (3 * ss + 2 : Nat) ≠ 3 * ss by omega)))) ?_
      exact j_iret hC hB dX7_drop_36 (⟨by simp [drpA, tN, nIc (show ss < 2147483648 by omega), ehold, b2_t, b2_f, nIn, b2, c_5, c_21], by simp [drpI, tN, nIc (show ss < 2147483648 by omega), ehold, b2_t, b2_f, nIn, b2, c_5, c_21]⟩)
    · refine lv_bipush (v := (-11 : Int32)) hx hb dX7_drop_24 (by decide) ?_
      exact j_iret hC hB dX7_drop_26 (⟨by simp [drpA, tN, nIc (show ss < 2147483648 by omega), ehold, b2_t, b2_f, nIn, b2, c_5, c_21], by simp [drpI, tN, nIc (show ss < 2147483648 by omega), ehold, b2_t, b2_f, nIn, b2, c_5, c_21]⟩)
  · refine lv_iconst (v := (-1 : Int32)) hx hb dX7_drop_8 (by decide) ?_
    exact j_iret hC hB dX7_drop_9 (⟨by simp [drpA, c_5], by simp [drpI, c_5]⟩)
