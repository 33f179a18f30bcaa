set_option maxHeartbeats 4000000 in
set_option maxRecDepth 100000 in
theorem c_X8_layDoor_41 (l_ : Launch) (G : jG) (I : Nat → Nat → Int32) (J : Nat → Nat → Int64) (O : Nat → Nat → Nat) (a b sort hard : Int32) {d : Nat} (hd : d < 10) (hD : I 41 0 = nI d) : jMv l_ G yX8_layDoor wsX8_layDoor ({ frames := 0, cells := 0, slots := 0, locals := 0 }) [.ref (G.2.2.1 (21, 41, 0)), .int a, .int b, .int sort, .int hard] (I, J, O) (fun u => u = (sr I 41 (layDoorR (I 41) a b sort hard), J, O)) := by
  refine jMv_of (cc := cX8_layDoor) (maxL := 6) (ret := none) (lv0 := [(0, .ref (G.2.2.1 (21, 41, 0))), (1, .int a), (2, .int b), (3, .int sort), (4, .int hard)]) (by decide) rfl (Nat.le_of_ble_eq_true rfl) rfl ?_
  intro pg_ ev_ s_ mi_ below meth cd_ A ls hC hB hl
  obtain ⟨hx, hb, hr, hml, hown, hts, hlocks, hK, hA⟩ := id hC
  refine lv_aload_n hx hb dX8_layDoor_0 rfl (lv_at hl 0 rfl) ?_
  refine lv_iconst (v := nI 0) hx hb dX8_layDoor_1 (by decide) ?_
  refine j_ild 41 0 hC hB dX8_layDoor_2 (by decide) rfl (by simp only [lenI_41]; omega) ?_
  refine j_eqi (x := I 41 0) (y := nI d) (hD) ?_
  refine lv_istore (lv' := [(5, .int (nI d)), (0, .ref (G.2.2.1 (21, 41, 0))), (1, .int a), (2, .int b), (3, .int sort), (4, .int hard)]) hx hb dX8_layDoor_3 hl (by decide) rfl (fun ls hl => ?_)
  refine lv_aload_n hx hb dX8_layDoor_5 rfl (lv_at hl 1 rfl) ?_
  refine lv_bipush (v := nI 11) hx hb dX8_layDoor_6 (by decide) ?_
  refine lv_iload hx hb dX8_layDoor_8 (lv_at hl 0 rfl) ?_
  refine jn_iadd hx hb dX8_layDoor_10 ?_
  refine lv_iload_n hx hb dX8_layDoor_11 rfl (lv_at hl 2 rfl) ?_
  refine j_ist 41 (11 + d) hC hB dX8_layDoor_12 (by decide) rfl (by simp only [lenI_41]; omega) (fun H locs hB => ?_)
  have hB : jB G A s_.heap (sr I 41 (upd (I 41) (11 + d) a), J, O) H locs := by rw [show sr I 41 (upd (I 41) (11 + d) a) = u2 I 41 (11 + d) a from (u2_eq _ _ _ _).symm]; exact hB
  refine lv_aload_n hx hb dX8_layDoor_13 rfl (lv_at hl 1 rfl) ?_
  refine lv_bipush (v := nI 21) hx hb dX8_layDoor_14 (by decide) ?_
  refine lv_iload hx hb dX8_layDoor_16 (lv_at hl 0 rfl) ?_
  refine jn_iadd hx hb dX8_layDoor_18 ?_
  refine lv_iload_n hx hb dX8_layDoor_19 rfl (lv_at hl 3 rfl) ?_
  refine j_ist 41 (21 + d) hC hB dX8_layDoor_20 (by decide) rfl (by simp only [lenI_41]; omega) (fun H locs hB => ?_)
  have hB : jB G A s_.heap (sr I 41 (upd (upd (I 41) (11 + d) a) (21 + d) b), J, O) H locs := by rw [show sr I 41 (upd (upd (I 41) (11 + d) a) (21 + d) b) = u2 (sr I 41 (upd (I 41) (11 + d) a)) 41 (21 + d) b from (u2_sr _ _ _ _ _).symm]; exact hB
  refine lv_aload_n hx hb dX8_layDoor_21 rfl (lv_at hl 1 rfl) ?_
  refine lv_bipush (v := nI 31) hx hb dX8_layDoor_22 (by decide) ?_
  refine lv_iload hx hb dX8_layDoor_24 (lv_at hl 0 rfl) ?_
  refine jn_iadd hx hb dX8_layDoor_26 ?_
  refine lv_iload_n hx hb dX8_layDoor_27 rfl (lv_at hl 4 rfl) ?_
  refine j_ist 41 (31 + d) hC hB dX8_layDoor_28 (by decide) rfl (by simp only [lenI_41]; omega) (fun H locs hB => ?_)
  have hB : jB G A s_.heap (sr I 41 (upd (upd (upd (I 41) (11 + d) a) (21 + d) b) (31 + d) sort), J, O) H locs := by rw [show sr I 41 (upd (upd (upd (I 41) (11 + d) a) (21 + d) b) (31 + d) sort) = u2 (sr I 41 (upd (upd (I 41) (11 + d) a) (21 + d) b)) 41 (31 + d) sort from (u2_sr _ _ _ _ _).symm]; exact hB
  refine lv_aload_n hx hb dX8_layDoor_29 rfl (lv_at hl 1 rfl) ?_
  refine lv_bipush (v := nI 41) hx hb dX8_layDoor_30 (by decide) ?_
  refine lv_iload hx hb dX8_layDoor_32 (lv_at hl 0 rfl) ?_
  refine jn_iadd hx hb dX8_layDoor_34 ?_
  refine lv_iload hx hb dX8_layDoor_35 (lv_at hl 5 rfl) ?_
  refine j_ist 41 (41 + d) hC hB dX8_layDoor_37 (by decide) rfl (by simp only [lenI_41]; omega) (fun H locs hB => ?_)
  have hB : jB G A s_.heap (sr I 41 (upd (upd (upd (upd (I 41) (11 + d) a) (21 + d) b) (31 + d) sort) (41 + d) hard), J, O) H locs := by rw [show sr I 41 (upd (upd (upd (upd (I 41) (11 + d) a) (21 + d) b) (31 + d) sort) (41 + d) hard) = u2 (sr I 41 (upd (upd (upd (I 41) (11 + d) a) (21 + d) b) (31 + d) sort)) 41 (41 + d) hard from (u2_sr _ _ _ _ _).symm]; exact hB
  refine lv_aload_n hx hb dX8_layDoor_38 rfl (lv_at hl 1 rfl) ?_
  refine lv_iconst (v := nI 0) hx hb dX8_layDoor_39 (by decide) ?_
  refine lv_dup2_11 hx hb dX8_layDoor_40 rfl rfl ?_
  refine j_ild 41 0 hC hB dX8_layDoor_41 (by decide) rfl (by simp only [lenI_41]; omega) ?_
  refine j_eqi (x := (sr I 41 (upd (upd (upd (upd (I 41) (11 + d) a) (21 + d) b) (31 + d) sort) (41 + d) hard)) 41 0) (y := nI d) ((congrFun sr_self _).trans ((pk_un (show (0 : Nat) ≠ 41 + d by omega)).trans ((pk_un (show (0 : Nat) ≠ 31 + d by omega)).trans ((pk_un (show (0 : Nat) ≠ 21 + d by omega)).trans ((pk_un (show (0 : Nat) ≠ 11 + d by omega)).trans (hD)))))) ?_
  refine lv_iconst (v := nI 1) hx hb dX8_layDoor_42 (by decide) ?_
  refine jn_iadd hx hb dX8_layDoor_43 ?_
  refine j_ist 41 0 hC hB dX8_layDoor_44 (by decide) rfl (by simp only [lenI_41]; omega) (fun H locs hB => ?_)
  have hB : jB G A s_.heap (sr I 41 (upd (upd (upd (upd (upd (I 41) (11 + d) a) (21 + d) b) (31 + d) sort) (41 + d) hard) 0 (nI (d + 1))), J, O) H locs := by rw [show sr I 41 (upd (upd (upd (upd (upd (I 41) (11 + d) a) (21 + d) b) (31 + d) sort) (41 + d) hard) 0 (nI (d + 1))) = u2 (sr I 41 (upd (upd (upd (upd (I 41) (11 + d) a) (21 + d) b) (31 + d) sort) (41 + d) hard)) 41 0 (nI (d + 1)) from (u2_sr _ _ _ _ _).symm]; exact hB
  refine lv_aload_n hx hb dX8_layDoor_45 rfl (lv_at hl 1 rfl) ?_
  refine lv_iconst (v := nI 2) hx hb dX8_layDoor_46 (by decide) ?_
  refine lv_iconst (v := nI 0) hx hb dX8_layDoor_47 (by decide) ?_
  refine j_ist 41 2 hC hB dX8_layDoor_48 (by decide) rfl (by simp only [lenI_41]; omega) (fun H locs hB => ?_)
  have hB : jB G A s_.heap (sr I 41 (upd (upd (upd (upd (upd (upd (I 41) (11 + d) a) (21 + d) b) (31 + d) sort) (41 + d) hard) 0 (nI (d + 1))) 2 (nI 0)), J, O) H locs := by rw [show sr I 41 (upd (upd (upd (upd (upd (upd (I 41) (11 + d) a) (21 + d) b) (31 + d) sort) (41 + d) hard) 0 (nI (d + 1))) 2 (nI 0)) = u2 (sr I 41 (upd (upd (upd (upd (upd (I 41) (11 + d) a) (21 + d) b) (31 + d) sort) (41 + d) hard) 0 (nI (d + 1)))) 41 2 (nI 0) from (u2_sr _ _ _ _ _).symm]; exact hB
  exact j_vret hC hB dX8_layDoor_49 (by simp only [layDoorR, hD, nIc (show d < 2147483648 by omega)])

set_option maxHeartbeats 4000000 in
set_option maxRecDepth 100000 in
theorem c_X8_layMan_41 (l_ : Launch) (G : jG) (I : Nat → Nat → Int32) (J : Nat → Nat → Int64) (O : Nat → Nat → Nat) (kind wit sort cell : Int32) {m : Nat} (hm : m < 4) (hM : I 41 1 = nI m) : jMv l_ G yX8_layMan wsX8_layMan ({ frames := 0, cells := 0, slots := 0, locals := 0 }) [.ref (G.2.2.1 (21, 41, 0)), .int kind, .int wit, .int sort, .int cell] (I, J, O) (fun u => u = (sr I 41 (layManR (I 41) kind wit sort cell), J, O)) := by
  refine jMv_of (cc := cX8_layMan) (maxL := 6) (ret := none) (lv0 := [(0, .ref (G.2.2.1 (21, 41, 0))), (1, .int kind), (2, .int wit), (3, .int sort), (4, .int cell)]) (by decide) rfl (Nat.le_of_ble_eq_true rfl) rfl ?_
  intro pg_ ev_ s_ mi_ below meth cd_ A ls hC hB hl
  obtain ⟨hx, hb, hr, hml, hown, hts, hlocks, hK, hA⟩ := id hC
  refine lv_aload_n hx hb dX8_layMan_0 rfl (lv_at hl 0 rfl) ?_
  refine lv_iconst (v := nI 1) hx hb dX8_layMan_1 (by decide) ?_
  refine j_ild 41 1 hC hB dX8_layMan_2 (by decide) rfl (by simp only [lenI_41]; omega) ?_
  refine j_eqi (x := I 41 1) (y := nI m) (hM) ?_
  refine lv_istore (lv' := [(5, .int (nI m)), (0, .ref (G.2.2.1 (21, 41, 0))), (1, .int kind), (2, .int wit), (3, .int sort), (4, .int cell)]) hx hb dX8_layMan_3 hl (by decide) rfl (fun ls hl => ?_)
  refine lv_aload_n hx hb dX8_layMan_5 rfl (lv_at hl 1 rfl) ?_
  refine lv_iconst (v := nI 3) hx hb dX8_layMan_6 (by decide) ?_
  refine lv_iload hx hb dX8_layMan_7 (lv_at hl 0 rfl) ?_
  refine jn_iadd hx hb dX8_layMan_9 ?_
  refine lv_iload_n hx hb dX8_layMan_10 rfl (lv_at hl 2 rfl) ?_
  refine j_ist 41 (3 + m) hC hB dX8_layMan_11 (by decide) rfl (by simp only [lenI_41]; omega) (fun H locs hB => ?_)
  have hB : jB G A s_.heap (sr I 41 (upd (I 41) (3 + m) kind), J, O) H locs := by rw [show sr I 41 (upd (I 41) (3 + m) kind) = u2 I 41 (3 + m) kind from (u2_eq _ _ _ _).symm]; exact hB
  refine lv_aload_n hx hb dX8_layMan_12 rfl (lv_at hl 1 rfl) ?_
  refine lv_bipush (v := nI 63) hx hb dX8_layMan_13 (by decide) ?_
  refine lv_iload hx hb dX8_layMan_15 (lv_at hl 0 rfl) ?_
  refine jn_iadd hx hb dX8_layMan_17 ?_
  refine lv_iload_n hx hb dX8_layMan_18 rfl (lv_at hl 3 rfl) ?_
  refine j_ist 41 (63 + m) hC hB dX8_layMan_19 (by decide) rfl (by simp only [lenI_41]; omega) (fun H locs hB => ?_)
  have hB : jB G A s_.heap (sr I 41 (upd (upd (I 41) (3 + m) kind) (63 + m) wit), J, O) H locs := by rw [show sr I 41 (upd (upd (I 41) (3 + m) kind) (63 + m) wit) = u2 (sr I 41 (upd (I 41) (3 + m) kind)) 41 (63 + m) wit from (u2_sr _ _ _ _ _).symm]; exact hB
  refine lv_aload_n hx hb dX8_layMan_20 rfl (lv_at hl 1 rfl) ?_
  refine lv_bipush (v := nI 7) hx hb dX8_layMan_21 (by decide) ?_
  refine lv_iload hx hb dX8_layMan_23 (lv_at hl 0 rfl) ?_
  refine jn_iadd hx hb dX8_layMan_25 ?_
  refine lv_iload_n hx hb dX8_layMan_26 rfl (lv_at hl 4 rfl) ?_
  refine j_ist 41 (7 + m) hC hB dX8_layMan_27 (by decide) rfl (by simp only [lenI_41]; omega) (fun H locs hB => ?_)
  have hB : jB G A s_.heap (sr I 41 (upd (upd (upd (I 41) (3 + m) kind) (63 + m) wit) (7 + m) sort), J, O) H locs := by rw [show sr I 41 (upd (upd (upd (I 41) (3 + m) kind) (63 + m) wit) (7 + m) sort) = u2 (sr I 41 (upd (upd (I 41) (3 + m) kind) (63 + m) wit)) 41 (7 + m) sort from (u2_sr _ _ _ _ _).symm]; exact hB
  refine lv_aload_n hx hb dX8_layMan_28 rfl (lv_at hl 1 rfl) ?_
  refine lv_bipush (v := nI 51) hx hb dX8_layMan_29 (by decide) ?_
  refine lv_iload hx hb dX8_layMan_31 (lv_at hl 0 rfl) ?_
  refine jn_iadd hx hb dX8_layMan_33 ?_
  refine lv_iload hx hb dX8_layMan_34 (lv_at hl 5 rfl) ?_
  refine j_ist 41 (51 + m) hC hB dX8_layMan_36 (by decide) rfl (by simp only [lenI_41]; omega) (fun H locs hB => ?_)
  have hB : jB G A s_.heap (sr I 41 (upd (upd (upd (upd (I 41) (3 + m) kind) (63 + m) wit) (7 + m) sort) (51 + m) cell), J, O) H locs := by rw [show sr I 41 (upd (upd (upd (upd (I 41) (3 + m) kind) (63 + m) wit) (7 + m) sort) (51 + m) cell) = u2 (sr I 41 (upd (upd (upd (I 41) (3 + m) kind) (63 + m) wit) (7 + m) sort)) 41 (51 + m) cell from (u2_sr _ _ _ _ _).symm]; exact hB
  refine lv_aload_n hx hb dX8_layMan_37 rfl (lv_at hl 1 rfl) ?_
  refine lv_bipush (v := nI 55) hx hb dX8_layMan_38 (by decide) ?_
  refine lv_iload hx hb dX8_layMan_40 (lv_at hl 0 rfl) ?_
  refine jn_iadd hx hb dX8_layMan_42 ?_
  refine lv_iconst (v := nI 0) hx hb dX8_layMan_43 (by decide) ?_
  refine j_ist 41 (55 + m) hC hB dX8_layMan_44 (by decide) rfl (by simp only [lenI_41]; omega) (fun H locs hB => ?_)
  have hB : jB G A s_.heap (sr I 41 (upd (upd (upd (upd (upd (I 41) (3 + m) kind) (63 + m) wit) (7 + m) sort) (51 + m) cell) (55 + m) (nI 0)), J, O) H locs := by rw [show sr I 41 (upd (upd (upd (upd (upd (I 41) (3 + m) kind) (63 + m) wit) (7 + m) sort) (51 + m) cell) (55 + m) (nI 0)) = u2 (sr I 41 (upd (upd (upd (upd (I 41) (3 + m) kind) (63 + m) wit) (7 + m) sort) (51 + m) cell)) 41 (55 + m) (nI 0) from (u2_sr _ _ _ _ _).symm]; exact hB
  refine lv_aload_n hx hb dX8_layMan_45 rfl (lv_at hl 1 rfl) ?_
  refine lv_bipush (v := nI 59) hx hb dX8_layMan_46 (by decide) ?_
  refine lv_iload hx hb dX8_layMan_48 (lv_at hl 0 rfl) ?_
  refine jn_iadd hx hb dX8_layMan_50 ?_
  refine lv_iconst (v := nI 0) hx hb dX8_layMan_51 (by decide) ?_
  refine j_ist 41 (59 + m) hC hB dX8_layMan_52 (by decide) rfl (by simp only [lenI_41]; omega) (fun H locs hB => ?_)
  have hB : jB G A s_.heap (sr I 41 (upd (upd (upd (upd (upd (upd (I 41) (3 + m) kind) (63 + m) wit) (7 + m) sort) (51 + m) cell) (55 + m) (nI 0)) (59 + m) (nI 0)), J, O) H locs := by rw [show sr I 41 (upd (upd (upd (upd (upd (upd (I 41) (3 + m) kind) (63 + m) wit) (7 + m) sort) (51 + m) cell) (55 + m) (nI 0)) (59 + m) (nI 0)) = u2 (sr I 41 (upd (upd (upd (upd (upd (I 41) (3 + m) kind) (63 + m) wit) (7 + m) sort) (51 + m) cell) (55 + m) (nI 0))) 41 (59 + m) (nI 0) from (u2_sr _ _ _ _ _).symm]; exact hB
  refine lv_aload_n hx hb dX8_layMan_53 rfl (lv_at hl 1 rfl) ?_
  refine lv_iconst (v := nI 1) hx hb dX8_layMan_54 (by decide) ?_
  refine lv_dup2_11 hx hb dX8_layMan_55 rfl rfl ?_
  refine j_ild 41 1 hC hB dX8_layMan_56 (by decide) rfl (by simp only [lenI_41]; omega) ?_
  refine j_eqi (x := (sr I 41 (upd (upd (upd (upd (upd (upd (I 41) (3 + m) kind) (63 + m) wit) (7 + m) sort) (51 + m) cell) (55 + m) (nI 0)) (59 + m) (nI 0))) 41 1) (y := nI m) ((congrFun sr_self _).trans ((pk_un (show (1 : Nat) ≠ 59 + m by omega)).trans ((pk_un (show (1 : Nat) ≠ 55 + m by omega)).trans ((pk_un (show (1 : Nat) ≠ 51 + m by omega)).trans ((pk_un (show (1 : Nat) ≠ 7 + m by omega)).trans ((pk_un (show (1 : Nat) ≠ 63 + m by omega)).trans ((pk_un (show (1 : Nat) ≠ 3 + m by omega)).trans (hM)))))))) ?_
  refine lv_iconst (v := nI 1) hx hb dX8_layMan_57 (by decide) ?_
  refine jn_iadd hx hb dX8_layMan_58 ?_
  refine j_ist 41 1 hC hB dX8_layMan_59 (by decide) rfl (by simp only [lenI_41]; omega) (fun H locs hB => ?_)
  have hB : jB G A s_.heap (sr I 41 (upd (upd (upd (upd (upd (upd (upd (I 41) (3 + m) kind) (63 + m) wit) (7 + m) sort) (51 + m) cell) (55 + m) (nI 0)) (59 + m) (nI 0)) 1 (nI (m + 1))), J, O) H locs := by rw [show sr I 41 (upd (upd (upd (upd (upd (upd (upd (I 41) (3 + m) kind) (63 + m) wit) (7 + m) sort) (51 + m) cell) (55 + m) (nI 0)) (59 + m) (nI 0)) 1 (nI (m + 1))) = u2 (sr I 41 (upd (upd (upd (upd (upd (upd (I 41) (3 + m) kind) (63 + m) wit) (7 + m) sort) (51 + m) cell) (55 + m) (nI 0)) (59 + m) (nI 0))) 41 1 (nI (m + 1)) from (u2_sr _ _ _ _ _).symm]; exact hB
  refine lv_aload_n hx hb dX8_layMan_60 rfl (lv_at hl 1 rfl) ?_
  refine lv_iconst (v := nI 2) hx hb dX8_layMan_61 (by decide) ?_
  refine lv_iconst (v := nI 0) hx hb dX8_layMan_62 (by decide) ?_
  refine j_ist 41 2 hC hB dX8_layMan_63 (by decide) rfl (by simp only [lenI_41]; omega) (fun H locs hB => ?_)
  have hB : jB G A s_.heap (sr I 41 (upd (upd (upd (upd (upd (upd (upd (upd (I 41) (3 + m) kind) (63 + m) wit) (7 + m) sort) (51 + m) cell) (55 + m) (nI 0)) (59 + m) (nI 0)) 1 (nI (m + 1))) 2 (nI 0)), J, O) H locs := by rw [show sr I 41 (upd (upd (upd (upd (upd (upd (upd (upd (I 41) (3 + m) kind) (63 + m) wit) (7 + m) sort) (51 + m) cell) (55 + m) (nI 0)) (59 + m) (nI 0)) 1 (nI (m + 1))) 2 (nI 0)) = u2 (sr I 41 (upd (upd (upd (upd (upd (upd (upd (I 41) (3 + m) kind) (63 + m) wit) (7 + m) sort) (51 + m) cell) (55 + m) (nI 0)) (59 + m) (nI 0)) 1 (nI (m + 1)))) 41 2 (nI 0) from (u2_sr _ _ _ _ _).symm]; exact hB
  exact j_vret hC hB dX8_layMan_64 (by simp only [layManR, hM, nIc (show m < 2147483648 by omega)])

set_option maxHeartbeats 4000000 in
set_option maxRecDepth 100000 in
theorem c_X8_layDoor_49 (l_ : Launch) (G : jG) (I : Nat → Nat → Int32) (J : Nat → Nat → Int64) (O : Nat → Nat → Nat) (a b sort hard : Int32) {d : Nat} (hd : d < 10) (hD : I 49 0 = nI d) : jMv l_ G yX8_layDoor wsX8_layDoor ({ frames := 0, cells := 0, slots := 0, locals := 0 }) [.ref (G.2.2.1 (21, 49, 0)), .int a, .int b, .int sort, .int hard] (I, J, O) (fun u => u = (sr I 49 (layDoorR (I 49) a b sort hard), J, O)) := by
  refine jMv_of (cc := cX8_layDoor) (maxL := 6) (ret := none) (lv0 := [(0, .ref (G.2.2.1 (21, 49, 0))), (1, .int a), (2, .int b), (3, .int sort), (4, .int hard)]) (by decide) rfl (Nat.le_of_ble_eq_true rfl) rfl ?_
  intro pg_ ev_ s_ mi_ below meth cd_ A ls hC hB hl
  obtain ⟨hx, hb, hr, hml, hown, hts, hlocks, hK, hA⟩ := id hC
  refine lv_aload_n hx hb dX8_layDoor_0 rfl (lv_at hl 0 rfl) ?_
  refine lv_iconst (v := nI 0) hx hb dX8_layDoor_1 (by decide) ?_
  refine j_ild 49 0 hC hB dX8_layDoor_2 (by decide) rfl (by simp only [lenI_49]; omega) ?_
  refine j_eqi (x := I 49 0) (y := nI d) (hD) ?_
  refine lv_istore (lv' := [(5, .int (nI d)), (0, .ref (G.2.2.1 (21, 49, 0))), (1, .int a), (2, .int b), (3, .int sort), (4, .int hard)]) hx hb dX8_layDoor_3 hl (by decide) rfl (fun ls hl => ?_)
  refine lv_aload_n hx hb dX8_layDoor_5 rfl (lv_at hl 1 rfl) ?_
  refine lv_bipush (v := nI 11) hx hb dX8_layDoor_6 (by decide) ?_
  refine lv_iload hx hb dX8_layDoor_8 (lv_at hl 0 rfl) ?_
  refine jn_iadd hx hb dX8_layDoor_10 ?_
  refine lv_iload_n hx hb dX8_layDoor_11 rfl (lv_at hl 2 rfl) ?_
  refine j_ist 49 (11 + d) hC hB dX8_layDoor_12 (by decide) rfl (by simp only [lenI_49]; omega) (fun H locs hB => ?_)
  have hB : jB G A s_.heap (sr I 49 (upd (I 49) (11 + d) a), J, O) H locs := by rw [show sr I 49 (upd (I 49) (11 + d) a) = u2 I 49 (11 + d) a from (u2_eq _ _ _ _).symm]; exact hB
  refine lv_aload_n hx hb dX8_layDoor_13 rfl (lv_at hl 1 rfl) ?_
  refine lv_bipush (v := nI 21) hx hb dX8_layDoor_14 (by decide) ?_
  refine lv_iload hx hb dX8_layDoor_16 (lv_at hl 0 rfl) ?_
  refine jn_iadd hx hb dX8_layDoor_18 ?_
  refine lv_iload_n hx hb dX8_layDoor_19 rfl (lv_at hl 3 rfl) ?_
  refine j_ist 49 (21 + d) hC hB dX8_layDoor_20 (by decide) rfl (by simp only [lenI_49]; omega) (fun H locs hB => ?_)
  have hB : jB G A s_.heap (sr I 49 (upd (upd (I 49) (11 + d) a) (21 + d) b), J, O) H locs := by rw [show sr I 49 (upd (upd (I 49) (11 + d) a) (21 + d) b) = u2 (sr I 49 (upd (I 49) (11 + d) a)) 49 (21 + d) b from (u2_sr _ _ _ _ _).symm]; exact hB
  refine lv_aload_n hx hb dX8_layDoor_21 rfl (lv_at hl 1 rfl) ?_
  refine lv_bipush (v := nI 31) hx hb dX8_layDoor_22 (by decide) ?_
  refine lv_iload hx hb dX8_layDoor_24 (lv_at hl 0 rfl) ?_
  refine jn_iadd hx hb dX8_layDoor_26 ?_
  refine lv_iload_n hx hb dX8_layDoor_27 rfl (lv_at hl 4 rfl) ?_
  refine j_ist 49 (31 + d) hC hB dX8_layDoor_28 (by decide) rfl (by simp only [lenI_49]; omega) (fun H locs hB => ?_)
  have hB : jB G A s_.heap (sr I 49 (upd (upd (upd (I 49) (11 + d) a) (21 + d) b) (31 + d) sort), J, O) H locs := by rw [show sr I 49 (upd (upd (upd (I 49) (11 + d) a) (21 + d) b) (31 + d) sort) = u2 (sr I 49 (upd (upd (I 49) (11 + d) a) (21 + d) b)) 49 (31 + d) sort from (u2_sr _ _ _ _ _).symm]; exact hB
  refine lv_aload_n hx hb dX8_layDoor_29 rfl (lv_at hl 1 rfl) ?_
  refine lv_bipush (v := nI 41) hx hb dX8_layDoor_30 (by decide) ?_
  refine lv_iload hx hb dX8_layDoor_32 (lv_at hl 0 rfl) ?_
  refine jn_iadd hx hb dX8_layDoor_34 ?_
  refine lv_iload hx hb dX8_layDoor_35 (lv_at hl 5 rfl) ?_
  refine j_ist 49 (41 + d) hC hB dX8_layDoor_37 (by decide) rfl (by simp only [lenI_49]; omega) (fun H locs hB => ?_)
  have hB : jB G A s_.heap (sr I 49 (upd (upd (upd (upd (I 49) (11 + d) a) (21 + d) b) (31 + d) sort) (41 + d) hard), J, O) H locs := by rw [show sr I 49 (upd (upd (upd (upd (I 49) (11 + d) a) (21 + d) b) (31 + d) sort) (41 + d) hard) = u2 (sr I 49 (upd (upd (upd (I 49) (11 + d) a) (21 + d) b) (31 + d) sort)) 49 (41 + d) hard from (u2_sr _ _ _ _ _).symm]; exact hB
  refine lv_aload_n hx hb dX8_layDoor_38 rfl (lv_at hl 1 rfl) ?_
  refine lv_iconst (v := nI 0) hx hb dX8_layDoor_39 (by decide) ?_
  refine lv_dup2_11 hx hb dX8_layDoor_40 rfl rfl ?_
  refine j_ild 49 0 hC hB dX8_layDoor_41 (by decide) rfl (by simp only [lenI_49]; omega) ?_
  refine j_eqi (x := (sr I 49 (upd (upd (upd (upd (I 49) (11 + d) a) (21 + d) b) (31 + d) sort) (41 + d) hard)) 49 0) (y := nI d) ((congrFun sr_self _).trans ((pk_un (show (0 : Nat) ≠ 41 + d by omega)).trans ((pk_un (show (0 : Nat) ≠ 31 + d by omega)).trans ((pk_un (show (0 : Nat) ≠ 21 + d by omega)).trans ((pk_un (show (0 : Nat) ≠ 11 + d by omega)).trans (hD)))))) ?_
  refine lv_iconst (v := nI 1) hx hb dX8_layDoor_42 (by decide) ?_
  refine jn_iadd hx hb dX8_layDoor_43 ?_
  refine j_ist 49 0 hC hB dX8_layDoor_44 (by decide) rfl (by simp only [lenI_49]; omega) (fun H locs hB => ?_)
  have hB : jB G A s_.heap (sr I 49 (upd (upd (upd (upd (upd (I 49) (11 + d) a) (21 + d) b) (31 + d) sort) (41 + d) hard) 0 (nI (d + 1))), J, O) H locs := by rw [show sr I 49 (upd (upd (upd (upd (upd (I 49) (11 + d) a) (21 + d) b) (31 + d) sort) (41 + d) hard) 0 (nI (d + 1))) = u2 (sr I 49 (upd (upd (upd (upd (I 49) (11 + d) a) (21 + d) b) (31 + d) sort) (41 + d) hard)) 49 0 (nI (d + 1)) from (u2_sr _ _ _ _ _).symm]; exact hB
  refine lv_aload_n hx hb dX8_layDoor_45 rfl (lv_at hl 1 rfl) ?_
  refine lv_iconst (v := nI 2) hx hb dX8_layDoor_46 (by decide) ?_
  refine lv_iconst (v := nI 0) hx hb dX8_layDoor_47 (by decide) ?_
  refine j_ist 49 2 hC hB dX8_layDoor_48 (by decide) rfl (by simp only [lenI_49]; omega) (fun H locs hB => ?_)
  have hB : jB G A s_.heap (sr I 49 (upd (upd (upd (upd (upd (upd (I 49) (11 + d) a) (21 + d) b) (31 + d) sort) (41 + d) hard) 0 (nI (d + 1))) 2 (nI 0)), J, O) H locs := by rw [show sr I 49 (upd (upd (upd (upd (upd (upd (I 49) (11 + d) a) (21 + d) b) (31 + d) sort) (41 + d) hard) 0 (nI (d + 1))) 2 (nI 0)) = u2 (sr I 49 (upd (upd (upd (upd (upd (I 49) (11 + d) a) (21 + d) b) (31 + d) sort) (41 + d) hard) 0 (nI (d + 1)))) 49 2 (nI 0) from (u2_sr _ _ _ _ _).symm]; exact hB
  exact j_vret hC hB dX8_layDoor_49 (by simp only [layDoorR, hD, nIc (show d < 2147483648 by omega)])

set_option maxHeartbeats 4000000 in
set_option maxRecDepth 100000 in
theorem c_X8_layMan_49 (l_ : Launch) (G : jG) (I : Nat → Nat → Int32) (J : Nat → Nat → Int64) (O : Nat → Nat → Nat) (kind wit sort cell : Int32) {m : Nat} (hm : m < 4) (hM : I 49 1 = nI m) : jMv l_ G yX8_layMan wsX8_layMan ({ frames := 0, cells := 0, slots := 0, locals := 0 }) [.ref (G.2.2.1 (21, 49, 0)), .int kind, .int wit, .int sort, .int cell] (I, J, O) (fun u => u = (sr I 49 (layManR (I 49) kind wit sort cell), J, O)) := by
  refine jMv_of (cc := cX8_layMan) (maxL := 6) (ret := none) (lv0 := [(0, .ref (G.2.2.1 (21, 49, 0))), (1, .int kind), (2, .int wit), (3, .int sort), (4, .int cell)]) (by decide) rfl (Nat.le_of_ble_eq_true rfl) rfl ?_
  intro pg_ ev_ s_ mi_ below meth cd_ A ls hC hB hl
  obtain ⟨hx, hb, hr, hml, hown, hts, hlocks, hK, hA⟩ := id hC
  refine lv_aload_n hx hb dX8_layMan_0 rfl (lv_at hl 0 rfl) ?_
  refine lv_iconst (v := nI 1) hx hb dX8_layMan_1 (by decide) ?_
  refine j_ild 49 1 hC hB dX8_layMan_2 (by decide) rfl (by simp only [lenI_49]; omega) ?_
  refine j_eqi (x := I 49 1) (y := nI m) (hM) ?_
  refine lv_istore (lv' := [(5, .int (nI m)), (0, .ref (G.2.2.1 (21, 49, 0))), (1, .int kind), (2, .int wit), (3, .int sort), (4, .int cell)]) hx hb dX8_layMan_3 hl (by decide) rfl (fun ls hl => ?_)
  refine lv_aload_n hx hb dX8_layMan_5 rfl (lv_at hl 1 rfl) ?_
  refine lv_iconst (v := nI 3) hx hb dX8_layMan_6 (by decide) ?_
  refine lv_iload hx hb dX8_layMan_7 (lv_at hl 0 rfl) ?_
  refine jn_iadd hx hb dX8_layMan_9 ?_
  refine lv_iload_n hx hb dX8_layMan_10 rfl (lv_at hl 2 rfl) ?_
  refine j_ist 49 (3 + m) hC hB dX8_layMan_11 (by decide) rfl (by simp only [lenI_49]; omega) (fun H locs hB => ?_)
  have hB : jB G A s_.heap (sr I 49 (upd (I 49) (3 + m) kind), J, O) H locs := by rw [show sr I 49 (upd (I 49) (3 + m) kind) = u2 I 49 (3 + m) kind from (u2_eq _ _ _ _).symm]; exact hB
  refine lv_aload_n hx hb dX8_layMan_12 rfl (lv_at hl 1 rfl) ?_
  refine lv_bipush (v := nI 63) hx hb dX8_layMan_13 (by decide) ?_
  refine lv_iload hx hb dX8_layMan_15 (lv_at hl 0 rfl) ?_
  refine jn_iadd hx hb dX8_layMan_17 ?_
  refine lv_iload_n hx hb dX8_layMan_18 rfl (lv_at hl 3 rfl) ?_
  refine j_ist 49 (63 + m) hC hB dX8_layMan_19 (by decide) rfl (by simp only [lenI_49]; omega) (fun H locs hB => ?_)
  have hB : jB G A s_.heap (sr I 49 (upd (upd (I 49) (3 + m) kind) (63 + m) wit), J, O) H locs := by rw [show sr I 49 (upd (upd (I 49) (3 + m) kind) (63 + m) wit) = u2 (sr I 49 (upd (I 49) (3 + m) kind)) 49 (63 + m) wit from (u2_sr _ _ _ _ _).symm]; exact hB
  refine lv_aload_n hx hb dX8_layMan_20 rfl (lv_at hl 1 rfl) ?_
  refine lv_bipush (v := nI 7) hx hb dX8_layMan_21 (by decide) ?_
  refine lv_iload hx hb dX8_layMan_23 (lv_at hl 0 rfl) ?_
  refine jn_iadd hx hb dX8_layMan_25 ?_
  refine lv_iload_n hx hb dX8_layMan_26 rfl (lv_at hl 4 rfl) ?_
  refine j_ist 49 (7 + m) hC hB dX8_layMan_27 (by decide) rfl (by simp only [lenI_49]; omega) (fun H locs hB => ?_)
  have hB : jB G A s_.heap (sr I 49 (upd (upd (upd (I 49) (3 + m) kind) (63 + m) wit) (7 + m) sort), J, O) H locs := by rw [show sr I 49 (upd (upd (upd (I 49) (3 + m) kind) (63 + m) wit) (7 + m) sort) = u2 (sr I 49 (upd (upd (I 49) (3 + m) kind) (63 + m) wit)) 49 (7 + m) sort from (u2_sr _ _ _ _ _).symm]; exact hB
  refine lv_aload_n hx hb dX8_layMan_28 rfl (lv_at hl 1 rfl) ?_
  refine lv_bipush (v := nI 51) hx hb dX8_layMan_29 (by decide) ?_
  refine lv_iload hx hb dX8_layMan_31 (lv_at hl 0 rfl) ?_
  refine jn_iadd hx hb dX8_layMan_33 ?_
  refine lv_iload hx hb dX8_layMan_34 (lv_at hl 5 rfl) ?_
  refine j_ist 49 (51 + m) hC hB dX8_layMan_36 (by decide) rfl (by simp only [lenI_49]; omega) (fun H locs hB => ?_)
  have hB : jB G A s_.heap (sr I 49 (upd (upd (upd (upd (I 49) (3 + m) kind) (63 + m) wit) (7 + m) sort) (51 + m) cell), J, O) H locs := by rw [show sr I 49 (upd (upd (upd (upd (I 49) (3 + m) kind) (63 + m) wit) (7 + m) sort) (51 + m) cell) = u2 (sr I 49 (upd (upd (upd (I 49) (3 + m) kind) (63 + m) wit) (7 + m) sort)) 49 (51 + m) cell from (u2_sr _ _ _ _ _).symm]; exact hB
  refine lv_aload_n hx hb dX8_layMan_37 rfl (lv_at hl 1 rfl) ?_
  refine lv_bipush (v := nI 55) hx hb dX8_layMan_38 (by decide) ?_
  refine lv_iload hx hb dX8_layMan_40 (lv_at hl 0 rfl) ?_
  refine jn_iadd hx hb dX8_layMan_42 ?_
  refine lv_iconst (v := nI 0) hx hb dX8_layMan_43 (by decide) ?_
  refine j_ist 49 (55 + m) hC hB dX8_layMan_44 (by decide) rfl (by simp only [lenI_49]; omega) (fun H locs hB => ?_)
  have hB : jB G A s_.heap (sr I 49 (upd (upd (upd (upd (upd (I 49) (3 + m) kind) (63 + m) wit) (7 + m) sort) (51 + m) cell) (55 + m) (nI 0)), J, O) H locs := by rw [show sr I 49 (upd (upd (upd (upd (upd (I 49) (3 + m) kind) (63 + m) wit) (7 + m) sort) (51 + m) cell) (55 + m) (nI 0)) = u2 (sr I 49 (upd (upd (upd (upd (I 49) (3 + m) kind) (63 + m) wit) (7 + m) sort) (51 + m) cell)) 49 (55 + m) (nI 0) from (u2_sr _ _ _ _ _).symm]; exact hB
  refine lv_aload_n hx hb dX8_layMan_45 rfl (lv_at hl 1 rfl) ?_
  refine lv_bipush (v := nI 59) hx hb dX8_layMan_46 (by decide) ?_
  refine lv_iload hx hb dX8_layMan_48 (lv_at hl 0 rfl) ?_
  refine jn_iadd hx hb dX8_layMan_50 ?_
  refine lv_iconst (v := nI 0) hx hb dX8_layMan_51 (by decide) ?_
  refine j_ist 49 (59 + m) hC hB dX8_layMan_52 (by decide) rfl (by simp only [lenI_49]; omega) (fun H locs hB => ?_)
  have hB : jB G A s_.heap (sr I 49 (upd (upd (upd (upd (upd (upd (I 49) (3 + m) kind) (63 + m) wit) (7 + m) sort) (51 + m) cell) (55 + m) (nI 0)) (59 + m) (nI 0)), J, O) H locs := by rw [show sr I 49 (upd (upd (upd (upd (upd (upd (I 49) (3 + m) kind) (63 + m) wit) (7 + m) sort) (51 + m) cell) (55 + m) (nI 0)) (59 + m) (nI 0)) = u2 (sr I 49 (upd (upd (upd (upd (upd (I 49) (3 + m) kind) (63 + m) wit) (7 + m) sort) (51 + m) cell) (55 + m) (nI 0))) 49 (59 + m) (nI 0) from (u2_sr _ _ _ _ _).symm]; exact hB
  refine lv_aload_n hx hb dX8_layMan_53 rfl (lv_at hl 1 rfl) ?_
  refine lv_iconst (v := nI 1) hx hb dX8_layMan_54 (by decide) ?_
  refine lv_dup2_11 hx hb dX8_layMan_55 rfl rfl ?_
  refine j_ild 49 1 hC hB dX8_layMan_56 (by decide) rfl (by simp only [lenI_49]; omega) ?_
  refine j_eqi (x := (sr I 49 (upd (upd (upd (upd (upd (upd (I 49) (3 + m) kind) (63 + m) wit) (7 + m) sort) (51 + m) cell) (55 + m) (nI 0)) (59 + m) (nI 0))) 49 1) (y := nI m) ((congrFun sr_self _).trans ((pk_un (show (1 : Nat) ≠ 59 + m by omega)).trans ((pk_un (show (1 : Nat) ≠ 55 + m by omega)).trans ((pk_un (show (1 : Nat) ≠ 51 + m by omega)).trans ((pk_un (show (1 : Nat) ≠ 7 + m by omega)).trans ((pk_un (show (1 : Nat) ≠ 63 + m by omega)).trans ((pk_un (show (1 : Nat) ≠ 3 + m by omega)).trans (hM)))))))) ?_
  refine lv_iconst (v := nI 1) hx hb dX8_layMan_57 (by decide) ?_
  refine jn_iadd hx hb dX8_layMan_58 ?_
  refine j_ist 49 1 hC hB dX8_layMan_59 (by decide) rfl (by simp only [lenI_49]; omega) (fun H locs hB => ?_)
  have hB : jB G A s_.heap (sr I 49 (upd (upd (upd (upd (upd (upd (upd (I 49) (3 + m) kind) (63 + m) wit) (7 + m) sort) (51 + m) cell) (55 + m) (nI 0)) (59 + m) (nI 0)) 1 (nI (m + 1))), J, O) H locs := by rw [show sr I 49 (upd (upd (upd (upd (upd (upd (upd (I 49) (3 + m) kind) (63 + m) wit) (7 + m) sort) (51 + m) cell) (55 + m) (nI 0)) (59 + m) (nI 0)) 1 (nI (m + 1))) = u2 (sr I 49 (upd (upd (upd (upd (upd (upd (I 49) (3 + m) kind) (63 + m) wit) (7 + m) sort) (51 + m) cell) (55 + m) (nI 0)) (59 + m) (nI 0))) 49 1 (nI (m + 1)) from (u2_sr _ _ _ _ _).symm]; exact hB
  refine lv_aload_n hx hb dX8_layMan_60 rfl (lv_at hl 1 rfl) ?_
  refine lv_iconst (v := nI 2) hx hb dX8_layMan_61 (by decide) ?_
  refine lv_iconst (v := nI 0) hx hb dX8_layMan_62 (by decide) ?_
  refine j_ist 49 2 hC hB dX8_layMan_63 (by decide) rfl (by simp only [lenI_49]; omega) (fun H locs hB => ?_)
  have hB : jB G A s_.heap (sr I 49 (upd (upd (upd (upd (upd (upd (upd (upd (I 49) (3 + m) kind) (63 + m) wit) (7 + m) sort) (51 + m) cell) (55 + m) (nI 0)) (59 + m) (nI 0)) 1 (nI (m + 1))) 2 (nI 0)), J, O) H locs := by rw [show sr I 49 (upd (upd (upd (upd (upd (upd (upd (upd (I 49) (3 + m) kind) (63 + m) wit) (7 + m) sort) (51 + m) cell) (55 + m) (nI 0)) (59 + m) (nI 0)) 1 (nI (m + 1))) 2 (nI 0)) = u2 (sr I 49 (upd (upd (upd (upd (upd (upd (upd (I 49) (3 + m) kind) (63 + m) wit) (7 + m) sort) (51 + m) cell) (55 + m) (nI 0)) (59 + m) (nI 0)) 1 (nI (m + 1)))) 49 2 (nI 0) from (u2_sr _ _ _ _ _).symm]; exact hB
  exact j_vret hC hB dX8_layMan_64 (by simp only [layManR, hM, nIc (show m < 2147483648 by omega)])

set_option maxHeartbeats 4000000 in
set_option maxRecDepth 100000 in
theorem c_X8_keep (l_ : Launch) (G : jG) (I : Nat → Nat → Int32) (J : Nat → Nat → Int64) (O : Nat → Nat → Nat) {h : Nat} (hh : h ≤ 8) (hH : I 41 2 = nI h) : jMv l_ G yX8_keep wsX8_keep ({ frames := 0, cells := 0, slots := 0, locals := 0 }) [.ref (G.2.2.1 (20, 0, 0))] (I, J, O) (fun u => u = (sr I 41 (keepR (I 41)), J, O)) := by
  refine jMv_of (cc := cX8_keep) (maxL := 2) (ret := none) (lv0 := [(0, .ref (G.2.2.1 (20, 0, 0)))]) (by decide) rfl (Nat.le_of_ble_eq_true rfl) rfl ?_
  intro pg_ ev_ s_ mi_ below meth cd_ A ls hC hB hl
  obtain ⟨hx, hb, hr, hml, hown, hts, hlocks, hK, hA⟩ := id hC
  have lk_7 := hts (.fieldLink RX8 7 "RiddlePrisonModel" "now" "[I") (by decide +kernel)
  have in_X8 := (fun w h => List.mem_cons_of_mem _ (List.mem_append_right _ h) : ∀ w ∈ wsX80, w ∈ wsX8_keep)
  refine lv_aload_n hx hb dX8_keep_0 rfl (lv_at hl 0 rfl) ?_
  refine j_get (20, 0, 0) 0 (v := .ref (G.2.2.1 (21, 41, 0))) hC hB in_X8 lk_7 dX8_keep_1 jk20 rfl rfl (by decide) rfl ?_
  refine lv_iconst (v := nI 2) hx hb dX8_keep_4 (by decide) ?_
  refine j_ild 41 2 hC hB dX8_keep_5 (by decide) rfl (by simp only [lenI_41]; omega) ?_
  refine j_eqi (x := I 41 2) (y := nI h) (hH) ?_
  refine lv_bipush (v := nI 8) hx hb dX8_keep_6 (by decide) ?_
  refine jn_icmp_ne (tgt := 52) hx hb dX8_keep_8 (by decide) (by omega) (by omega) (fun c_8 => ?_) (fun c_8 => ?_)
  · refine lv_iconst (v := nI 0) hx hb dX8_keep_52 (by decide) ?_
    refine lv_istore_n (lv' := [(1, .int (nI 0)), (0, .ref (G.2.2.1 (20, 0, 0)))]) hx hb dX8_keep_53 rfl hl (by decide) rfl (fun ls hl => ?_)
    have lp_54 : ∀ (fu : Nat) (f : Nat → Int32) (k : Nat), 37 - k < fu → (k ≤ 37) → (f = stR (I 41) h k) → (f 2 = nI h) → ∀ H locs ls, jB G A s_.heap (sr I 41 (f), J, O) H locs → lv_has ls 2 [(1, .int (nI k)), (0, .ref (G.2.2.1 (20, 0, 0)))] → W pg_ l_ ev_ ({ frames := 0, cells := 0, slots := 0, locals := 0 }) s_ mi_ ([.ref (G.2.2.1 (20, 0, 0))]).toArray below meth cd_ H locs 0 0 (jQv G A below [.ref (G.2.2.1 (20, 0, 0))] s_ (fun u => u = (sr I 41 (keepR (I 41)), J, O))) (F0 mi_ 54 ls []) := by
      intro fu
      induction fu with
      | zero => intro f k hf; exact absurd hf (Nat.not_lt_zero _)
      | succ fu ih_54 =>
        intro f k hf_54 hk hf hu H locs ls hB hl
        refine lv_iload_n hx hb dX8_keep_54 rfl (lv_at hl 0 rfl) ?_
        refine lv_bipush (v := nI 37) hx hb dX8_keep_55 (by decide) ?_
        refine jn_icmp_ge (tgt := 94) hx hb dX8_keep_57 (by decide) (by omega) (by omega) (fun c_57 => ?_) (fun c_57 => ?_)
        · refine lv_aload_n hx hb dX8_keep_94 rfl (lv_at hl 1 rfl) ?_
          refine j_get (20, 0, 0) 0 (v := .ref (G.2.2.1 (21, 41, 0))) hC hB in_X8 lk_7 dX8_keep_95 jk20 rfl rfl (by decide) rfl ?_
          refine lv_iconst (v := nI 2) hx hb dX8_keep_98 (by decide) ?_
          refine lv_dup2_11 hx hb dX8_keep_99 rfl rfl ?_
          refine j_ild 41 2 hC hB dX8_keep_100 (by decide) rfl (by simp only [lenI_41]; omega) ?_
          refine j_eqi (x := (sr I 41 (f)) 41 2) (y := nI h) ((congrFun sr_self _).trans (hu)) ?_
          refine lv_iconst (v := nI 1) hx hb dX8_keep_101 (by decide) ?_
          refine jn_iadd hx hb dX8_keep_102 ?_
          refine j_ist 41 2 hC hB dX8_keep_103 (by decide) rfl (by simp only [lenI_41]; omega) (fun H locs hB => ?_)
          have hB : jB G A s_.heap (sr I 41 (upd (f) 2 (nI (h + 1))), J, O) H locs := by rw [show sr I 41 (upd (f) 2 (nI (h + 1))) = u2 (sr I 41 (f)) 41 2 (nI (h + 1)) from (u2_sr _ _ _ _ _).symm]; exact hB
          exact j_vret hC hB dX8_keep_104 (by rw [hf, show k = 37 by omega]; simp [keepR, hH, nIc (show h < 2147483648 by omega), c_8])
        · refine lv_aload_n hx hb dX8_keep_60 rfl (lv_at hl 1 rfl) ?_
          refine j_get (20, 0, 0) 0 (v := .ref (G.2.2.1 (21, 41, 0))) hC hB in_X8 lk_7 dX8_keep_61 jk20 rfl rfl (by decide) rfl ?_
          refine lv_bipush (v := nI 68) hx hb dX8_keep_64 (by decide) ?_
          refine lv_bipush (v := nI 37) hx hb dX8_keep_66 (by decide) ?_
          refine lv_aload_n hx hb dX8_keep_68 rfl (lv_at hl 1 rfl) ?_
          refine j_get (20, 0, 0) 0 (v := .ref (G.2.2.1 (21, 41, 0))) hC hB in_X8 lk_7 dX8_keep_69 jk20 rfl rfl (by decide) rfl ?_
          refine lv_iconst (v := nI 2) hx hb dX8_keep_72 (by decide) ?_
          refine j_ild 41 2 hC hB dX8_keep_73 (by decide) rfl (by simp only [lenI_41]; omega) ?_
          refine j_eqi (x := (sr I 41 (f)) 41 2) (y := nI h) ((congrFun sr_self _).trans (hu)) ?_
          refine jn_imul hx hb dX8_keep_74 ?_
          refine jn_iadd hx hb dX8_keep_75 ?_
          refine lv_iload_n hx hb dX8_keep_76 rfl (lv_at hl 0 rfl) ?_
          refine jn_iadd hx hb dX8_keep_77 ?_
          refine lv_aload_n hx hb dX8_keep_78 rfl (lv_at hl 1 rfl) ?_
          refine j_get (20, 0, 0) 0 (v := .ref (G.2.2.1 (21, 41, 0))) hC hB in_X8 lk_7 dX8_keep_79 jk20 rfl rfl (by decide) rfl ?_
          refine lv_bipush (v := nI 31) hx hb dX8_keep_82 (by decide) ?_
          refine lv_iload_n hx hb dX8_keep_84 rfl (lv_at hl 0 rfl) ?_
          refine jn_iadd hx hb dX8_keep_85 ?_
          refine j_ild 41 (31 + k) hC hB dX8_keep_86 (by decide) rfl (by simp only [lenI_41]; omega) ?_
          refine j_eqi (x := (sr I 41 (f)) 41 (31 + k)) (y := f (31 + k)) ((congrFun sr_self _)) ?_
          refine j_ist 41 (68 + 37 * h + k) hC hB dX8_keep_87 (by decide) rfl (by simp only [lenI_41]; omega) (fun H locs hB => ?_)
          have hB : jB G A s_.heap (sr I 41 (upd (f) (68 + 37 * h + k) (f (31 + k))), J, O) H locs := by rw [show sr I 41 (upd (f) (68 + 37 * h + k) (f (31 + k))) = u2 (sr I 41 (f)) 41 (68 + 37 * h + k) (f (31 + k)) from (u2_sr _ _ _ _ _).symm]; exact hB
          refine lv_iinc (v := nI (k + 1)) (lv' := [(1, .int (nI (k + 1))), (0, .ref (G.2.2.1 (20, 0, 0)))]) hx hb dX8_keep_88 hl (k := 0) rfl (jn_inc _ 1) (by decide) rfl (fun ls hl => ?_)
          refine lv_goto (tgt := 54) hx hb dX8_keep_91 (by decide) ?_
          exact ih_54 (upd (f) (68 + 37 * h + k) (f (31 + k))) (k + 1) (by omega) (by omega) (by rw [hf]; exact stR_step _ (by omega)) ((pk_un (by omega)).trans hu) _ _ _ (jB_cast2 hB (by first | rfl | exact (sr_id _ _).symm | exact (srJ_id _ _).symm | (funext a; simp only [sr, srJ]; (repeat' split) <;> first | rfl | omega | (subst_vars; rfl))) (by first | rfl | exact (sr_id _ _).symm | exact (srJ_id _ _).symm | (funext a; simp only [sr, srJ]; (repeat' split) <;> first | rfl | omega | (subst_vars; rfl)))) (lv_sub hl [0, 1] rfl)
    exact lp_54 _ (I 41) 0 (Nat.lt_succ_self _) (by omega) ((stR_0 _ _).symm) (hH) _ _ _ (jB_cast2 hB (by first | rfl | exact (sr_id _ _).symm | exact (srJ_id _ _).symm | (funext a; simp only [sr, srJ]; (repeat' split) <;> first | rfl | omega | (subst_vars; rfl))) (by first | rfl | exact (sr_id _ _).symm | exact (srJ_id _ _).symm | (funext a; simp only [sr, srJ]; (repeat' split) <;> first | rfl | omega | (subst_vars; rfl)))) (lv_sub hl [0, 1] rfl)
  · refine lv_iconst (v := nI 0) hx hb dX8_keep_11 (by decide) ?_
    refine lv_istore_n (lv' := [(1, .int (nI 0)), (0, .ref (G.2.2.1 (20, 0, 0)))]) hx hb dX8_keep_12 rfl hl (by decide) rfl (fun ls hl => ?_)
    have lp_13 : ∀ (fu : Nat) (f : Nat → Int32) (k : Nat), 259 - k < fu → (k ≤ 259) → (f = shR (I 41) k) → ∀ H locs ls, jB G A s_.heap (sr I 41 (f), J, O) H locs → lv_has ls 2 [(1, .int (nI k)), (0, .ref (G.2.2.1 (20, 0, 0)))] → W pg_ l_ ev_ ({ frames := 0, cells := 0, slots := 0, locals := 0 }) s_ mi_ ([.ref (G.2.2.1 (20, 0, 0))]).toArray below meth cd_ H locs 0 0 (jQv G A below [.ref (G.2.2.1 (20, 0, 0))] s_ (fun u => u = (sr I 41 (keepR (I 41)), J, O))) (F0 mi_ 13 ls []) := by
      intro fu
      induction fu with
      | zero => intro f k hf; exact absurd hf (Nat.not_lt_zero _)
      | succ fu ih_13 =>
        intro f k hf_13 hk hf H locs ls hB hl
        refine lv_iload_n hx hb dX8_keep_13 rfl (lv_at hl 0 rfl) ?_
        refine lv_sipush (v := nI 259) hx hb dX8_keep_14 (by decide) ?_
        refine jn_icmp_ge (tgt := 44) hx hb dX8_keep_17 (by decide) (by omega) (by omega) (fun c_17 => ?_) (fun c_17 => ?_)
        · refine lv_aload_n hx hb dX8_keep_44 rfl (lv_at hl 1 rfl) ?_
          refine j_get (20, 0, 0) 0 (v := .ref (G.2.2.1 (21, 41, 0))) hC hB in_X8 lk_7 dX8_keep_45 jk20 rfl rfl (by decide) rfl ?_
          refine lv_iconst (v := nI 2) hx hb dX8_keep_48 (by decide) ?_
          refine lv_bipush (v := nI 7) hx hb dX8_keep_49 (by decide) ?_
          refine j_ist 41 2 hC hB dX8_keep_51 (by decide) rfl (by simp only [lenI_41]; omega) (fun H locs hB => ?_)
          have hB : jB G A s_.heap (sr I 41 (upd (f) 2 (nI 7)), J, O) H locs := by rw [show sr I 41 (upd (f) 2 (nI 7)) = u2 (sr I 41 (f)) 41 2 (nI 7) from (u2_sr _ _ _ _ _).symm]; exact hB
          refine lv_iconst (v := nI 0) hx hb dX8_keep_52 (by decide) ?_
          refine lv_istore_n (lv' := [(1, .int (nI 0)), (0, .ref (G.2.2.1 (20, 0, 0)))]) hx hb dX8_keep_53 rfl hl (by decide) rfl (fun ls hl => ?_)
          have lp_54 : ∀ (fu : Nat) (f : Nat → Int32) (k : Nat), 37 - k < fu → (k ≤ 37) → (f = stR (upd (shR (I 41) 259) 2 (nI 7)) 7 k) → (f 2 = nI 7) → ∀ H locs ls, jB G A s_.heap (sr I 41 (f), J, O) H locs → lv_has ls 2 [(1, .int (nI k)), (0, .ref (G.2.2.1 (20, 0, 0)))] → W pg_ l_ ev_ ({ frames := 0, cells := 0, slots := 0, locals := 0 }) s_ mi_ ([.ref (G.2.2.1 (20, 0, 0))]).toArray below meth cd_ H locs 0 0 (jQv G A below [.ref (G.2.2.1 (20, 0, 0))] s_ (fun u => u = (sr I 41 (keepR (I 41)), J, O))) (F0 mi_ 54 ls []) := by
            intro fu
            induction fu with
            | zero => intro f k hf; exact absurd hf (Nat.not_lt_zero _)
            | succ fu ih_54 =>
              intro f k hf_54 hk hf hu H locs ls hB hl
              refine lv_iload_n hx hb dX8_keep_54 rfl (lv_at hl 0 rfl) ?_
              refine lv_bipush (v := nI 37) hx hb dX8_keep_55 (by decide) ?_
              refine jn_icmp_ge (tgt := 94) hx hb dX8_keep_57 (by decide) (by omega) (by omega) (fun c_57 => ?_) (fun c_57 => ?_)
              · refine lv_aload_n hx hb dX8_keep_94 rfl (lv_at hl 1 rfl) ?_
                refine j_get (20, 0, 0) 0 (v := .ref (G.2.2.1 (21, 41, 0))) hC hB in_X8 lk_7 dX8_keep_95 jk20 rfl rfl (by decide) rfl ?_
                refine lv_iconst (v := nI 2) hx hb dX8_keep_98 (by decide) ?_
                refine lv_dup2_11 hx hb dX8_keep_99 rfl rfl ?_
                refine j_ild 41 2 hC hB dX8_keep_100 (by decide) rfl (by simp only [lenI_41]; omega) ?_
                refine j_eqi (x := (sr I 41 (f)) 41 2) (y := nI 7) ((congrFun sr_self _).trans (hu)) ?_
                refine lv_iconst (v := nI 1) hx hb dX8_keep_101 (by decide) ?_
                refine jn_iadd hx hb dX8_keep_102 ?_
                refine j_eqi (y := nI 8) rfl ?_
                refine j_ist 41 2 hC hB dX8_keep_103 (by decide) rfl (by simp only [lenI_41]; omega) (fun H locs hB => ?_)
                have hB : jB G A s_.heap (sr I 41 (upd (f) 2 (nI 8)), J, O) H locs := by rw [show sr I 41 (upd (f) 2 (nI 8)) = u2 (sr I 41 (f)) 41 2 (nI 8) from (u2_sr _ _ _ _ _).symm]; exact hB
                exact j_vret hC hB dX8_keep_104 (by rw [hf, show k = 37 by omega]; simp [keepR, hH, nIc (show h < 2147483648 by omega), eq_true c_8])
              · refine lv_aload_n hx hb dX8_keep_60 rfl (lv_at hl 1 rfl) ?_
                refine j_get (20, 0, 0) 0 (v := .ref (G.2.2.1 (21, 41, 0))) hC hB in_X8 lk_7 dX8_keep_61 jk20 rfl rfl (by decide) rfl ?_
                refine lv_bipush (v := nI 68) hx hb dX8_keep_64 (by decide) ?_
                refine lv_bipush (v := nI 37) hx hb dX8_keep_66 (by decide) ?_
                refine lv_aload_n hx hb dX8_keep_68 rfl (lv_at hl 1 rfl) ?_
                refine j_get (20, 0, 0) 0 (v := .ref (G.2.2.1 (21, 41, 0))) hC hB in_X8 lk_7 dX8_keep_69 jk20 rfl rfl (by decide) rfl ?_
                refine lv_iconst (v := nI 2) hx hb dX8_keep_72 (by decide) ?_
                refine j_ild 41 2 hC hB dX8_keep_73 (by decide) rfl (by simp only [lenI_41]; omega) ?_
                refine j_eqi (x := (sr I 41 (f)) 41 2) (y := nI 7) ((congrFun sr_self _).trans (hu)) ?_
                refine jn_imul hx hb dX8_keep_74 ?_
                refine jn_iadd hx hb dX8_keep_75 ?_
                refine lv_iload_n hx hb dX8_keep_76 rfl (lv_at hl 0 rfl) ?_
                refine jn_iadd hx hb dX8_keep_77 ?_
                refine lv_aload_n hx hb dX8_keep_78 rfl (lv_at hl 1 rfl) ?_
                refine j_get (20, 0, 0) 0 (v := .ref (G.2.2.1 (21, 41, 0))) hC hB in_X8 lk_7 dX8_keep_79 jk20 rfl rfl (by decide) rfl ?_
                refine lv_bipush (v := nI 31) hx hb dX8_keep_82 (by decide) ?_
                refine lv_iload_n hx hb dX8_keep_84 rfl (lv_at hl 0 rfl) ?_
                refine jn_iadd hx hb dX8_keep_85 ?_
                refine j_ild 41 (31 + k) hC hB dX8_keep_86 (by decide) rfl (by simp only [lenI_41]; omega) ?_
                refine j_eqi (x := (sr I 41 (f)) 41 (31 + k)) (y := f (31 + k)) ((congrFun sr_self _)) ?_
                refine j_ist 41 (68 + 37 * 7 + k) hC hB dX8_keep_87 (by decide) rfl (by simp only [lenI_41]; omega) (fun H locs hB => ?_)
                have hB : jB G A s_.heap (sr I 41 (upd (f) (68 + 37 * 7 + k) (f (31 + k))), J, O) H locs := by rw [show sr I 41 (upd (f) (68 + 37 * 7 + k) (f (31 + k))) = u2 (sr I 41 (f)) 41 (68 + 37 * 7 + k) (f (31 + k)) from (u2_sr _ _ _ _ _).symm]; exact hB
                refine lv_iinc (v := nI (k + 1)) (lv' := [(1, .int (nI (k + 1))), (0, .ref (G.2.2.1 (20, 0, 0)))]) hx hb dX8_keep_88 hl (k := 0) rfl (jn_inc _ 1) (by decide) rfl (fun ls hl => ?_)
                refine lv_goto (tgt := 54) hx hb dX8_keep_91 (by decide) ?_
                exact ih_54 (upd (f) (68 + 37 * 7 + k) (f (31 + k))) (k + 1) (by omega) (by omega) (by rw [hf]; exact stR_step _ (by omega)) ((pk_un (by omega)).trans hu) _ _ _ (jB_cast2 hB (by first | rfl | exact (sr_id _ _).symm | exact (srJ_id _ _).symm | (funext a; simp only [sr, srJ]; (repeat' split) <;> first | rfl | omega | (subst_vars; rfl))) (by first | rfl | exact (sr_id _ _).symm | exact (srJ_id _ _).symm | (funext a; simp only [sr, srJ]; (repeat' split) <;> first | rfl | omega | (subst_vars; rfl)))) (lv_sub hl [0, 1] rfl)
          exact lp_54 _ (upd (f) 2 (nI 7)) 0 (Nat.lt_succ_self _) (by omega) (by rw [hf, show k = 259 by omega]; exact (stR_0 _ _).symm) (pk_us) _ _ _ (jB_cast2 hB (by first | rfl | exact (sr_id _ _).symm | exact (srJ_id _ _).symm | (funext a; simp only [sr, srJ]; (repeat' split) <;> first | rfl | omega | (subst_vars; rfl))) (by first | rfl | exact (sr_id _ _).symm | exact (srJ_id _ _).symm | (funext a; simp only [sr, srJ]; (repeat' split) <;> first | rfl | omega | (subst_vars; rfl)))) (lv_sub hl [0, 1] rfl)
        · refine lv_aload_n hx hb dX8_keep_20 rfl (lv_at hl 1 rfl) ?_
          refine j_get (20, 0, 0) 0 (v := .ref (G.2.2.1 (21, 41, 0))) hC hB in_X8 lk_7 dX8_keep_21 jk20 rfl rfl (by decide) rfl ?_
          refine lv_bipush (v := nI 68) hx hb dX8_keep_24 (by decide) ?_
          refine lv_iload_n hx hb dX8_keep_26 rfl (lv_at hl 0 rfl) ?_
          refine jn_iadd hx hb dX8_keep_27 ?_
          refine lv_aload_n hx hb dX8_keep_28 rfl (lv_at hl 1 rfl) ?_
          refine j_get (20, 0, 0) 0 (v := .ref (G.2.2.1 (21, 41, 0))) hC hB in_X8 lk_7 dX8_keep_29 jk20 rfl rfl (by decide) rfl ?_
          refine lv_bipush (v := nI 105) hx hb dX8_keep_32 (by decide) ?_
          refine lv_iload_n hx hb dX8_keep_34 rfl (lv_at hl 0 rfl) ?_
          refine jn_iadd hx hb dX8_keep_35 ?_
          refine j_ild 41 (105 + k) hC hB dX8_keep_36 (by decide) rfl (by simp only [lenI_41]; omega) ?_
          refine j_eqi (x := (sr I 41 (f)) 41 (105 + k)) (y := f (105 + k)) ((congrFun sr_self _)) ?_
          refine j_ist 41 (68 + k) hC hB dX8_keep_37 (by decide) rfl (by simp only [lenI_41]; omega) (fun H locs hB => ?_)
          have hB : jB G A s_.heap (sr I 41 (upd (f) (68 + k) (f (105 + k))), J, O) H locs := by rw [show sr I 41 (upd (f) (68 + k) (f (105 + k))) = u2 (sr I 41 (f)) 41 (68 + k) (f (105 + k)) from (u2_sr _ _ _ _ _).symm]; exact hB
          refine lv_iinc (v := nI (k + 1)) (lv' := [(1, .int (nI (k + 1))), (0, .ref (G.2.2.1 (20, 0, 0)))]) hx hb dX8_keep_38 hl (k := 0) rfl (jn_inc _ 1) (by decide) rfl (fun ls hl => ?_)
          refine lv_goto (tgt := 13) hx hb dX8_keep_41 (by decide) ?_
          exact ih_13 (upd (f) (68 + k) (f (105 + k))) (k + 1) (by omega) (by omega) (by rw [hf]; exact shR_step _ _) _ _ _ (jB_cast2 hB (by first | rfl | exact (sr_id _ _).symm | exact (srJ_id _ _).symm | (funext a; simp only [sr, srJ]; (repeat' split) <;> first | rfl | omega | (subst_vars; rfl))) (by first | rfl | exact (sr_id _ _).symm | exact (srJ_id _ _).symm | (funext a; simp only [sr, srJ]; (repeat' split) <;> first | rfl | omega | (subst_vars; rfl)))) (lv_sub hl [0, 1] rfl)
    exact lp_13 _ (I 41) 0 (Nat.lt_succ_self _) (by omega) ((shR_0 _).symm) _ _ _ (jB_cast2 hB (by first | rfl | exact (sr_id _ _).symm | exact (srJ_id _ _).symm | (funext a; simp only [sr, srJ]; (repeat' split) <;> first | rfl | omega | (subst_vars; rfl))) (by first | rfl | exact (sr_id _ _).symm | exact (srJ_id _ _).symm | (funext a; simp only [sr, srJ]; (repeat' split) <;> first | rfl | omega | (subst_vars; rfl)))) (lv_sub hl [0, 1] rfl)

set_option maxHeartbeats 4000000 in
set_option maxRecDepth 100000 in
theorem c_X8_tries (l_ : Launch) (G : jG) (I : Nat → Nat → Int32) (J : Nat → Nat → Int64) (O : Nat → Nat → Nat) (m d : Nat) (hm : m < 4) (hd : d < 10) : jMv l_ G yX8_tries wsX8_tries ({ frames := 3, cells := 0, slots := 0, locals := 73 }) [.ref (G.2.2.1 (20, 0, 0)), .int (nI m), .int (nI d)] (I, J, O) (fun u => u = (sr I 41 (triesR (I 41) m d), J, O)) := by
  refine jMv_of (cc := cX8_tries) (maxL := 4) (ret := none) (lv0 := [(0, .ref (G.2.2.1 (20, 0, 0))), (1, .int (nI m)), (2, .int (nI d))]) (by decide) rfl (Nat.le_of_ble_eq_true rfl) rfl ?_
  intro pg_ ev_ s_ mi_ below meth cd_ A ls hC hB hl
  obtain ⟨hx, hb, hr, hml, hown, hts, hlocks, hK, hA⟩ := id hC
  have lk_7 := hts (.fieldLink RX8 7 "RiddlePrisonModel" "now" "[I") (by decide +kernel)
  have in_X8 := (fun w h => List.mem_cons_of_mem _ (List.mem_append_right _ h) : ∀ w ∈ wsX80, w ∈ wsX8_tries)
  refine lv_aload_n hx hb dX8_tries_0 rfl (lv_at hl 0 rfl) ?_
  refine lv_iload_n hx hb dX8_tries_1 rfl (lv_at hl 2 rfl) ?_
  refine lv_aload_n hx hb dX8_tries_2 rfl (lv_at hl 0 rfl) ?_
  refine j_get (20, 0, 0) 0 (v := .ref (G.2.2.1 (21, 41, 0))) hC hB in_X8 lk_7 dX8_tries_3 jk20 rfl rfl (by decide) rfl ?_
  refine lv_bipush (v := nI 51) hx hb dX8_tries_6 (by decide) ?_
  refine lv_iload_n hx hb dX8_tries_8 rfl (lv_at hl 1 rfl) ?_
  refine jn_iadd hx hb dX8_tries_9 ?_
  refine j_ild 41 (51 + m) hC hB dX8_tries_10 (by decide) rfl (by simp only [lenI_41]; omega) ?_
  refine j_eqi (y := (I 41) (51 + m)) rfl ?_
  refine j_cvi (20, 0, 0) [.int (nI d), .int ((I 41) (51 + m))] hC hB hl.1 (c_X8_behind l_ G I J O d ((I 41) (51 + m)) (by omega)) (cwV 2 hts gX8_tries_X8_behind rfl rfl rfl (by decide +kernel) ⟨by decide, by decide⟩) dX8_tries_11 jk20 rfl rfl rfl rfl (Nat.le_of_ble_eq_true rfl) (fun r_11 u_11 H locs hp_11 hB => ?_)
  obtain ⟨rfl, rfl⟩ := hp_11
  refine lv_istore_n (lv' := [(3, .int (bhF (I 41) d ((I 41) (51 + m)))), (0, .ref (G.2.2.1 (20, 0, 0))), (1, .int (nI m)), (2, .int (nI d))]) hx hb dX8_tries_14 rfl hl (by decide) rfl (fun ls hl => ?_)
  refine lv_iload_n hx hb dX8_tries_15 rfl (lv_at hl 0 rfl) ?_
  refine lv_bipush (v := (-4 : Int32)) hx hb dX8_tries_16 (by decide) ?_
  refine lv_icmp_eq (tgt := 52) hx hb dX8_tries_18 (by decide) (fun c_18 => ?_) (fun c_18 => ?_)
  · refine lv_iload_n hx hb dX8_tries_52 rfl (lv_at hl 0 rfl) ?_
    refine lv_bipush (v := (-4 : Int32)) hx hb dX8_tries_53 (by decide) ?_
    refine lv_icmp_eq (tgt := 89) hx hb dX8_tries_55 (by decide) (fun c_55 => ?_) (fun c_55 => ?_)
    · exact j_vret hC hB dX8_tries_89 (by simp [triesR, sr_id, eq_true c_18, eq_true c_55])
    · exact absurd c_18 c_55
  · refine lv_aload_n hx hb dX8_tries_21 rfl (lv_at hl 1 rfl) ?_
    refine lv_iload_n hx hb dX8_tries_22 rfl (lv_at hl 2 rfl) ?_
    refine lv_iload_n hx hb dX8_tries_23 rfl (lv_at hl 3 rfl) ?_
    refine lv_aload_n hx hb dX8_tries_24 rfl (lv_at hl 1 rfl) ?_
    refine j_get (20, 0, 0) 0 (v := .ref (G.2.2.1 (21, 41, 0))) hC hB in_X8 lk_7 dX8_tries_25 jk20 rfl rfl (by decide) rfl ?_
    refine lv_bipush (v := nI 51) hx hb dX8_tries_28 (by decide) ?_
    refine lv_iload_n hx hb dX8_tries_30 rfl (lv_at hl 2 rfl) ?_
    refine jn_iadd hx hb dX8_tries_31 ?_
    refine j_ild 41 (51 + m) hC hB dX8_tries_32 (by decide) rfl (by simp only [lenI_41]; omega) ?_
    refine j_eqi (y := (I 41) (51 + m)) rfl ?_
    refine j_cvi (20, 0, 0) [.int (nI m), .int (nI d), .int ((I 41) (51 + m))] hC hB hl.1 (c_X8_passes l_ G I J O m d ((I 41) (51 + m)) (by omega) (by omega)) (cwV 3 hts gX8_tries_X8_passes rfl rfl rfl (by decide +kernel) ⟨by decide, by decide⟩) dX8_tries_33 jk20 rfl rfl rfl rfl (Nat.le_of_ble_eq_true rfl) (fun r_33 u_33 H locs hp_33 hB => ?_)
    obtain ⟨rfl, rfl⟩ := hp_33
    refine jb_if_eq (tgt := 52) hx hb dX8_tries_36 (by decide) (fun c_36 => ?_) (fun c_36 => ?_)
    · refine lv_iload_n hx hb dX8_tries_52 rfl (lv_at hl 0 rfl) ?_
      refine lv_bipush (v := (-4 : Int32)) hx hb dX8_tries_53 (by decide) ?_
      refine lv_icmp_eq (tgt := 89) hx hb dX8_tries_55 (by decide) (fun c_55 => ?_) (fun c_55 => ?_)
      · exact absurd c_55 c_18
      · refine lv_aload_n hx hb dX8_tries_58 rfl (lv_at hl 1 rfl) ?_
        refine j_get (20, 0, 0) 0 (v := .ref (G.2.2.1 (21, 41, 0))) hC hB in_X8 lk_7 dX8_tries_59 jk20 rfl rfl (by decide) rfl ?_
        refine lv_bipush (v := nI 59) hx hb dX8_tries_62 (by decide) ?_
        refine lv_iload_n hx hb dX8_tries_64 rfl (lv_at hl 2 rfl) ?_
        refine jn_iadd hx hb dX8_tries_65 ?_
        refine lv_dup2_11 hx hb dX8_tries_66 rfl rfl ?_
        refine j_ild 41 (59 + m) hC hB dX8_tries_67 (by decide) rfl (by simp only [lenI_41]; omega) ?_
        refine j_eqi (y := (I 41) (59 + m)) rfl ?_
        refine lv_aload_n hx hb dX8_tries_68 rfl (lv_at hl 1 rfl) ?_
        refine j_get (20, 0, 0) 0 (v := .ref (G.2.2.1 (21, 41, 0))) hC hB in_X8 lk_7 dX8_tries_69 jk20 rfl rfl (by decide) rfl ?_
        refine lv_bipush (v := nI 59) hx hb dX8_tries_72 (by decide) ?_
        refine lv_iload_n hx hb dX8_tries_74 rfl (lv_at hl 2 rfl) ?_
        refine jn_iadd hx hb dX8_tries_75 ?_
        refine j_ild 41 (59 + m) hC hB dX8_tries_76 (by decide) rfl (by simp only [lenI_41]; omega) ?_
        refine j_eqi (y := (I 41) (59 + m)) rfl ?_
        refine lv_bipush (v := nI 99) hx hb dX8_tries_77 (by decide) ?_
        refine lv_icmp_ge (tgt := 86) hx hb dX8_tries_79 (by decide) (fun c_79 => ?_) (fun c_79 => ?_)
        · refine lv_iconst (v := nI 0) hx hb dX8_tries_86 (by decide) ?_
          refine lv_iadd hx hb dX8_tries_87 ?_
          refine j_ist 41 (59 + m) hC hB dX8_tries_88 (by decide) rfl (by simp only [lenI_41]; omega) (fun H locs hB => ?_)
          have hB : jB G A s_.heap (sr I 41 (upd (I 41) (59 + m) (((I 41) (59 + m)) + (nI 0))), J, O) H locs := by rw [show sr I 41 (upd (I 41) (59 + m) (((I 41) (59 + m)) + (nI 0))) = u2 I 41 (59 + m) (((I 41) (59 + m)) + (nI 0)) from (u2_eq _ _ _ _).symm]; exact hB
          exact j_vret hC hB dX8_tries_89 (by simp [triesR, sr_id, c_18, c_36, c_55, c_79])
        · refine lv_iconst (v := nI 1) hx hb dX8_tries_82 (by decide) ?_
          refine lv_goto (tgt := 87) hx hb dX8_tries_83 (by decide) ?_
          refine lv_iadd hx hb dX8_tries_87 ?_
          refine j_ist 41 (59 + m) hC hB dX8_tries_88 (by decide) rfl (by simp only [lenI_41]; omega) (fun H locs hB => ?_)
          have hB : jB G A s_.heap (sr I 41 (upd (I 41) (59 + m) (((I 41) (59 + m)) + (nI 1))), J, O) H locs := by rw [show sr I 41 (upd (I 41) (59 + m) (((I 41) (59 + m)) + (nI 1))) = u2 I 41 (59 + m) (((I 41) (59 + m)) + (nI 1)) from (u2_eq _ _ _ _).symm]; exact hB
          exact j_vret hC hB dX8_tries_89 (by simp [triesR, sr_id, c_18, c_36, c_55, c_79])
    · refine lv_aload_n hx hb dX8_tries_39 rfl (lv_at hl 1 rfl) ?_
      refine j_get (20, 0, 0) 0 (v := .ref (G.2.2.1 (21, 41, 0))) hC hB in_X8 lk_7 dX8_tries_40 jk20 rfl rfl (by decide) rfl ?_
      refine lv_bipush (v := nI 51) hx hb dX8_tries_43 (by decide) ?_
      refine lv_iload_n hx hb dX8_tries_45 rfl (lv_at hl 2 rfl) ?_
      refine jn_iadd hx hb dX8_tries_46 ?_
      refine lv_iload_n hx hb dX8_tries_47 rfl (lv_at hl 0 rfl) ?_
      refine j_ist 41 (51 + m) hC hB dX8_tries_48 (by decide) rfl (by simp only [lenI_41]; omega) (fun H locs hB => ?_)
      have hB : jB G A s_.heap (sr I 41 (upd (I 41) (51 + m) (bhF (I 41) d ((I 41) (51 + m)))), J, O) H locs := by rw [show sr I 41 (upd (I 41) (51 + m) (bhF (I 41) d ((I 41) (51 + m)))) = u2 I 41 (51 + m) (bhF (I 41) d ((I 41) (51 + m))) from (u2_eq _ _ _ _).symm]; exact hB
      refine lv_goto (tgt := 89) hx hb dX8_tries_49 (by decide) ?_
      exact j_vret hC hB dX8_tries_89 (by simp [triesR, sr_id, c_18, c_36])

set_option maxHeartbeats 4000000 in
set_option maxRecDepth 100000 in
theorem c_X8_door (l_ : Launch) (G : jG) (I : Nat → Nat → Int32) (J : Nat → Nat → Int64) (O : Nat → Nat → Nat) (cell other sort hard : Int32) {nd : Nat} (hnd : nd ≤ 10) (hD : I 41 0 = nI nd) : jMi l_ G yX8_door wsX8_door ({ frames := 2, cells := 0, slots := 0, locals := 45 }) [.ref (G.2.2.1 (20, 0, 0)), .int cell, .int other, .int sort, .int hard] (I, J, O) (fun r u => r = doorA (I 41) cell other sort hard ∧ u = (sr I 41 (doorR (I 41) cell other sort hard), J, O)) := by
  refine jMi_of (cc := cX8_door) (maxL := 5) (ret := (some .int)) (lv0 := [(0, .ref (G.2.2.1 (20, 0, 0))), (1, .int cell), (2, .int other), (3, .int sort), (4, .int hard)]) (by decide) rfl (Nat.le_of_ble_eq_true rfl) rfl ?_
  intro pg_ ev_ s_ mi_ below meth cd_ A ls hC hB hl
  obtain ⟨hx, hb, hr, hml, hown, hts, hlocks, hK, hA⟩ := id hC
  have lk_7 := hts (.fieldLink RX8 7 "RiddlePrisonModel" "now" "[I") (by decide +kernel)
  have in_X8 := (fun w h => List.mem_cons_of_mem _ (List.mem_append_right _ h) : ∀ w ∈ wsX80, w ∈ wsX8_door)
  refine lv_iload_n hx hb dX8_door_0 rfl (lv_at hl 1 rfl) ?_
  refine j_csi [.int cell] hC hB hl.1 (c_X8_isCell l_ G I J O cell) (va_cwS 1 hts gX8_door_X8_isCell rfl rfl rfl (by decide +kernel) ⟨by decide, by decide⟩) dX8_door_1 rfl rfl (Nat.le_of_ble_eq_true rfl) (fun r_1 u_1 H locs hp_1 hB => ?_)
  obtain ⟨rfl, rfl⟩ := hp_1
  refine jb_if_eq (tgt := 39) hx hb dX8_door_4 (by decide) (fun c_4 => ?_) (fun c_4 => ?_)
  · refine lv_iconst (v := (-1 : Int32)) hx hb dX8_door_39 (by decide) ?_
    exact j_iret hC hB dX8_door_40 (⟨by simp [doorA, doorR, doorOk, hardB, hD, nIq (show nd < 2147483648 by omega) (show 10 < 2147483648 by decide), c_4], by simp [doorA, doorR, doorOk, hardB, hD, nIq (show nd < 2147483648 by omega) (show 10 < 2147483648 by decide), sr_id, c_4]⟩)
  · refine lv_iload_n hx hb dX8_door_7 rfl (lv_at hl 2 rfl) ?_
    refine j_csi [.int other] hC hB hl.1 (c_X8_isCell l_ G I J O other) (va_cwS 1 hts gX8_door_X8_isCell rfl rfl rfl (by decide +kernel) ⟨by decide, by decide⟩) dX8_door_8 rfl rfl (Nat.le_of_ble_eq_true rfl) (fun r_8 u_8 H locs hp_8 hB => ?_)
    obtain ⟨rfl, rfl⟩ := hp_8
    refine jb_if_eq (tgt := 39) hx hb dX8_door_11 (by decide) (fun c_11 => ?_) (fun c_11 => ?_)
    · refine lv_iconst (v := (-1 : Int32)) hx hb dX8_door_39 (by decide) ?_
      exact j_iret hC hB dX8_door_40 (⟨by simp [doorA, doorR, doorOk, hardB, hD, nIq (show nd < 2147483648 by omega) (show 10 < 2147483648 by decide), c_4, c_11], by simp [doorA, doorR, doorOk, hardB, hD, nIq (show nd < 2147483648 by omega) (show 10 < 2147483648 by decide), sr_id, c_4, c_11]⟩)
    · refine lv_iload_n hx hb dX8_door_14 rfl (lv_at hl 1 rfl) ?_
      refine lv_iload_n hx hb dX8_door_15 rfl (lv_at hl 2 rfl) ?_
      refine lv_icmp_eq (tgt := 39) hx hb dX8_door_16 (by decide) (fun c_16 => ?_) (fun c_16 => ?_)
      · refine lv_iconst (v := (-1 : Int32)) hx hb dX8_door_39 (by decide) ?_
        exact j_iret hC hB dX8_door_40 (⟨by simp [doorA, doorR, doorOk, hardB, hD, nIq (show nd < 2147483648 by omega) (show 10 < 2147483648 by decide), c_4, c_11, eq_true c_16], by simp [doorA, doorR, doorOk, hardB, hD, nIq (show nd < 2147483648 by omega) (show 10 < 2147483648 by decide), sr_id, c_4, c_11, eq_true c_16]⟩)
      · refine lv_iload_n hx hb dX8_door_19 rfl (lv_at hl 3 rfl) ?_
        refine j_csi [.int sort] hC hB hl.1 (c_X8_isSort l_ G I J O sort) (va_cwS 1 hts gX8_door_X8_isSort rfl rfl rfl (by decide +kernel) ⟨by decide, by decide⟩) dX8_door_20 rfl rfl (Nat.le_of_ble_eq_true rfl) (fun r_20 u_20 H locs hp_20 hB => ?_)
        obtain ⟨rfl, rfl⟩ := hp_20
        refine jb_if_eq (tgt := 39) hx hb dX8_door_23 (by decide) (fun c_23 => ?_) (fun c_23 => ?_)
        · refine lv_iconst (v := (-1 : Int32)) hx hb dX8_door_39 (by decide) ?_
          exact j_iret hC hB dX8_door_40 (⟨by simp [doorA, doorR, doorOk, hardB, hD, nIq (show nd < 2147483648 by omega) (show 10 < 2147483648 by decide), c_4, c_11, c_16, c_23], by simp [doorA, doorR, doorOk, hardB, hD, nIq (show nd < 2147483648 by omega) (show 10 < 2147483648 by decide), sr_id, c_4, c_11, c_16, c_23]⟩)
        · refine lv_iload hx hb dX8_door_26 (lv_at hl 4 rfl) ?_
          refine lv_i2l (v := hard.toInt64) hx hb dX8_door_28 rfl ?_
          refine lv_lconst (v := 1) hx hb dX8_door_29 rfl ?_
          refine lv_ldc2 (v := 19) hx hb hown (hts (.constantLong RX8 77 (19)) (by decide +kernel)) dX8_door_30 ?_
          refine j_csi [.long hard.toInt64, .long ((1 : Int64)), .long ((19 : Int64))] hC hB hl.1 (c_X8_in l_ G I J O hard.toInt64 ((1 : Int64)) ((19 : Int64))) (va_cwS 3 hts gX8_door_X8_in rfl rfl rfl (by decide +kernel) ⟨by decide, by decide⟩) dX8_door_33 rfl rfl (Nat.le_of_ble_eq_true rfl) (fun r_33 u_33 H locs hp_33 hB => ?_)
          obtain ⟨rfl, rfl⟩ := hp_33
          refine jb_if_ne (tgt := 41) hx hb dX8_door_36 (by decide) (fun c_36 => ?_) (fun c_36 => ?_)
          · refine lv_aload_n hx hb dX8_door_41 rfl (lv_at hl 0 rfl) ?_
            refine j_get (20, 0, 0) 0 (v := .ref (G.2.2.1 (21, 41, 0))) hC hB in_X8 lk_7 dX8_door_42 jk20 rfl rfl (by decide) rfl ?_
            refine lv_iconst (v := nI 0) hx hb dX8_door_45 (by decide) ?_
            refine j_ild 41 0 hC hB dX8_door_46 (by decide) rfl (by simp only [lenI_41]; omega) ?_
            refine j_eqi (x := I 41 0) (y := nI nd) (hD) ?_
            refine lv_bipush (v := nI 10) hx hb dX8_door_47 (by decide) ?_
            refine jn_icmp_ne (tgt := 55) hx hb dX8_door_49 (by decide) (by omega) (by omega) (fun c_49 => ?_) (fun c_49 => ?_)
            · refine lv_aload_n hx hb dX8_door_55 rfl (lv_at hl 0 rfl) ?_
              refine j_get (20, 0, 0) 0 (v := .ref (G.2.2.1 (21, 41, 0))) hC hB in_X8 lk_7 dX8_door_56 jk20 rfl rfl (by decide) rfl ?_
              refine lv_iload_n hx hb dX8_door_59 rfl (lv_at hl 1 rfl) ?_
              refine lv_iload_n hx hb dX8_door_60 rfl (lv_at hl 2 rfl) ?_
              refine lv_iload_n hx hb dX8_door_61 rfl (lv_at hl 3 rfl) ?_
              refine lv_iload hx hb dX8_door_62 (lv_at hl 4 rfl) ?_
              refine j_csv [.ref (G.2.2.1 (21, 41, 0)), .int cell, .int other, .int sort, .int hard] hC hB hl.1 (c_X8_layDoor_41 l_ G I J O cell other sort hard (by omega) (hD)) (va_cwS 5 hts gX8_door_X8_layDoor rfl rfl rfl (by decide +kernel) ⟨by decide, by decide⟩) dX8_door_64 rfl rfl (Nat.le_of_ble_eq_true rfl) (fun u_64 H locs hp_64 hB => ?_)
              obtain rfl := hp_64
              have hB : jB G A s_.heap (sr I 41 (layDoorR (I 41) cell other sort hard), J, O) H locs := hB
              refine lv_aload_n hx hb dX8_door_67 rfl (lv_at hl 0 rfl) ?_
              refine j_get (20, 0, 0) 0 (v := .ref (G.2.2.1 (21, 41, 0))) hC hB in_X8 lk_7 dX8_door_68 jk20 rfl rfl (by decide) rfl ?_
              refine lv_iconst (v := nI 0) hx hb dX8_door_71 (by decide) ?_
              refine j_ild 41 0 hC hB dX8_door_72 (by decide) rfl (by simp only [lenI_41]; omega) ?_
              refine j_eqi (x := (sr I 41 (layDoorR (I 41) cell other sort hard)) 41 0) (y := nI (nd + 1)) ((congrFun sr_self _).trans (layDoorR_0 (by omega) (hD))) ?_
              refine lv_iconst (v := nI 1) hx hb dX8_door_73 (by decide) ?_
              refine jn_isub hx hb dX8_door_74 (by omega) ?_
              exact j_iret hC hB dX8_door_75 (⟨by simp [doorA, doorR, doorOk, hardB, hD, nIq (show nd < 2147483648 by omega) (show 10 < 2147483648 by decide), c_4, c_11, c_16, c_23, c_36, c_49], by simp [doorA, doorR, doorOk, hardB, hD, nIq (show nd < 2147483648 by omega) (show 10 < 2147483648 by decide), sr_id, c_4, c_11, c_16, c_23, c_36, c_49]⟩)
            · refine lv_bipush (v := (-3 : Int32)) hx hb dX8_door_52 (by decide) ?_
              exact j_iret hC hB dX8_door_54 (⟨by simp [doorA, doorR, doorOk, hardB, hD, nIq (show nd < 2147483648 by omega) (show 10 < 2147483648 by decide), c_4, c_11, c_16, c_23, c_36, eq_true c_49], by simp [doorA, doorR, doorOk, hardB, hD, nIq (show nd < 2147483648 by omega) (show 10 < 2147483648 by decide), sr_id, c_4, c_11, c_16, c_23, c_36, eq_true c_49]⟩)
          · refine lv_iconst (v := (-1 : Int32)) hx hb dX8_door_39 (by decide) ?_
            exact j_iret hC hB dX8_door_40 (⟨by simp [doorA, doorR, doorOk, hardB, hD, nIq (show nd < 2147483648 by omega) (show 10 < 2147483648 by decide), c_4, c_11, c_16, c_23, c_36], by simp [doorA, doorR, doorOk, hardB, hD, nIq (show nd < 2147483648 by omega) (show 10 < 2147483648 by decide), sr_id, c_4, c_11, c_16, c_23, c_36]⟩)

set_option maxHeartbeats 4000000 in
set_option maxRecDepth 100000 in
theorem c_X8_man (l_ : Launch) (G : jG) (I : Nat → Nat → Int32) (J : Nat → Nat → Int64) (O : Nat → Nat → Nat) (kind wit sort cell : Int32) {nm : Nat} (hnm : nm ≤ 4) (hM : I 41 1 = nI nm) : jMi l_ G yX8_man wsX8_man ({ frames := 2, cells := 0, slots := 0, locals := 45 }) [.ref (G.2.2.1 (20, 0, 0)), .int kind, .int wit, .int sort, .int cell] (I, J, O) (fun r u => r = manA (I 41) kind wit sort cell ∧ u = (sr I 41 (manR (I 41) kind wit sort cell), J, O)) := by
  refine jMi_of (cc := cX8_man) (maxL := 5) (ret := (some .int)) (lv0 := [(0, .ref (G.2.2.1 (20, 0, 0))), (1, .int kind), (2, .int wit), (3, .int sort), (4, .int cell)]) (by decide) rfl (Nat.le_of_ble_eq_true rfl) rfl ?_
  intro pg_ ev_ s_ mi_ below meth cd_ A ls hC hB hl
  obtain ⟨hx, hb, hr, hml, hown, hts, hlocks, hK, hA⟩ := id hC
  have lk_7 := hts (.fieldLink RX8 7 "RiddlePrisonModel" "now" "[I") (by decide +kernel)
  have in_X8 := (fun w h => List.mem_cons_of_mem _ (List.mem_append_right _ h) : ∀ w ∈ wsX80, w ∈ wsX8_man)
  refine lv_iload_n hx hb dX8_man_0 rfl (lv_at hl 1 rfl) ?_
  refine lv_i2l (v := kind.toInt64) hx hb dX8_man_1 rfl ?_
  refine lv_lconst (v := 0) hx hb dX8_man_2 rfl ?_
  refine lv_ldc2 (v := 4) hx hb hown (hts (.constantLong RX8 83 (4)) (by decide +kernel)) dX8_man_3 ?_
  refine j_csi [.long kind.toInt64, .long ((0 : Int64)), .long ((4 : Int64))] hC hB hl.1 (c_X8_in l_ G I J O kind.toInt64 ((0 : Int64)) ((4 : Int64))) (va_cwS 3 hts gX8_man_X8_in rfl rfl rfl (by decide +kernel) ⟨by decide, by decide⟩) dX8_man_6 rfl rfl (Nat.le_of_ble_eq_true rfl) (fun r_6 u_6 H locs hp_6 hB => ?_)
  obtain ⟨rfl, rfl⟩ := hp_6
  refine j_eqi (y := b2 (isB kind 5)) (by rw [inR_isB (n := 5) (by decide)]) ?_
  refine jb_if_eq (tgt := 39) hx hb dX8_man_9 (by decide) (fun c_9 => ?_) (fun c_9 => ?_)
  · refine lv_iconst (v := (-1 : Int32)) hx hb dX8_man_39 (by decide) ?_
    exact j_iret hC hB dX8_man_40 (⟨by simp [manA, manR, manOk, hM, nIq (show nm < 2147483648 by omega) (show 4 < 2147483648 by decide), c_9], by simp [manA, manR, manOk, hM, nIq (show nm < 2147483648 by omega) (show 4 < 2147483648 by decide), sr_id, c_9]⟩)
  · refine lv_iload_n hx hb dX8_man_12 rfl (lv_at hl 2 rfl) ?_
    refine lv_i2l (v := wit.toInt64) hx hb dX8_man_13 rfl ?_
    refine lv_lconst (v := 0) hx hb dX8_man_14 rfl ?_
    refine lv_ldc2 (v := 9) hx hb hown (hts (.constantLong RX8 85 (9)) (by decide +kernel)) dX8_man_15 ?_
    refine j_csi [.long wit.toInt64, .long ((0 : Int64)), .long ((9 : Int64))] hC hB hl.1 (c_X8_in l_ G I J O wit.toInt64 ((0 : Int64)) ((9 : Int64))) (va_cwS 3 hts gX8_man_X8_in rfl rfl rfl (by decide +kernel) ⟨by decide, by decide⟩) dX8_man_18 rfl rfl (Nat.le_of_ble_eq_true rfl) (fun r_18 u_18 H locs hp_18 hB => ?_)
    obtain ⟨rfl, rfl⟩ := hp_18
    refine j_eqi (y := b2 (isB wit 10)) (by rw [inR_isB (n := 10) (by decide)]) ?_
    refine jb_if_eq (tgt := 39) hx hb dX8_man_21 (by decide) (fun c_21 => ?_) (fun c_21 => ?_)
    · refine lv_iconst (v := (-1 : Int32)) hx hb dX8_man_39 (by decide) ?_
      exact j_iret hC hB dX8_man_40 (⟨by simp [manA, manR, manOk, hM, nIq (show nm < 2147483648 by omega) (show 4 < 2147483648 by decide), c_9, c_21], by simp [manA, manR, manOk, hM, nIq (show nm < 2147483648 by omega) (show 4 < 2147483648 by decide), sr_id, c_9, c_21]⟩)
    · refine lv_iload_n hx hb dX8_man_24 rfl (lv_at hl 3 rfl) ?_
      refine j_csi [.int sort] hC hB hl.1 (c_X8_isSort l_ G I J O sort) (va_cwS 1 hts gX8_man_X8_isSort rfl rfl rfl (by decide +kernel) ⟨by decide, by decide⟩) dX8_man_25 rfl rfl (Nat.le_of_ble_eq_true rfl) (fun r_25 u_25 H locs hp_25 hB => ?_)
      obtain ⟨rfl, rfl⟩ := hp_25
      refine jb_if_eq (tgt := 39) hx hb dX8_man_28 (by decide) (fun c_28 => ?_) (fun c_28 => ?_)
      · refine lv_iconst (v := (-1 : Int32)) hx hb dX8_man_39 (by decide) ?_
        exact j_iret hC hB dX8_man_40 (⟨by simp [manA, manR, manOk, hM, nIq (show nm < 2147483648 by omega) (show 4 < 2147483648 by decide), c_9, c_21, c_28], by simp [manA, manR, manOk, hM, nIq (show nm < 2147483648 by omega) (show 4 < 2147483648 by decide), sr_id, c_9, c_21, c_28]⟩)
      · refine lv_iload hx hb dX8_man_31 (lv_at hl 4 rfl) ?_
        refine j_csi [.int cell] hC hB hl.1 (c_X8_isCell l_ G I J O cell) (va_cwS 1 hts gX8_man_X8_isCell rfl rfl rfl (by decide +kernel) ⟨by decide, by decide⟩) dX8_man_33 rfl rfl (Nat.le_of_ble_eq_true rfl) (fun r_33 u_33 H locs hp_33 hB => ?_)
        obtain ⟨rfl, rfl⟩ := hp_33
        refine jb_if_ne (tgt := 41) hx hb dX8_man_36 (by decide) (fun c_36 => ?_) (fun c_36 => ?_)
        · refine lv_aload_n hx hb dX8_man_41 rfl (lv_at hl 0 rfl) ?_
          refine j_get (20, 0, 0) 0 (v := .ref (G.2.2.1 (21, 41, 0))) hC hB in_X8 lk_7 dX8_man_42 jk20 rfl rfl (by decide) rfl ?_
          refine lv_iconst (v := nI 1) hx hb dX8_man_45 (by decide) ?_
          refine j_ild 41 1 hC hB dX8_man_46 (by decide) rfl (by simp only [lenI_41]; omega) ?_
          refine j_eqi (x := I 41 1) (y := nI nm) (hM) ?_
          refine lv_iconst (v := nI 4) hx hb dX8_man_47 (by decide) ?_
          refine jn_icmp_ne (tgt := 54) hx hb dX8_man_48 (by decide) (by omega) (by omega) (fun c_48 => ?_) (fun c_48 => ?_)
          · refine lv_aload_n hx hb dX8_man_54 rfl (lv_at hl 0 rfl) ?_
            refine j_get (20, 0, 0) 0 (v := .ref (G.2.2.1 (21, 41, 0))) hC hB in_X8 lk_7 dX8_man_55 jk20 rfl rfl (by decide) rfl ?_
            refine lv_iload_n hx hb dX8_man_58 rfl (lv_at hl 1 rfl) ?_
            refine lv_iload_n hx hb dX8_man_59 rfl (lv_at hl 2 rfl) ?_
            refine lv_iload_n hx hb dX8_man_60 rfl (lv_at hl 3 rfl) ?_
            refine lv_iload hx hb dX8_man_61 (lv_at hl 4 rfl) ?_
            refine j_csv [.ref (G.2.2.1 (21, 41, 0)), .int kind, .int wit, .int sort, .int cell] hC hB hl.1 (c_X8_layMan_41 l_ G I J O kind wit sort cell (by omega) (hM)) (va_cwS 5 hts gX8_man_X8_layMan rfl rfl rfl (by decide +kernel) ⟨by decide, by decide⟩) dX8_man_63 rfl rfl (Nat.le_of_ble_eq_true rfl) (fun u_63 H locs hp_63 hB => ?_)
            obtain rfl := hp_63
            have hB : jB G A s_.heap (sr I 41 (layManR (I 41) kind wit sort cell), J, O) H locs := hB
            refine lv_aload_n hx hb dX8_man_66 rfl (lv_at hl 0 rfl) ?_
            refine j_get (20, 0, 0) 0 (v := .ref (G.2.2.1 (21, 41, 0))) hC hB in_X8 lk_7 dX8_man_67 jk20 rfl rfl (by decide) rfl ?_
            refine lv_iconst (v := nI 1) hx hb dX8_man_70 (by decide) ?_
            refine j_ild 41 1 hC hB dX8_man_71 (by decide) rfl (by simp only [lenI_41]; omega) ?_
            refine j_eqi (x := (sr I 41 (layManR (I 41) kind wit sort cell)) 41 1) (y := nI (nm + 1)) ((congrFun sr_self _).trans (layManR_1 (by omega) (hM))) ?_
            refine lv_iconst (v := nI 1) hx hb dX8_man_72 (by decide) ?_
            refine jn_isub hx hb dX8_man_73 (by omega) ?_
            exact j_iret hC hB dX8_man_74 (⟨by simp [manA, manR, manOk, hM, nIq (show nm < 2147483648 by omega) (show 4 < 2147483648 by decide), c_9, c_21, c_28, c_36, c_48], by simp [manA, manR, manOk, hM, nIq (show nm < 2147483648 by omega) (show 4 < 2147483648 by decide), sr_id, c_9, c_21, c_28, c_36, c_48]⟩)
          · refine lv_bipush (v := (-3 : Int32)) hx hb dX8_man_51 (by decide) ?_
            exact j_iret hC hB dX8_man_53 (⟨by simp [manA, manR, manOk, hM, nIq (show nm < 2147483648 by omega) (show 4 < 2147483648 by decide), c_9, c_21, c_28, c_36, eq_true c_48], by simp [manA, manR, manOk, hM, nIq (show nm < 2147483648 by omega) (show 4 < 2147483648 by decide), sr_id, c_9, c_21, c_28, c_36, eq_true c_48]⟩)
        · refine lv_iconst (v := (-1 : Int32)) hx hb dX8_man_39 (by decide) ?_
          exact j_iret hC hB dX8_man_40 (⟨by simp [manA, manR, manOk, hM, nIq (show nm < 2147483648 by omega) (show 4 < 2147483648 by decide), c_9, c_21, c_28, c_36], by simp [manA, manR, manOk, hM, nIq (show nm < 2147483648 by omega) (show 4 < 2147483648 by decide), sr_id, c_9, c_21, c_28, c_36]⟩)

set_option maxHeartbeats 4000000 in
set_option maxRecDepth 100000 in
theorem c_X8_attempt (l_ : Launch) (G : jG) (I : Nat → Nat → Int32) (J : Nat → Nat → Int64) (O : Nat → Nat → Nat) (man door : Int32) {nd : Nat} (hnd : nd ≤ 10) (hD : I 41 0 = nI nd) {nm : Nat} (hnm : nm ≤ 4) (hM : I 41 1 = nI nm) {h : Nat} (hh : h ≤ 8) (hH : I 41 2 = nI h) : jMi l_ G yX8_attempt wsX8_attempt ({ frames := 4, cells := 0, slots := 0, locals := 96 }) [.ref (G.2.2.1 (20, 0, 0)), .int man, .int door] (I, J, O) (fun r u => r = attA (I 41) nd nm man door ∧ u = (sr I 41 (attR (I 41) nd nm man door), J, O)) := by
  refine jMi_of (cc := cX8_attempt) (maxL := 3) (ret := (some .int)) (lv0 := [(0, .ref (G.2.2.1 (20, 0, 0))), (1, .int man), (2, .int door)]) (by decide) rfl (Nat.le_of_ble_eq_true rfl) rfl ?_
  intro pg_ ev_ s_ mi_ below meth cd_ A ls hC hB hl
  obtain ⟨hx, hb, hr, hml, hown, hts, hlocks, hK, hA⟩ := id hC
  have lk_7 := hts (.fieldLink RX8 7 "RiddlePrisonModel" "now" "[I") (by decide +kernel)
  have in_X8 := (fun w h => List.mem_cons_of_mem _ (List.mem_append_right _ h) : ∀ w ∈ wsX80, w ∈ wsX8_attempt)
  refine lv_aload_n hx hb dX8_attempt_0 rfl (lv_at hl 0 rfl) ?_
  refine lv_iload_n hx hb dX8_attempt_1 rfl (lv_at hl 1 rfl) ?_
  refine j_cvi (20, 0, 0) [.int man] hC hB hl.1 (c_X8_isMan l_ G I J O man (by omega) (hM)) (cwV 1 hts gX8_attempt_X8_isMan rfl rfl rfl (by decide +kernel) ⟨by decide, by decide⟩) dX8_attempt_2 jk20 rfl rfl rfl rfl (Nat.le_of_ble_eq_true rfl) (fun r_2 u_2 H locs hp_2 hB => ?_)
  obtain ⟨rfl, rfl⟩ := hp_2
  refine jb_if_eq (tgt := 16) hx hb dX8_attempt_5 (by decide) (fun c_5 => ?_) (fun c_5 => ?_)
  · refine lv_iconst (v := (-1 : Int32)) hx hb dX8_attempt_16 (by decide) ?_
    exact j_iret hC hB dX8_attempt_17 (⟨by simp [attA, attR, c_5], by simp [attA, attR, sr_id, c_5]⟩)
  · obtain ⟨mm, hmm, rfl⟩ := isB_nat c_5 (by omega)
    refine lv_aload_n hx hb dX8_attempt_8 rfl (lv_at hl 0 rfl) ?_
    refine lv_iload_n hx hb dX8_attempt_9 rfl (lv_at hl 2 rfl) ?_
    refine j_cvi (20, 0, 0) [.int door] hC hB hl.1 (c_X8_isDoor l_ G I J O door (by omega) (hD)) (cwV 1 hts gX8_attempt_X8_isDoor rfl rfl rfl (by decide +kernel) ⟨by decide, by decide⟩) dX8_attempt_10 jk20 rfl rfl rfl rfl (Nat.le_of_ble_eq_true rfl) (fun r_10 u_10 H locs hp_10 hB => ?_)
    obtain ⟨rfl, rfl⟩ := hp_10
    refine jb_if_ne (tgt := 18) hx hb dX8_attempt_13 (by decide) (fun c_13 => ?_) (fun c_13 => ?_)
    · obtain ⟨dd, hdd, rfl⟩ := isB_nat c_13 (by omega)
      refine lv_aload_n hx hb dX8_attempt_18 rfl (lv_at hl 0 rfl) ?_
      refine lv_iload_n hx hb dX8_attempt_19 rfl (lv_at hl 2 rfl) ?_
      refine lv_aload_n hx hb dX8_attempt_20 rfl (lv_at hl 0 rfl) ?_
      refine j_get (20, 0, 0) 0 (v := .ref (G.2.2.1 (21, 41, 0))) hC hB in_X8 lk_7 dX8_attempt_21 jk20 rfl rfl (by decide) rfl ?_
      refine lv_bipush (v := nI 51) hx hb dX8_attempt_24 (by decide) ?_
      refine lv_iload_n hx hb dX8_attempt_26 rfl (lv_at hl 1 rfl) ?_
      refine jn_iadd hx hb dX8_attempt_27 ?_
      refine j_ild 41 (51 + mm) hC hB dX8_attempt_28 (by decide) rfl (by simp only [lenI_41]; omega) ?_
      refine j_eqi (y := (I 41) (51 + mm)) rfl ?_
      refine j_cvi (20, 0, 0) [.int (nI dd), .int ((I 41) (51 + mm))] hC hB hl.1 (c_X8_behind l_ G I J O dd ((I 41) (51 + mm)) (by omega)) (cwV 2 hts gX8_attempt_X8_behind rfl rfl rfl (by decide +kernel) ⟨by decide, by decide⟩) dX8_attempt_29 jk20 rfl rfl rfl rfl (Nat.le_of_ble_eq_true rfl) (fun r_29 u_29 H locs hp_29 hB => ?_)
      obtain ⟨rfl, rfl⟩ := hp_29
      refine lv_bipush (v := (-4 : Int32)) hx hb dX8_attempt_32 (by decide) ?_
      refine lv_icmp_ne (tgt := 40) hx hb dX8_attempt_34 (by decide) (fun c_34 => ?_) (fun c_34 => ?_)
      · refine lv_aload_n hx hb dX8_attempt_40 rfl (lv_at hl 0 rfl) ?_
        refine j_cvv (20, 0, 0) [] hC hB hl.1 (c_X8_keep l_ G I J O  (by omega) (hH)) (cwV 0 hts gX8_attempt_X8_keep rfl rfl rfl (by decide +kernel) ⟨by decide, by decide⟩) dX8_attempt_41 jk20 rfl rfl rfl rfl (Nat.le_of_ble_eq_true rfl) (fun u_41 H locs hp_41 hB => ?_)
        obtain rfl := hp_41
        have hB : jB G A s_.heap (sr I 41 (keepR (I 41)), J, O) H locs := hB
        refine lv_aload_n hx hb dX8_attempt_44 rfl (lv_at hl 0 rfl) ?_
        refine lv_iload_n hx hb dX8_attempt_45 rfl (lv_at hl 1 rfl) ?_
        refine lv_iload_n hx hb dX8_attempt_46 rfl (lv_at hl 2 rfl) ?_
        refine j_cvv (20, 0, 0) [.int (nI mm), .int (nI dd)] hC hB hl.1 (c_X8_tries l_ G (sr I 41 (keepR (I 41))) J O mm dd (by omega) (by omega)) (cwV 2 hts gX8_attempt_X8_tries rfl rfl rfl (by decide +kernel) ⟨by decide, by decide⟩) dX8_attempt_47 jk20 rfl rfl rfl rfl (Nat.le_of_ble_eq_true rfl) (fun u_47 H locs hp_47 hB => ?_)
        obtain rfl := hp_47
        have hB : jB G A s_.heap (sr I 41 (triesR (keepR (I 41)) mm dd), J, O) H locs := by rw [show sr I 41 (triesR (keepR (I 41)) mm dd) = sr (sr I 41 (keepR (I 41))) 41 (triesR (keepR (I 41)) mm dd) from by funext a; simp only [sr]; (repeat' split) <;> first | rfl | omega | (subst_vars; rfl)]; exact hB
        refine lv_aload_n hx hb dX8_attempt_50 rfl (lv_at hl 0 rfl) ?_
        refine j_get (20, 0, 0) 0 (v := .ref (G.2.2.1 (21, 41, 0))) hC hB in_X8 lk_7 dX8_attempt_51 jk20 rfl rfl (by decide) rfl ?_
        refine lv_bipush (v := nI 51) hx hb dX8_attempt_54 (by decide) ?_
        refine lv_iload_n hx hb dX8_attempt_56 rfl (lv_at hl 1 rfl) ?_
        refine jn_iadd hx hb dX8_attempt_57 ?_
        refine j_ild 41 (51 + mm) hC hB dX8_attempt_58 (by decide) rfl (by simp only [lenI_41]; omega) ?_
        refine j_eqi (x := (sr I 41 (triesR (keepR (I 41)) mm dd)) 41 (51 + mm)) (y := (triesR (keepR (I 41)) mm dd) (51 + mm)) ((congrFun sr_self _)) ?_
        exact j_iret hC hB dX8_attempt_59 (⟨by simp [attA, attR, nIc (show mm < 2147483648 by omega), nIc (show dd < 2147483648 by omega), c_5, c_13, c_34], by simp [attA, attR, sr_id, nIc (show mm < 2147483648 by omega), nIc (show dd < 2147483648 by omega), c_5, c_13, c_34]⟩)
      · refine lv_bipush (v := (-2 : Int32)) hx hb dX8_attempt_37 (by decide) ?_
        exact j_iret hC hB dX8_attempt_39 (⟨by simp [attA, attR, nIc (show mm < 2147483648 by omega), nIc (show dd < 2147483648 by omega), c_5, c_13, eq_true c_34], by simp [attA, attR, sr_id, nIc (show mm < 2147483648 by omega), nIc (show dd < 2147483648 by omega), c_5, c_13, eq_true c_34]⟩)
    · refine lv_iconst (v := (-1 : Int32)) hx hb dX8_attempt_16 (by decide) ?_
      exact j_iret hC hB dX8_attempt_17 (⟨by simp [attA, attR, c_5, c_13], by simp [attA, attR, sr_id, c_5, c_13]⟩)

set_option maxHeartbeats 4000000 in
set_option maxRecDepth 100000 in
theorem c_X8_whisper (l_ : Launch) (G : jG) (I : Nat → Nat → Int32) (J : Nat → Nat → Int64) (O : Nat → Nat → Nat) (man door : Int32) {nd : Nat} (hnd : nd ≤ 10) (hD : I 41 0 = nI nd) {nm : Nat} (hnm : nm ≤ 4) (hM : I 41 1 = nI nm) {h : Nat} (hh : h ≤ 8) (hH : I 41 2 = nI h) : jMi l_ G yX8_whisper wsX8_whisper ({ frames := 2, cells := 0, slots := 0, locals := 46 }) [.ref (G.2.2.1 (20, 0, 0)), .int man, .int door] (I, J, O) (fun r u => r = whiA (I 41) nd nm man door ∧ u = (sr I 41 (whiR (I 41) nd nm man door), J, O)) := by
  refine jMi_of (cc := cX8_whisper) (maxL := 3) (ret := (some .int)) (lv0 := [(0, .ref (G.2.2.1 (20, 0, 0))), (1, .int man), (2, .int door)]) (by decide) rfl (Nat.le_of_ble_eq_true rfl) rfl ?_
  intro pg_ ev_ s_ mi_ below meth cd_ A ls hC hB hl
  obtain ⟨hx, hb, hr, hml, hown, hts, hlocks, hK, hA⟩ := id hC
  have lk_7 := hts (.fieldLink RX8 7 "RiddlePrisonModel" "now" "[I") (by decide +kernel)
  have in_X8 := (fun w h => List.mem_cons_of_mem _ (List.mem_append_right _ h) : ∀ w ∈ wsX80, w ∈ wsX8_whisper)
  refine lv_aload_n hx hb dX8_whisper_0 rfl (lv_at hl 0 rfl) ?_
  refine lv_iload_n hx hb dX8_whisper_1 rfl (lv_at hl 1 rfl) ?_
  refine j_cvi (20, 0, 0) [.int man] hC hB hl.1 (c_X8_isMan l_ G I J O man (by omega) (hM)) (cwV 1 hts gX8_whisper_X8_isMan rfl rfl rfl (by decide +kernel) ⟨by decide, by decide⟩) dX8_whisper_2 jk20 rfl rfl rfl rfl (Nat.le_of_ble_eq_true rfl) (fun r_2 u_2 H locs hp_2 hB => ?_)
  obtain ⟨rfl, rfl⟩ := hp_2
  refine jb_if_eq (tgt := 16) hx hb dX8_whisper_5 (by decide) (fun c_5 => ?_) (fun c_5 => ?_)
  · refine lv_iconst (v := (-1 : Int32)) hx hb dX8_whisper_16 (by decide) ?_
    exact j_iret hC hB dX8_whisper_17 (⟨by simp [whiA, whiR, bitI, c_5], by simp [whiA, whiR, bitI, sr_id, c_5]⟩)
  · obtain ⟨mm, hmm, rfl⟩ := isB_nat c_5 (by omega)
    refine lv_aload_n hx hb dX8_whisper_8 rfl (lv_at hl 0 rfl) ?_
    refine lv_iload_n hx hb dX8_whisper_9 rfl (lv_at hl 2 rfl) ?_
    refine j_cvi (20, 0, 0) [.int door] hC hB hl.1 (c_X8_isDoor l_ G I J O door (by omega) (hD)) (cwV 1 hts gX8_whisper_X8_isDoor rfl rfl rfl (by decide +kernel) ⟨by decide, by decide⟩) dX8_whisper_10 jk20 rfl rfl rfl rfl (Nat.le_of_ble_eq_true rfl) (fun r_10 u_10 H locs hp_10 hB => ?_)
    obtain ⟨rfl, rfl⟩ := hp_10
    refine jb_if_ne (tgt := 18) hx hb dX8_whisper_13 (by decide) (fun c_13 => ?_) (fun c_13 => ?_)
    · obtain ⟨dd, hdd, rfl⟩ := isB_nat c_13 (by omega)
      refine lv_aload_n hx hb dX8_whisper_18 rfl (lv_at hl 0 rfl) ?_
      refine j_get (20, 0, 0) 0 (v := .ref (G.2.2.1 (21, 41, 0))) hC hB in_X8 lk_7 dX8_whisper_19 jk20 rfl rfl (by decide) rfl ?_
      refine lv_bipush (v := nI 55) hx hb dX8_whisper_22 (by decide) ?_
      refine lv_iload_n hx hb dX8_whisper_24 rfl (lv_at hl 1 rfl) ?_
      refine jn_iadd hx hb dX8_whisper_25 ?_
      refine j_ild 41 (55 + mm) hC hB dX8_whisper_26 (by decide) rfl (by simp only [lenI_41]; omega) ?_
      refine j_eqi (y := (I 41) (55 + mm)) rfl ?_
      refine lv_iload_n hx hb dX8_whisper_27 rfl (lv_at hl 2 rfl) ?_
      refine j_csi [.int ((I 41) (55 + mm)), .int (nI dd)] hC hB hl.1 (c_X8_has l_ G I J O ((I 41) (55 + mm)) dd) (va_cwS 2 hts gX8_whisper_X8_has rfl rfl rfl (by decide +kernel) ⟨by decide, by decide⟩) dX8_whisper_28 rfl rfl (Nat.le_of_ble_eq_true rfl) (fun r_28 u_28 H locs hp_28 hB => ?_)
      obtain ⟨rfl, rfl⟩ := hp_28
      refine jb_if_eq (tgt := 37) hx hb dX8_whisper_31 (by decide) (fun c_31 => ?_) (fun c_31 => ?_)
      · refine lv_aload_n hx hb dX8_whisper_37 rfl (lv_at hl 0 rfl) ?_
        refine j_cvv (20, 0, 0) [] hC hB hl.1 (c_X8_keep l_ G I J O  (by omega) (hH)) (cwV 0 hts gX8_whisper_X8_keep rfl rfl rfl (by decide +kernel) ⟨by decide, by decide⟩) dX8_whisper_38 jk20 rfl rfl rfl rfl (Nat.le_of_ble_eq_true rfl) (fun u_38 H locs hp_38 hB => ?_)
        obtain rfl := hp_38
        have hB : jB G A s_.heap (sr I 41 (keepR (I 41)), J, O) H locs := hB
        refine lv_aload_n hx hb dX8_whisper_41 rfl (lv_at hl 0 rfl) ?_
        refine j_get (20, 0, 0) 0 (v := .ref (G.2.2.1 (21, 41, 0))) hC hB in_X8 lk_7 dX8_whisper_42 jk20 rfl rfl (by decide) rfl ?_
        refine lv_bipush (v := nI 55) hx hb dX8_whisper_45 (by decide) ?_
        refine lv_iload_n hx hb dX8_whisper_47 rfl (lv_at hl 1 rfl) ?_
        refine jn_iadd hx hb dX8_whisper_48 ?_
        refine lv_dup2_11 hx hb dX8_whisper_49 rfl rfl ?_
        refine j_ild 41 (55 + mm) hC hB dX8_whisper_50 (by decide) rfl (by simp only [lenI_41]; omega) ?_
        refine j_eqi (x := (sr I 41 (keepR (I 41))) 41 (55 + mm)) (y := (keepR (I 41)) (55 + mm)) ((congrFun sr_self _)) ?_
        refine lv_iconst (v := nI 1) hx hb dX8_whisper_51 (by decide) ?_
        refine lv_iload_n hx hb dX8_whisper_52 rfl (lv_at hl 2 rfl) ?_
        refine lv_ishl hx hb dX8_whisper_53 ?_
        refine lv_ior hx hb dX8_whisper_54 ?_
        refine j_ist 41 (55 + mm) hC hB dX8_whisper_55 (by decide) rfl (by simp only [lenI_41]; omega) (fun H locs hB => ?_)
        have hB : jB G A s_.heap (sr I 41 (upd (keepR (I 41)) (55 + mm) (((keepR (I 41)) (55 + mm)) ||| ((nI 1) <<< ((nI dd) &&& 31)))), J, O) H locs := by rw [show sr I 41 (upd (keepR (I 41)) (55 + mm) (((keepR (I 41)) (55 + mm)) ||| ((nI 1) <<< ((nI dd) &&& 31)))) = u2 (sr I 41 (keepR (I 41))) 41 (55 + mm) (((keepR (I 41)) (55 + mm)) ||| ((nI 1) <<< ((nI dd) &&& 31))) from (u2_sr _ _ _ _ _).symm]; exact hB
        refine lv_aload_n hx hb dX8_whisper_56 rfl (lv_at hl 0 rfl) ?_
        refine j_get (20, 0, 0) 0 (v := .ref (G.2.2.1 (21, 41, 0))) hC hB in_X8 lk_7 dX8_whisper_57 jk20 rfl rfl (by decide) rfl ?_
        refine lv_bipush (v := nI 55) hx hb dX8_whisper_60 (by decide) ?_
        refine lv_iload_n hx hb dX8_whisper_62 rfl (lv_at hl 1 rfl) ?_
        refine jn_iadd hx hb dX8_whisper_63 ?_
        refine j_ild 41 (55 + mm) hC hB dX8_whisper_64 (by decide) rfl (by simp only [lenI_41]; omega) ?_
        refine j_eqi (x := (sr I 41 (upd (keepR (I 41)) (55 + mm) (((keepR (I 41)) (55 + mm)) ||| ((nI 1) <<< ((nI dd) &&& 31))))) 41 (55 + mm)) (y := ((keepR (I 41)) (55 + mm)) ||| ((nI 1) <<< ((nI dd) &&& 31))) ((congrFun sr_self _).trans (pk_us)) ?_
        exact j_iret hC hB dX8_whisper_65 (⟨by simp [whiA, whiR, bitI, nIc (show mm < 2147483648 by omega), nIc (show dd < 2147483648 by omega), c_5, c_13, c_31], by simp [whiA, whiR, bitI, sr_id, nIc (show mm < 2147483648 by omega), nIc (show dd < 2147483648 by omega), c_5, c_13, c_31]⟩)
      · refine lv_bipush (v := (-2 : Int32)) hx hb dX8_whisper_34 (by decide) ?_
        exact j_iret hC hB dX8_whisper_36 (⟨by simp [whiA, whiR, bitI, nIc (show mm < 2147483648 by omega), nIc (show dd < 2147483648 by omega), c_5, c_13, c_31], by simp [whiA, whiR, bitI, sr_id, nIc (show mm < 2147483648 by omega), nIc (show dd < 2147483648 by omega), c_5, c_13, c_31]⟩)
    · refine lv_iconst (v := (-1 : Int32)) hx hb dX8_whisper_16 (by decide) ?_
      exact j_iret hC hB dX8_whisper_17 (⟨by simp [whiA, whiR, bitI, c_5, c_13], by simp [whiA, whiR, bitI, sr_id, c_5, c_13]⟩)

set_option maxHeartbeats 4000000 in
set_option maxRecDepth 100000 in
theorem c_X8_set (l_ : Launch) (G : jG) (I : Nat → Nat → Int32) (J : Nat → Nat → Int64) (O : Nat → Nat → Nat) (door sort hard : Int32) {nd : Nat} (hnd : nd ≤ 10) (hD : I 41 0 = nI nd) {nm : Nat} (hnm : nm ≤ 4) (hM : I 41 1 = nI nm) {h : Nat} (hh : h ≤ 8) (hH : I 41 2 = nI h) : jMi l_ G yX8_set wsX8_set ({ frames := 2, cells := 0, slots := 0, locals := 46 }) [.ref (G.2.2.1 (20, 0, 0)), .int door, .int sort, .int hard] (I, J, O) (fun r u => r = setA (I 41) nd door sort hard ∧ u = (sr I 41 (setR (I 41) nd nm door sort hard), J, O)) := by
  refine jMi_of (cc := cX8_set) (maxL := 6) (ret := (some .int)) (lv0 := [(0, .ref (G.2.2.1 (20, 0, 0))), (1, .int door), (2, .int sort), (3, .int hard)]) (by decide) rfl (Nat.le_of_ble_eq_true rfl) rfl ?_
  intro pg_ ev_ s_ mi_ below meth cd_ A ls hC hB hl
  obtain ⟨hx, hb, hr, hml, hown, hts, hlocks, hK, hA⟩ := id hC
  have lk_7 := hts (.fieldLink RX8 7 "RiddlePrisonModel" "now" "[I") (by decide +kernel)
  have in_X8 := (fun w h => List.mem_cons_of_mem _ (List.mem_append_right _ h) : ∀ w ∈ wsX80, w ∈ wsX8_set)
  refine lv_aload_n hx hb dX8_set_0 rfl (lv_at hl 0 rfl) ?_
  refine lv_iload_n hx hb dX8_set_1 rfl (lv_at hl 1 rfl) ?_
  refine j_cvi (20, 0, 0) [.int door] hC hB hl.1 (c_X8_isDoor l_ G I J O door (by omega) (hD)) (cwV 1 hts gX8_set_X8_isDoor rfl rfl rfl (by decide +kernel) ⟨by decide, by decide⟩) dX8_set_2 jk20 rfl rfl rfl rfl (Nat.le_of_ble_eq_true rfl) (fun r_2 u_2 H locs hp_2 hB => ?_)
  obtain ⟨rfl, rfl⟩ := hp_2
  refine jb_if_eq (tgt := 27) hx hb dX8_set_5 (by decide) (fun c_5 => ?_) (fun c_5 => ?_)
  · refine lv_iconst (v := (-1 : Int32)) hx hb dX8_set_27 (by decide) ?_
    exact j_iret hC hB dX8_set_28 (⟨by simp [setA, setR, setOk, hardB, c_5], by simp [setA, setR, setOk, hardB, sr_id, c_5]⟩)
  · obtain ⟨dd, hdd, rfl⟩ := isB_nat c_5 (by omega)
    refine lv_iload_n hx hb dX8_set_8 rfl (lv_at hl 2 rfl) ?_
    refine j_csi [.int sort] hC hB hl.1 (c_X8_isSort l_ G I J O sort) (va_cwS 1 hts gX8_set_X8_isSort rfl rfl rfl (by decide +kernel) ⟨by decide, by decide⟩) dX8_set_9 rfl rfl (Nat.le_of_ble_eq_true rfl) (fun r_9 u_9 H locs hp_9 hB => ?_)
    obtain ⟨rfl, rfl⟩ := hp_9
    refine jb_if_eq (tgt := 27) hx hb dX8_set_12 (by decide) (fun c_12 => ?_) (fun c_12 => ?_)
    · refine lv_iconst (v := (-1 : Int32)) hx hb dX8_set_27 (by decide) ?_
      exact j_iret hC hB dX8_set_28 (⟨by simp [setA, setR, setOk, hardB, c_5, c_12], by simp [setA, setR, setOk, hardB, sr_id, c_5, c_12]⟩)
    · refine lv_iload_n hx hb dX8_set_15 rfl (lv_at hl 3 rfl) ?_
      refine lv_i2l (v := hard.toInt64) hx hb dX8_set_16 rfl ?_
      refine lv_lconst (v := 1) hx hb dX8_set_17 rfl ?_
      refine lv_ldc2 (v := 19) hx hb hown (hts (.constantLong RX8 77 (19)) (by decide +kernel)) dX8_set_18 ?_
      refine j_csi [.long hard.toInt64, .long ((1 : Int64)), .long ((19 : Int64))] hC hB hl.1 (c_X8_in l_ G I J O hard.toInt64 ((1 : Int64)) ((19 : Int64))) (va_cwS 3 hts gX8_set_X8_in rfl rfl rfl (by decide +kernel) ⟨by decide, by decide⟩) dX8_set_21 rfl rfl (Nat.le_of_ble_eq_true rfl) (fun r_21 u_21 H locs hp_21 hB => ?_)
      obtain ⟨rfl, rfl⟩ := hp_21
      refine jb_if_ne (tgt := 29) hx hb dX8_set_24 (by decide) (fun c_24 => ?_) (fun c_24 => ?_)
      · refine lv_aload_n hx hb dX8_set_29 rfl (lv_at hl 0 rfl) ?_
        refine j_get (20, 0, 0) 0 (v := .ref (G.2.2.1 (21, 41, 0))) hC hB in_X8 lk_7 dX8_set_30 jk20 rfl rfl (by decide) rfl ?_
        refine lv_bipush (v := nI 41) hx hb dX8_set_33 (by decide) ?_
        refine lv_iload_n hx hb dX8_set_35 rfl (lv_at hl 1 rfl) ?_
        refine jn_iadd hx hb dX8_set_36 ?_
        refine j_ild 41 (41 + dd) hC hB dX8_set_37 (by decide) rfl (by simp only [lenI_41]; omega) ?_
        refine j_eqi (y := (I 41) (41 + dd)) rfl ?_
        refine lv_istore (lv' := [(4, .int ((I 41) (41 + dd))), (0, .ref (G.2.2.1 (20, 0, 0))), (1, .int (nI dd)), (2, .int sort), (3, .int hard)]) hx hb dX8_set_38 hl (by decide) rfl (fun ls hl => ?_)
        refine lv_aload_n hx hb dX8_set_40 rfl (lv_at hl 1 rfl) ?_
        refine j_cvv (20, 0, 0) [] hC hB hl.1 (c_X8_keep l_ G I J O  (by omega) (hH)) (cwV 0 hts gX8_set_X8_keep rfl rfl rfl (by decide +kernel) ⟨by decide, by decide⟩) dX8_set_41 jk20 rfl rfl rfl rfl (Nat.le_of_ble_eq_true rfl) (fun u_41 H locs hp_41 hB => ?_)
        obtain rfl := hp_41
        have hB : jB G A s_.heap (sr I 41 (keepR (I 41)), J, O) H locs := hB
        refine lv_aload_n hx hb dX8_set_44 rfl (lv_at hl 1 rfl) ?_
        refine j_get (20, 0, 0) 0 (v := .ref (G.2.2.1 (21, 41, 0))) hC hB in_X8 lk_7 dX8_set_45 jk20 rfl rfl (by decide) rfl ?_
        refine lv_bipush (v := nI 31) hx hb dX8_set_48 (by decide) ?_
        refine lv_iload_n hx hb dX8_set_50 rfl (lv_at hl 2 rfl) ?_
        refine jn_iadd hx hb dX8_set_51 ?_
        refine lv_iload_n hx hb dX8_set_52 rfl (lv_at hl 3 rfl) ?_
        refine j_ist 41 (31 + dd) hC hB dX8_set_53 (by decide) rfl (by simp only [lenI_41]; omega) (fun H locs hB => ?_)
        have hB : jB G A s_.heap (sr I 41 (upd (keepR (I 41)) (31 + dd) sort), J, O) H locs := by rw [show sr I 41 (upd (keepR (I 41)) (31 + dd) sort) = u2 (sr I 41 (keepR (I 41))) 41 (31 + dd) sort from (u2_sr _ _ _ _ _).symm]; exact hB
        refine lv_aload_n hx hb dX8_set_54 rfl (lv_at hl 1 rfl) ?_
        refine j_get (20, 0, 0) 0 (v := .ref (G.2.2.1 (21, 41, 0))) hC hB in_X8 lk_7 dX8_set_55 jk20 rfl rfl (by decide) rfl ?_
        refine lv_bipush (v := nI 41) hx hb dX8_set_58 (by decide) ?_
        refine lv_iload_n hx hb dX8_set_60 rfl (lv_at hl 2 rfl) ?_
        refine jn_iadd hx hb dX8_set_61 ?_
        refine lv_iload_n hx hb dX8_set_62 rfl (lv_at hl 4 rfl) ?_
        refine j_ist 41 (41 + dd) hC hB dX8_set_63 (by decide) rfl (by simp only [lenI_41]; omega) (fun H locs hB => ?_)
        have hB : jB G A s_.heap (sr I 41 (upd (upd (keepR (I 41)) (31 + dd) sort) (41 + dd) hard), J, O) H locs := by rw [show sr I 41 (upd (upd (keepR (I 41)) (31 + dd) sort) (41 + dd) hard) = u2 (sr I 41 (upd (keepR (I 41)) (31 + dd) sort)) 41 (41 + dd) hard from (u2_sr _ _ _ _ _).symm]; exact hB
        refine lv_iconst (v := nI 0) hx hb dX8_set_64 (by decide) ?_
        refine lv_istore (lv' := [(5, .int (nI 0)), (4, .int ((I 41) (41 + dd))), (0, .ref (G.2.2.1 (20, 0, 0))), (1, .int (nI dd)), (2, .int sort), (3, .int hard)]) hx hb dX8_set_65 hl (by decide) rfl (fun ls hl => ?_)
        have lp_67 : ∀ (fu : Nat) (f : Nat → Int32) (k : Nat), nm - k < fu → (k ≤ nm) → (f = fgR (upd (upd (keepR (I 41)) (31 + dd) sort) (41 + dd) hard) dd k) → (f 1 = nI nm) → ∀ H locs ls, jB G A s_.heap (sr I 41 (f), J, O) H locs → lv_has ls 6 [(5, .int (nI k)), (4, .int ((I 41) (41 + dd))), (0, .ref (G.2.2.1 (20, 0, 0))), (1, .int (nI dd)), (2, .int sort), (3, .int hard)] → W pg_ l_ ev_ ({ frames := 2, cells := 0, slots := 0, locals := 46 }) s_ mi_ ([.ref (G.2.2.1 (20, 0, 0)), .int (nI dd), .int sort, .int hard]).toArray below meth cd_ H locs 0 0 (jQi G A below [.ref (G.2.2.1 (20, 0, 0)), .int (nI dd), .int sort, .int hard] s_ (fun r u => r = setA (I 41) nd (nI dd) sort hard ∧ u = (sr I 41 (setR (I 41) nd nm (nI dd) sort hard), J, O))) (F0 mi_ 67 ls []) := by
          intro fu
          induction fu with
          | zero => intro f k hf; exact absurd hf (Nat.not_lt_zero _)
          | succ fu ih_67 =>
            intro f k hf_67 hk hf h1 H locs ls hB hl
            refine lv_iload hx hb dX8_set_67 (lv_at hl 0 rfl) ?_
            refine lv_aload_n hx hb dX8_set_69 rfl (lv_at hl 2 rfl) ?_
            refine j_get (20, 0, 0) 0 (v := .ref (G.2.2.1 (21, 41, 0))) hC hB in_X8 lk_7 dX8_set_70 jk20 rfl rfl (by decide) rfl ?_
            refine lv_iconst (v := nI 1) hx hb dX8_set_73 (by decide) ?_
            refine j_ild 41 1 hC hB dX8_set_74 (by decide) rfl (by simp only [lenI_41]; omega) ?_
            refine j_eqi (x := (sr I 41 (f)) 41 1) (y := nI nm) ((congrFun sr_self _).trans (h1)) ?_
            refine jn_icmp_ge (tgt := 102) hx hb dX8_set_75 (by decide) (by omega) (by omega) (fun c_75 => ?_) (fun c_75 => ?_)
            · refine lv_iload hx hb dX8_set_102 (lv_at hl 1 rfl) ?_
              exact j_iret hC hB dX8_set_104 (⟨by simp [setA, setOk, hardB, nIc (show dd < 2147483648 by omega), c_5, c_12, c_24, c_75], by rw [hf, show k = nm by omega]; simp [setR, setOk, hardB, nIc (show dd < 2147483648 by omega), c_5, c_12, c_24, c_75]⟩)
            · refine lv_aload_n hx hb dX8_set_78 rfl (lv_at hl 2 rfl) ?_
              refine j_get (20, 0, 0) 0 (v := .ref (G.2.2.1 (21, 41, 0))) hC hB in_X8 lk_7 dX8_set_79 jk20 rfl rfl (by decide) rfl ?_
              refine lv_bipush (v := nI 55) hx hb dX8_set_82 (by decide) ?_
              refine lv_iload hx hb dX8_set_84 (lv_at hl 0 rfl) ?_
              refine jn_iadd hx hb dX8_set_86 ?_
              refine lv_dup2_11 hx hb dX8_set_87 rfl rfl ?_
              refine j_ild 41 (55 + k) hC hB dX8_set_88 (by decide) rfl (by simp only [lenI_41]; omega) ?_
              refine j_eqi (x := (sr I 41 (f)) 41 (55 + k)) (y := f (55 + k)) ((congrFun sr_self _)) ?_
              refine lv_iconst (v := nI 1) hx hb dX8_set_89 (by decide) ?_
              refine lv_iload_n hx hb dX8_set_90 rfl (lv_at hl 3 rfl) ?_
              refine lv_ishl hx hb dX8_set_91 ?_
              refine lv_iconst (v := (-1 : Int32)) hx hb dX8_set_92 (by decide) ?_
              refine lv_ixor hx hb dX8_set_93 ?_
              refine lv_iand hx hb dX8_set_94 ?_
              refine j_ist 41 (55 + k) hC hB dX8_set_95 (by decide) rfl (by simp only [lenI_41]; omega) (fun H locs hB => ?_)
              have hB : jB G A s_.heap (sr I 41 (upd (f) (55 + k) ((f (55 + k)) &&& (((nI 1) <<< ((nI dd) &&& 31)) ^^^ ((-1 : Int32))))), J, O) H locs := by rw [show sr I 41 (upd (f) (55 + k) ((f (55 + k)) &&& (((nI 1) <<< ((nI dd) &&& 31)) ^^^ ((-1 : Int32))))) = u2 (sr I 41 (f)) 41 (55 + k) ((f (55 + k)) &&& (((nI 1) <<< ((nI dd) &&& 31)) ^^^ ((-1 : Int32)))) from (u2_sr _ _ _ _ _).symm]; exact hB
              refine lv_iinc (v := nI (k + 1)) (lv' := [(5, .int (nI (k + 1))), (4, .int ((I 41) (41 + dd))), (0, .ref (G.2.2.1 (20, 0, 0))), (1, .int (nI dd)), (2, .int sort), (3, .int hard)]) hx hb dX8_set_96 hl (k := 0) rfl (jn_inc _ 1) (by decide) rfl (fun ls hl => ?_)
              refine lv_goto (tgt := 67) hx hb dX8_set_99 (by decide) ?_
              exact ih_67 (upd (f) (55 + k) ((f (55 + k)) &&& (((nI 1) <<< ((nI dd) &&& 31)) ^^^ ((-1 : Int32))))) (k + 1) (by omega) (by omega) (by rw [hf]; exact fgR_step _ _ _) ((pk_un (by omega)).trans h1) _ _ _ (jB_cast2 hB (by first | rfl | exact (sr_id _ _).symm | exact (srJ_id _ _).symm | (funext a; simp only [sr, srJ]; (repeat' split) <;> first | rfl | omega | (subst_vars; rfl))) (by first | rfl | exact (sr_id _ _).symm | exact (srJ_id _ _).symm | (funext a; simp only [sr, srJ]; (repeat' split) <;> first | rfl | omega | (subst_vars; rfl)))) (lv_sub hl [0, 1, 2, 3, 4, 5] rfl)
        exact lp_67 _ (upd (upd (keepR (I 41)) (31 + dd) sort) (41 + dd) hard) 0 (Nat.lt_succ_self _) (by omega) ((fgR_0 _ _).symm) ((pk_un (by omega)).trans ((pk_un (by omega)).trans ((keepR_lo _ (by decide) (by decide)).trans hM))) _ _ _ (jB_cast2 hB (by first | rfl | exact (sr_id _ _).symm | exact (srJ_id _ _).symm | (funext a; simp only [sr, srJ]; (repeat' split) <;> first | rfl | omega | (subst_vars; rfl))) (by first | rfl | exact (sr_id _ _).symm | exact (srJ_id _ _).symm | (funext a; simp only [sr, srJ]; (repeat' split) <;> first | rfl | omega | (subst_vars; rfl)))) (lv_sub hl [0, 1, 2, 3, 4, 5] rfl)
      · refine lv_iconst (v := (-1 : Int32)) hx hb dX8_set_27 (by decide) ?_
        exact j_iret hC hB dX8_set_28 (⟨by simp [setA, setR, setOk, hardB, c_5, c_12, c_24], by simp [setA, setR, setOk, hardB, sr_id, c_5, c_12, c_24]⟩)

set_option maxHeartbeats 4000000 in
set_option maxRecDepth 100000 in
theorem c_X8_study (l_ : Launch) (G : jG) (I : Nat → Nat → Int32) (J : Nat → Nat → Int64) (O : Nat → Nat → Nat) (man : Int32) {nm : Nat} (hnm : nm ≤ 4) (hM : I 41 1 = nI nm) {h : Nat} (hh : h ≤ 8) (hH : I 41 2 = nI h) : jMi l_ G yX8_study wsX8_study ({ frames := 2, cells := 0, slots := 0, locals := 46 }) [.ref (G.2.2.1 (20, 0, 0)), .int man] (I, J, O) (fun r u => r = stuA (I 41) nm man ∧ u = (sr I 41 (stuR (I 41) nm man), J, O)) := by
  refine jMi_of (cc := cX8_study) (maxL := 2) (ret := (some .int)) (lv0 := [(0, .ref (G.2.2.1 (20, 0, 0))), (1, .int man)]) (by decide) rfl (Nat.le_of_ble_eq_true rfl) rfl ?_
  intro pg_ ev_ s_ mi_ below meth cd_ A ls hC hB hl
  obtain ⟨hx, hb, hr, hml, hown, hts, hlocks, hK, hA⟩ := id hC
  have lk_7 := hts (.fieldLink RX8 7 "RiddlePrisonModel" "now" "[I") (by decide +kernel)
  have in_X8 := (fun w h => List.mem_cons_of_mem _ (List.mem_append_right _ h) : ∀ w ∈ wsX80, w ∈ wsX8_study)
  refine lv_aload_n hx hb dX8_study_0 rfl (lv_at hl 0 rfl) ?_
  refine lv_iload_n hx hb dX8_study_1 rfl (lv_at hl 1 rfl) ?_
  refine j_cvi (20, 0, 0) [.int man] hC hB hl.1 (c_X8_isMan l_ G I J O man (by omega) (hM)) (cwV 1 hts gX8_study_X8_isMan rfl rfl rfl (by decide +kernel) ⟨by decide, by decide⟩) dX8_study_2 jk20 rfl rfl rfl rfl (Nat.le_of_ble_eq_true rfl) (fun r_2 u_2 H locs hp_2 hB => ?_)
  obtain ⟨rfl, rfl⟩ := hp_2
  refine jb_if_ne (tgt := 10) hx hb dX8_study_5 (by decide) (fun c_5 => ?_) (fun c_5 => ?_)
  · obtain ⟨mm, hmm, rfl⟩ := isB_nat c_5 (by omega)
    refine lv_aload_n hx hb dX8_study_10 rfl (lv_at hl 0 rfl) ?_
    refine j_get (20, 0, 0) 0 (v := .ref (G.2.2.1 (21, 41, 0))) hC hB in_X8 lk_7 dX8_study_11 jk20 rfl rfl (by decide) rfl ?_
    refine lv_bipush (v := nI 63) hx hb dX8_study_14 (by decide) ?_
    refine lv_iload_n hx hb dX8_study_16 rfl (lv_at hl 1 rfl) ?_
    refine jn_iadd hx hb dX8_study_17 ?_
    refine j_ild 41 (63 + mm) hC hB dX8_study_18 (by decide) rfl (by simp only [lenI_41]; omega) ?_
    refine j_eqi (y := (I 41) (63 + mm)) rfl ?_
    refine lv_bipush (v := nI 9) hx hb dX8_study_19 (by decide) ?_
    refine lv_icmp_ne (tgt := 27) hx hb dX8_study_21 (by decide) (fun c_21 => ?_) (fun c_21 => ?_)
    · refine lv_aload_n hx hb dX8_study_27 rfl (lv_at hl 0 rfl) ?_
      refine j_cvv (20, 0, 0) [] hC hB hl.1 (c_X8_keep l_ G I J O  (by omega) (hH)) (cwV 0 hts gX8_study_X8_keep rfl rfl rfl (by decide +kernel) ⟨by decide, by decide⟩) dX8_study_28 jk20 rfl rfl rfl rfl (Nat.le_of_ble_eq_true rfl) (fun u_28 H locs hp_28 hB => ?_)
      obtain rfl := hp_28
      have hB : jB G A s_.heap (sr I 41 (keepR (I 41)), J, O) H locs := hB
      refine lv_aload_n hx hb dX8_study_31 rfl (lv_at hl 0 rfl) ?_
      refine j_get (20, 0, 0) 0 (v := .ref (G.2.2.1 (21, 41, 0))) hC hB in_X8 lk_7 dX8_study_32 jk20 rfl rfl (by decide) rfl ?_
      refine lv_bipush (v := nI 63) hx hb dX8_study_35 (by decide) ?_
      refine lv_iload_n hx hb dX8_study_37 rfl (lv_at hl 1 rfl) ?_
      refine jn_iadd hx hb dX8_study_38 ?_
      refine lv_dup2_11 hx hb dX8_study_39 rfl rfl ?_
      refine j_ild 41 (63 + mm) hC hB dX8_study_40 (by decide) rfl (by simp only [lenI_41]; omega) ?_
      refine j_eqi (x := (sr I 41 (keepR (I 41))) 41 (63 + mm)) (y := (keepR (I 41)) (63 + mm)) ((congrFun sr_self _)) ?_
      refine lv_iconst (v := nI 1) hx hb dX8_study_41 (by decide) ?_
      refine lv_iadd hx hb dX8_study_42 ?_
      refine j_ist 41 (63 + mm) hC hB dX8_study_43 (by decide) rfl (by simp only [lenI_41]; omega) (fun H locs hB => ?_)
      have hB : jB G A s_.heap (sr I 41 (upd (keepR (I 41)) (63 + mm) (((keepR (I 41)) (63 + mm)) + (nI 1))), J, O) H locs := by rw [show sr I 41 (upd (keepR (I 41)) (63 + mm) (((keepR (I 41)) (63 + mm)) + (nI 1))) = u2 (sr I 41 (keepR (I 41))) 41 (63 + mm) (((keepR (I 41)) (63 + mm)) + (nI 1)) from (u2_sr _ _ _ _ _).symm]; exact hB
      refine lv_aload_n hx hb dX8_study_44 rfl (lv_at hl 0 rfl) ?_
      refine j_get (20, 0, 0) 0 (v := .ref (G.2.2.1 (21, 41, 0))) hC hB in_X8 lk_7 dX8_study_45 jk20 rfl rfl (by decide) rfl ?_
      refine lv_bipush (v := nI 63) hx hb dX8_study_48 (by decide) ?_
      refine lv_iload_n hx hb dX8_study_50 rfl (lv_at hl 1 rfl) ?_
      refine jn_iadd hx hb dX8_study_51 ?_
      refine j_ild 41 (63 + mm) hC hB dX8_study_52 (by decide) rfl (by simp only [lenI_41]; omega) ?_
      refine j_eqi (x := (sr I 41 (upd (keepR (I 41)) (63 + mm) (((keepR (I 41)) (63 + mm)) + (nI 1)))) 41 (63 + mm)) (y := ((keepR (I 41)) (63 + mm)) + (nI 1)) ((congrFun sr_self _).trans (pk_us)) ?_
      exact j_iret hC hB dX8_study_53 (⟨by simp [stuA, stuR, nIc (show mm < 2147483648 by omega), c_5, c_21], by simp [stuA, stuR, sr_id, nIc (show mm < 2147483648 by omega), c_5, c_21]⟩)
    · refine lv_bipush (v := (-2 : Int32)) hx hb dX8_study_24 (by decide) ?_
      exact j_iret hC hB dX8_study_26 (⟨by simp [stuA, stuR, nIc (show mm < 2147483648 by omega), c_5, eq_true c_21], by simp [stuA, stuR, sr_id, nIc (show mm < 2147483648 by omega), c_5, eq_true c_21]⟩)
  · refine lv_iconst (v := (-1 : Int32)) hx hb dX8_study_8 (by decide) ?_
    exact j_iret hC hB dX8_study_9 (⟨by simp [stuA, stuR, c_5], by simp [stuA, stuR, sr_id, c_5]⟩)

set_option maxHeartbeats 4000000 in
set_option maxRecDepth 100000 in
theorem c_X8_seed (l_ : Launch) (G : jG) (I : Nat → Nat → Int32) (J : Nat → Nat → Int64) (O : Nat → Nat → Nat) (v : Int32) : jMi l_ G yX8_seed wsX8_seed ({ frames := 0, cells := 0, slots := 0, locals := 0 }) [.ref (G.2.2.1 (20, 0, 0)), .int v] (I, J, O) (fun r u => r = seeA (I 41) v ∧ u = (sr I 41 (seeR (I 41) v), J, O)) := by
  refine jMi_of (cc := cX8_seed) (maxL := 3) (ret := (some .int)) (lv0 := [(0, .ref (G.2.2.1 (20, 0, 0))), (1, .int v)]) (by decide) rfl (Nat.le_of_ble_eq_true rfl) rfl ?_
  intro pg_ ev_ s_ mi_ below meth cd_ A ls hC hB hl
  obtain ⟨hx, hb, hr, hml, hown, hts, hlocks, hK, hA⟩ := id hC
  have lk_7 := hts (.fieldLink RX8 7 "RiddlePrisonModel" "now" "[I") (by decide +kernel)
  have in_X8 := (fun w h => List.mem_cons_of_mem _ (List.mem_append_right _ h) : ∀ w ∈ wsX80, w ∈ wsX8_seed)
  refine lv_iload_n hx hb dX8_seed_0 rfl (lv_at hl 1 rfl) ?_
  refine lv_if_ge (tgt := 6) hx hb dX8_seed_1 (by decide) (fun c_1 => ?_) (fun c_1 => ?_)
  · refine lv_aload_n hx hb dX8_seed_6 rfl (lv_at hl 0 rfl) ?_
    refine j_get (20, 0, 0) 0 (v := .ref (G.2.2.1 (21, 41, 0))) hC hB in_X8 lk_7 dX8_seed_7 jk20 rfl rfl (by decide) rfl ?_
    refine lv_bipush (v := nI 67) hx hb dX8_seed_10 (by decide) ?_
    refine j_ild 41 67 hC hB dX8_seed_12 (by decide) rfl (by simp only [lenI_41]; omega) ?_
    refine j_eqi (y := (I 41) 67) rfl ?_
    refine lv_istore_n (lv' := [(2, .int ((I 41) 67)), (0, .ref (G.2.2.1 (20, 0, 0))), (1, .int v)]) hx hb dX8_seed_13 rfl hl (by decide) rfl (fun ls hl => ?_)
    refine lv_aload_n hx hb dX8_seed_14 rfl (lv_at hl 1 rfl) ?_
    refine j_get (20, 0, 0) 0 (v := .ref (G.2.2.1 (21, 41, 0))) hC hB in_X8 lk_7 dX8_seed_15 jk20 rfl rfl (by decide) rfl ?_
    refine lv_bipush (v := nI 67) hx hb dX8_seed_18 (by decide) ?_
    refine lv_iload_n hx hb dX8_seed_20 rfl (lv_at hl 2 rfl) ?_
    refine j_ist 41 67 hC hB dX8_seed_21 (by decide) rfl (by simp only [lenI_41]; omega) (fun H locs hB => ?_)
    have hB : jB G A s_.heap (sr I 41 (upd (I 41) 67 v), J, O) H locs := by rw [show sr I 41 (upd (I 41) 67 v) = u2 I 41 67 v from (u2_eq _ _ _ _).symm]; exact hB
    refine lv_iload_n hx hb dX8_seed_22 rfl (lv_at hl 0 rfl) ?_
    exact j_iret hC hB dX8_seed_23 (⟨by simp [seeA, seeR, c_1], by simp [seeA, seeR, sr_id, c_1]⟩)
  · refine lv_iconst (v := (-1 : Int32)) hx hb dX8_seed_4 (by decide) ?_
    exact j_iret hC hB dX8_seed_5 (⟨by simp [seeA, seeR, c_1], by simp [seeA, seeR, sr_id, c_1]⟩)

set_option maxHeartbeats 4000000 in
set_option maxRecDepth 100000 in
theorem c_X8_undo (l_ : Launch) (G : jG) (I : Nat → Nat → Int32) (J : Nat → Nat → Int64) (O : Nat → Nat → Nat) {h : Nat} (hh : h ≤ 8) (hH : I 41 2 = nI h) : jMi l_ G yX8_undo wsX8_undo ({ frames := 0, cells := 0, slots := 0, locals := 0 }) [.ref (G.2.2.1 (20, 0, 0))] (I, J, O) (fun r u => r = undA h ∧ u = (sr I 41 (undR (I 41) h), J, O)) := by
  refine jMi_of (cc := cX8_undo) (maxL := 2) (ret := (some .int)) (lv0 := [(0, .ref (G.2.2.1 (20, 0, 0)))]) (by decide) rfl (Nat.le_of_ble_eq_true rfl) rfl ?_
  intro pg_ ev_ s_ mi_ below meth cd_ A ls hC hB hl
  obtain ⟨hx, hb, hr, hml, hown, hts, hlocks, hK, hA⟩ := id hC
  have lk_7 := hts (.fieldLink RX8 7 "RiddlePrisonModel" "now" "[I") (by decide +kernel)
  have in_X8 := (fun w h => List.mem_cons_of_mem _ (List.mem_append_right _ h) : ∀ w ∈ wsX80, w ∈ wsX8_undo)
  refine lv_aload_n hx hb dX8_undo_0 rfl (lv_at hl 0 rfl) ?_
  refine j_get (20, 0, 0) 0 (v := .ref (G.2.2.1 (21, 41, 0))) hC hB in_X8 lk_7 dX8_undo_1 jk20 rfl rfl (by decide) rfl ?_
  refine lv_iconst (v := nI 2) hx hb dX8_undo_4 (by decide) ?_
  refine j_ild 41 2 hC hB dX8_undo_5 (by decide) rfl (by simp only [lenI_41]; omega) ?_
  refine j_eqi (x := I 41 2) (y := nI h) (hH) ?_
  refine jn_if_ne (tgt := 12) hx hb dX8_undo_6 (by decide) (by omega) (fun c_6 => ?_) (fun c_6 => ?_)
  · refine lv_aload_n hx hb dX8_undo_12 rfl (lv_at hl 0 rfl) ?_
    refine j_get (20, 0, 0) 0 (v := .ref (G.2.2.1 (21, 41, 0))) hC hB in_X8 lk_7 dX8_undo_13 jk20 rfl rfl (by decide) rfl ?_
    refine lv_iconst (v := nI 2) hx hb dX8_undo_16 (by decide) ?_
    refine lv_dup2_11 hx hb dX8_undo_17 rfl rfl ?_
    refine j_ild 41 2 hC hB dX8_undo_18 (by decide) rfl (by simp only [lenI_41]; omega) ?_
    refine j_eqi (x := I 41 2) (y := nI h) (hH) ?_
    refine lv_iconst (v := nI 1) hx hb dX8_undo_19 (by decide) ?_
    refine jn_isub hx hb dX8_undo_20 (by omega) ?_
    refine j_ist 41 2 hC hB dX8_undo_21 (by decide) rfl (by simp only [lenI_41]; omega) (fun H locs hB => ?_)
    have hB : jB G A s_.heap (sr I 41 (upd (I 41) 2 (nI (h - 1))), J, O) H locs := by rw [show sr I 41 (upd (I 41) 2 (nI (h - 1))) = u2 I 41 2 (nI (h - 1)) from (u2_eq _ _ _ _).symm]; exact hB
    refine lv_iconst (v := nI 0) hx hb dX8_undo_22 (by decide) ?_
    refine lv_istore_n (lv' := [(1, .int (nI 0)), (0, .ref (G.2.2.1 (20, 0, 0)))]) hx hb dX8_undo_23 rfl hl (by decide) rfl (fun ls hl => ?_)
    have lp_24 : ∀ (fu : Nat) (f : Nat → Int32) (k : Nat), 37 - k < fu → (k ≤ 37) → (f = unR (upd (I 41) 2 (nI (h - 1))) (h - 1) k) → (f 2 = nI (h - 1)) → ∀ H locs ls, jB G A s_.heap (sr I 41 (f), J, O) H locs → lv_has ls 2 [(1, .int (nI k)), (0, .ref (G.2.2.1 (20, 0, 0)))] → W pg_ l_ ev_ ({ frames := 0, cells := 0, slots := 0, locals := 0 }) s_ mi_ ([.ref (G.2.2.1 (20, 0, 0))]).toArray below meth cd_ H locs 0 0 (jQi G A below [.ref (G.2.2.1 (20, 0, 0))] s_ (fun r u => r = undA h ∧ u = (sr I 41 (undR (I 41) h), J, O))) (F0 mi_ 24 ls []) := by
      intro fu
      induction fu with
      | zero => intro f k hf; exact absurd hf (Nat.not_lt_zero _)
      | succ fu ih_24 =>
        intro f k hf_24 hk hf hu H locs ls hB hl
        refine lv_iload_n hx hb dX8_undo_24 rfl (lv_at hl 0 rfl) ?_
        refine lv_bipush (v := nI 37) hx hb dX8_undo_25 (by decide) ?_
        refine jn_icmp_ge (tgt := 64) hx hb dX8_undo_27 (by decide) (by omega) (by omega) (fun c_27 => ?_) (fun c_27 => ?_)
        · refine lv_aload_n hx hb dX8_undo_64 rfl (lv_at hl 1 rfl) ?_
          refine j_get (20, 0, 0) 0 (v := .ref (G.2.2.1 (21, 41, 0))) hC hB in_X8 lk_7 dX8_undo_65 jk20 rfl rfl (by decide) rfl ?_
          refine lv_iconst (v := nI 2) hx hb dX8_undo_68 (by decide) ?_
          refine j_ild 41 2 hC hB dX8_undo_69 (by decide) rfl (by simp only [lenI_41]; omega) ?_
          refine j_eqi (x := (sr I 41 (f)) 41 2) (y := nI (h - 1)) ((congrFun sr_self _).trans (hu)) ?_
          exact j_iret hC hB dX8_undo_70 (⟨by simp [undA, c_6], by rw [hf, show k = 37 by omega]; simp [undR, c_6]⟩)
        · refine lv_aload_n hx hb dX8_undo_30 rfl (lv_at hl 1 rfl) ?_
          refine j_get (20, 0, 0) 0 (v := .ref (G.2.2.1 (21, 41, 0))) hC hB in_X8 lk_7 dX8_undo_31 jk20 rfl rfl (by decide) rfl ?_
          refine lv_bipush (v := nI 31) hx hb dX8_undo_34 (by decide) ?_
          refine lv_iload_n hx hb dX8_undo_36 rfl (lv_at hl 0 rfl) ?_
          refine jn_iadd hx hb dX8_undo_37 ?_
          refine lv_aload_n hx hb dX8_undo_38 rfl (lv_at hl 1 rfl) ?_
          refine j_get (20, 0, 0) 0 (v := .ref (G.2.2.1 (21, 41, 0))) hC hB in_X8 lk_7 dX8_undo_39 jk20 rfl rfl (by decide) rfl ?_
          refine lv_bipush (v := nI 68) hx hb dX8_undo_42 (by decide) ?_
          refine lv_bipush (v := nI 37) hx hb dX8_undo_44 (by decide) ?_
          refine lv_aload_n hx hb dX8_undo_46 rfl (lv_at hl 1 rfl) ?_
          refine j_get (20, 0, 0) 0 (v := .ref (G.2.2.1 (21, 41, 0))) hC hB in_X8 lk_7 dX8_undo_47 jk20 rfl rfl (by decide) rfl ?_
          refine lv_iconst (v := nI 2) hx hb dX8_undo_50 (by decide) ?_
          refine j_ild 41 2 hC hB dX8_undo_51 (by decide) rfl (by simp only [lenI_41]; omega) ?_
          refine j_eqi (x := (sr I 41 (f)) 41 2) (y := nI (h - 1)) ((congrFun sr_self _).trans (hu)) ?_
          refine jn_imul hx hb dX8_undo_52 ?_
          refine jn_iadd hx hb dX8_undo_53 ?_
          refine lv_iload_n hx hb dX8_undo_54 rfl (lv_at hl 0 rfl) ?_
          refine jn_iadd hx hb dX8_undo_55 ?_
          refine j_ild 41 (68 + 37 * (h - 1) + k) hC hB dX8_undo_56 (by decide) rfl (by simp only [lenI_41]; omega) ?_
          refine j_eqi (x := (sr I 41 (f)) 41 (68 + 37 * (h - 1) + k)) (y := f (68 + 37 * (h - 1) + k)) ((congrFun sr_self _)) ?_
          refine j_ist 41 (31 + k) hC hB dX8_undo_57 (by decide) rfl (by simp only [lenI_41]; omega) (fun H locs hB => ?_)
          have hB : jB G A s_.heap (sr I 41 (upd (f) (31 + k) (f (68 + 37 * (h - 1) + k))), J, O) H locs := by rw [show sr I 41 (upd (f) (31 + k) (f (68 + 37 * (h - 1) + k))) = u2 (sr I 41 (f)) 41 (31 + k) (f (68 + 37 * (h - 1) + k)) from (u2_sr _ _ _ _ _).symm]; exact hB
          refine lv_iinc (v := nI (k + 1)) (lv' := [(1, .int (nI (k + 1))), (0, .ref (G.2.2.1 (20, 0, 0)))]) hx hb dX8_undo_58 hl (k := 0) rfl (jn_inc _ 1) (by decide) rfl (fun ls hl => ?_)
          refine lv_goto (tgt := 24) hx hb dX8_undo_61 (by decide) ?_
          exact ih_24 (upd (f) (31 + k) (f (68 + 37 * (h - 1) + k))) (k + 1) (by omega) (by omega) (by rw [hf]; exact unR_step _ (by omega)) ((pk_un (by omega)).trans hu) _ _ _ (jB_cast2 hB (by first | rfl | exact (sr_id _ _).symm | exact (srJ_id _ _).symm | (funext a; simp only [sr, srJ]; (repeat' split) <;> first | rfl | omega | (subst_vars; rfl))) (by first | rfl | exact (sr_id _ _).symm | exact (srJ_id _ _).symm | (funext a; simp only [sr, srJ]; (repeat' split) <;> first | rfl | omega | (subst_vars; rfl)))) (lv_sub hl [0, 1] rfl)
    exact lp_24 _ (upd (I 41) 2 (nI (h - 1))) 0 (Nat.lt_succ_self _) (by omega) ((unR_0 _ _).symm) (pk_us) _ _ _ (jB_cast2 hB (by first | rfl | exact (sr_id _ _).symm | exact (srJ_id _ _).symm | (funext a; simp only [sr, srJ]; (repeat' split) <;> first | rfl | omega | (subst_vars; rfl))) (by first | rfl | exact (sr_id _ _).symm | exact (srJ_id _ _).symm | (funext a; simp only [sr, srJ]; (repeat' split) <;> first | rfl | omega | (subst_vars; rfl)))) (lv_sub hl [0, 1] rfl)
  · refine lv_bipush (v := (-4 : Int32)) hx hb dX8_undo_9 (by decide) ?_
    exact j_iret hC hB dX8_undo_11 (⟨by simp [undA, undR, eq_true c_6], by simp [undA, undR, sr_id, eq_true c_6]⟩)

set_option maxHeartbeats 4000000 in
set_option maxRecDepth 100000 in
theorem c_X8_image (l_ : Launch) (G : jG) (I : Nat → Nat → Int32) (J : Nat → Nat → Int64) (O : Nat → Nat → Nat)  : jMi l_ G yX8_image wsX8_image ({ frames := 0, cells := 0, slots := 0, locals := 0 }) [.ref (G.2.2.1 (20, 0, 0))] (I, J, O) (fun r u => r = nI 1 ∧ u = (sr (sr I 42 (cpR (I 41) (I 42) 364)) 40 (upd (I 40) 0 (nI 1)), J, O)) := by
  refine jMi_of (cc := cX8_image) (maxL := 2) (ret := (some .int)) (lv0 := [(0, .ref (G.2.2.1 (20, 0, 0)))]) (by decide) rfl (Nat.le_of_ble_eq_true rfl) rfl ?_
  intro pg_ ev_ s_ mi_ below meth cd_ A ls hC hB hl
  obtain ⟨hx, hb, hr, hml, hown, hts, hlocks, hK, hA⟩ := id hC
  have lk_144 := hts (.fieldLink RX8 144 "RiddlePrisonModel" "isKept" "Z") (by decide +kernel)
  have lk_13 := hts (.fieldLink RX8 13 "RiddlePrisonModel" "kept" "[I") (by decide +kernel)
  have lk_7 := hts (.fieldLink RX8 7 "RiddlePrisonModel" "now" "[I") (by decide +kernel)
  have in_X8 := (fun w h => List.mem_cons_of_mem _ (List.mem_append_right _ h) : ∀ w ∈ wsX80, w ∈ wsX8_image)
  refine lv_iconst (v := nI 0) hx hb dX8_image_0 (by decide) ?_
  refine lv_istore_n (lv' := [(1, .int (nI 0)), (0, .ref (G.2.2.1 (20, 0, 0)))]) hx hb dX8_image_1 rfl hl (by decide) rfl (fun ls hl => ?_)
  have lp_2 : ∀ (fu : Nat) (f : Nat → Int32) (k : Nat), 364 - k < fu → (k ≤ 364) → (f = cpR (I 41) (I 42) k) → ∀ H locs ls, jB G A s_.heap (sr I 42 (f), J, O) H locs → lv_has ls 2 [(1, .int (nI k)), (0, .ref (G.2.2.1 (20, 0, 0)))] → W pg_ l_ ev_ ({ frames := 0, cells := 0, slots := 0, locals := 0 }) s_ mi_ ([.ref (G.2.2.1 (20, 0, 0))]).toArray below meth cd_ H locs 0 0 (jQi G A below [.ref (G.2.2.1 (20, 0, 0))] s_ (fun r u => r = nI 1 ∧ u = (sr (sr I 42 (cpR (I 41) (I 42) 364)) 40 (upd (I 40) 0 (nI 1)), J, O))) (F0 mi_ 2 ls []) := by
    intro fu
    induction fu with
    | zero => intro f k hf; exact absurd hf (Nat.not_lt_zero _)
    | succ fu ih_2 =>
      intro f k hf_2 hk hf H locs ls hB hl
      refine lv_iload_n hx hb dX8_image_2 rfl (lv_at hl 0 rfl) ?_
      refine lv_sipush (v := nI 364) hx hb dX8_image_3 (by decide) ?_
      refine jn_icmp_ge (tgt := 27) hx hb dX8_image_6 (by decide) (by omega) (by omega) (fun c_6 => ?_) (fun c_6 => ?_)
      · refine lv_aload_n hx hb dX8_image_27 rfl (lv_at hl 1 rfl) ?_
        refine lv_iconst (v := nI 1) hx hb dX8_image_28 (by decide) ?_
        refine j_put (20, 0, 0) 2 (u2 (sr I 42 (f)) 40 0 (nI 1), J, O) (ty := .boolean) hC hB in_X8 tyX8_ok nmX8 lk_144 dX8_image_29 jk20 rfl rfl (by decide) rfl (by decide +kernel) rfl rfl (Nat.le_of_ble_eq_true rfl) (fun z hz hne => jw_fr z hz hne) (rfl) (fun H locs hB => ?_)
        have hB : jB G A s_.heap (sr (sr I 42 (f)) 40 (upd (I 40) 0 (nI 1)), J, O) H locs := by rw [show sr (sr I 42 (f)) 40 (upd (I 40) 0 (nI 1)) = u2 (sr I 42 (f)) 40 0 (nI 1) from by funext a; simp only [u2_eq, sr]; (repeat' split) <;> first | rfl | omega | (subst_vars; rfl)]; exact hB
        refine lv_iconst (v := nI 1) hx hb dX8_image_32 (by decide) ?_
        exact j_iret hC hB dX8_image_33 (⟨rfl, by rw [hf, show k = 364 by omega]⟩)
      · refine lv_aload_n hx hb dX8_image_9 rfl (lv_at hl 1 rfl) ?_
        refine j_get (20, 0, 0) 1 (v := .ref (G.2.2.1 (21, 42, 0))) hC hB in_X8 lk_13 dX8_image_10 jk20 rfl rfl (by decide) rfl ?_
        refine lv_iload_n hx hb dX8_image_13 rfl (lv_at hl 0 rfl) ?_
        refine lv_aload_n hx hb dX8_image_14 rfl (lv_at hl 1 rfl) ?_
        refine j_get (20, 0, 0) 0 (v := .ref (G.2.2.1 (21, 41, 0))) hC hB in_X8 lk_7 dX8_image_15 jk20 rfl rfl (by decide) rfl ?_
        refine lv_iload_n hx hb dX8_image_18 rfl (lv_at hl 0 rfl) ?_
        refine j_ild 41 k hC hB dX8_image_19 (by decide) rfl (by simp only [lenI_41]; omega) ?_
        refine j_eqi (x := (sr I 42 (f)) 41 k) (y := (I 41) k) ((congrFun (sr_ne (show (41 : Nat) ≠ 42 by omega)) _)) ?_
        refine j_ist 42 k hC hB dX8_image_20 (by decide) rfl (by simp only [lenI_42]; omega) (fun H locs hB => ?_)
        have hB : jB G A s_.heap (sr I 42 (upd (f) k ((I 41) k)), J, O) H locs := by rw [show sr I 42 (upd (f) k ((I 41) k)) = u2 (sr I 42 (f)) 42 k ((I 41) k) from (u2_sr _ _ _ _ _).symm]; exact hB
        refine lv_iinc (v := nI (k + 1)) (lv' := [(1, .int (nI (k + 1))), (0, .ref (G.2.2.1 (20, 0, 0)))]) hx hb dX8_image_21 hl (k := 0) rfl (jn_inc _ 1) (by decide) rfl (fun ls hl => ?_)
        refine lv_goto (tgt := 2) hx hb dX8_image_24 (by decide) ?_
        exact ih_2 (upd (f) k ((I 41) k)) (k + 1) (by omega) (by omega) (by rw [hf]; exact cpR_step _ _ _) _ _ _ (jB_cast2 hB (by first | rfl | exact (sr_id _ _).symm | exact (srJ_id _ _).symm | (funext a; simp only [sr, srJ]; (repeat' split) <;> first | rfl | omega | (subst_vars; rfl))) (by first | rfl | exact (sr_id _ _).symm | exact (srJ_id _ _).symm | (funext a; simp only [sr, srJ]; (repeat' split) <;> first | rfl | omega | (subst_vars; rfl)))) (lv_sub hl [0, 1] rfl)
  exact lp_2 _ (I 42) 0 (Nat.lt_succ_self _) (by omega) ((cpR_0 _ _).symm) _ _ _ (jB_cast2 hB (by first | rfl | exact (sr_id _ _).symm | exact (srJ_id _ _).symm | (funext a; simp only [sr, srJ]; (repeat' split) <;> first | rfl | omega | (subst_vars; rfl))) (by first | rfl | exact (sr_id _ _).symm | exact (srJ_id _ _).symm | (funext a; simp only [sr, srJ]; (repeat' split) <;> first | rfl | omega | (subst_vars; rfl)))) (lv_sub hl [0, 1] rfl)
