set_option maxHeartbeats 4000000 in
set_option maxRecDepth 100000 in
theorem c_X1_reached (l_ : Launch) (G : jG) (I : Nat → Nat → Int32) (J : Nat → Nat → Int64) (O : Nat → Nat → Nat)  : jMi l_ G yX1_reached wsX1_reached ({ frames := 0, cells := 0, slots := 0, locals := 0 }) [.ref (G.2.2.1 (11, 0, 0))] (I, J, O) (fun r u => r = rchC (I 28) 8 ∧ u = (I, J, O)) := by
  refine jMi_of (cc := cX1_reached) (maxL := 3) (ret := (some .int)) (lv0 := [(0, .ref (G.2.2.1 (11, 0, 0)))]) (by decide) rfl (Nat.le_of_ble_eq_true rfl) rfl ?_
  intro pg_ ev_ s_ mi_ below meth cd_ A ls hC hB hl
  obtain ⟨hx, hb, hr, hml, hown, hts, hlocks, hK, hA⟩ := id hC
  have lk_22 := hts (.fieldLink RX1 22 "RiddlePrison$Foresight" "far" "[I") (by decide +kernel)
  have in_X1 := (fun w h => List.mem_cons_of_mem _ (List.mem_append_right _ h) : ∀ w ∈ wsX10, w ∈ wsX1_reached)
  refine lv_iconst (v := nI 0) hx hb dX1_reached_0 (by decide) ?_
  refine lv_istore_n (lv' := [(1, .int (nI 0)), (0, .ref (G.2.2.1 (11, 0, 0)))]) hx hb dX1_reached_1 rfl hl (by decide) rfl (fun ls hl => ?_)
  refine lv_iconst (v := nI 0) hx hb dX1_reached_2 (by decide) ?_
  refine lv_istore_n (lv' := [(2, .int (nI 0)), (1, .int (nI 0)), (0, .ref (G.2.2.1 (11, 0, 0)))]) hx hb dX1_reached_3 rfl hl (by decide) rfl (fun ls hl => ?_)
  have lp_4 : ∀ (fu : Nat) (set : Int32) (k : Nat), 8 - k < fu → (k ≤ 8) → (set = rchC (I 28) k) → ∀ H locs ls, jB G A s_.heap (I, J, O) H locs → lv_has ls 3 [(2, .int (nI k)), (1, .int set), (0, .ref (G.2.2.1 (11, 0, 0)))] → W pg_ l_ ev_ ({ frames := 0, cells := 0, slots := 0, locals := 0 }) s_ mi_ ([.ref (G.2.2.1 (11, 0, 0))]).toArray below meth cd_ H locs 0 0 (jQi G A below [.ref (G.2.2.1 (11, 0, 0))] s_ (fun r u => r = rchC (I 28) 8 ∧ u = (I, J, O))) (F0 mi_ 4 ls []) := by
    intro fu
    induction fu with
    | zero => intro set k hf; exact absurd hf (Nat.not_lt_zero _)
    | succ fu ih_4 =>
      intro set k hf_4 hk hs H locs ls hB hl
      refine lv_iload_n hx hb dX1_reached_4 rfl (lv_at hl 0 rfl) ?_
      refine lv_bipush (v := nI 8) hx hb dX1_reached_5 (by decide) ?_
      refine jn_icmp_ge (tgt := 31) hx hb dX1_reached_7 (by decide) (by omega) (by omega) (fun c_7 => ?_) (fun c_7 => ?_)
      · refine lv_iload_n hx hb dX1_reached_31 rfl (lv_at hl 1 rfl) ?_
        exact j_iret hC hB dX1_reached_32 (⟨by rw [hs, show k = 8 by omega], rfl⟩)
      · refine lv_aload_n hx hb dX1_reached_10 rfl (lv_at hl 2 rfl) ?_
        refine j_get (11, 0, 0) 4 (v := .ref (G.2.2.1 (21, 28, 0))) hC hB in_X1 lk_22 dX1_reached_11 jk11 rfl rfl (by decide) rfl ?_
        refine lv_iload_n hx hb dX1_reached_14 rfl (lv_at hl 0 rfl) ?_
        refine j_ild 28 k hC hB dX1_reached_15 (by decide) rfl (by simp only [lenI_28]; omega) ?_
        refine j_eqi (y := (I 28) k) rfl ?_
        refine lv_if_lt (tgt := 25) hx hb dX1_reached_16 (by decide) (fun c_16 => ?_) (fun c_16 => ?_)
        · refine lv_iinc (v := nI (k + 1)) (lv' := [(2, .int (nI (k + 1))), (1, .int set), (0, .ref (G.2.2.1 (11, 0, 0)))]) hx hb dX1_reached_25 hl (k := 0) rfl (jn_inc _ 1) (by decide) rfl (fun ls hl => ?_)
          refine lv_goto (tgt := 4) hx hb dX1_reached_28 (by decide) ?_
          exact ih_4 set (k + 1) (by omega) (by omega) (by simp [rchC, bitI, hs, c_16]) _ _ _ hB (lv_sub hl [0, 1, 2] rfl)
        · refine lv_iload_n hx hb dX1_reached_19 rfl (lv_at hl 1 rfl) ?_
          refine lv_iconst (v := nI 1) hx hb dX1_reached_20 (by decide) ?_
          refine lv_iload_n hx hb dX1_reached_21 rfl (lv_at hl 0 rfl) ?_
          refine lv_ishl hx hb dX1_reached_22 ?_
          refine lv_ior hx hb dX1_reached_23 ?_
          refine lv_istore_n (lv' := [(1, .int (set ||| ((nI 1) <<< ((nI k) &&& 31)))), (2, .int (nI k)), (0, .ref (G.2.2.1 (11, 0, 0)))]) hx hb dX1_reached_24 rfl hl (by decide) rfl (fun ls hl => ?_)
          refine lv_iinc (v := nI (k + 1)) (lv' := [(2, .int (nI (k + 1))), (1, .int (set ||| ((nI 1) <<< ((nI k) &&& 31)))), (0, .ref (G.2.2.1 (11, 0, 0)))]) hx hb dX1_reached_25 hl (k := 1) rfl (jn_inc _ 1) (by decide) rfl (fun ls hl => ?_)
          refine lv_goto (tgt := 4) hx hb dX1_reached_28 (by decide) ?_
          exact ih_4 (set ||| ((nI 1) <<< ((nI k) &&& 31))) (k + 1) (by omega) (by omega) (by simp [rchC, bitI, hs, c_16]) _ _ _ hB (lv_sub hl [0, 1, 2] rfl)
  exact lp_4 _ (nI 0) 0 (Nat.lt_succ_self _) (by omega) (rfl) _ _ _ hB (lv_sub hl [0, 1, 2] rfl)
