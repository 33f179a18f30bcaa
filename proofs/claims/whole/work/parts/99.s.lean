/-! THE CLAIM OUT OF ONE WALK OF THE LAW'S BODY. Your part is whole_start (and what it stands on); all else here is the same for every law, but numbers. -/
def R_law : String := "RiddlePrisonLaw"
def lw_P (b : Addr) (xs : List Int32) (args : Array Value) (s : State) : Prop := args = #[.ref b] ∧ s.IntsAt b xs ∧ xs.length ≤ 448 ∧ (Jvm.Cond.and given_1 narrow_1).before args s = true
def lw_Q (_ : Array Value) (s : State) (o : Outcome) (t : State) : Prop := o = .returned (some (.int 1)) ∧ Framed s o t [] 600000 7302250
def lw_Z (below : List Frame) (a : Array Value) (s : State) : State → Prop := fun t => ∃ o, t.status = .running ∧ Ended t below o ∧ lw_Q a s o t
/-- the law's own end, with 1 on the stack, nothing written that was there before, its room as the claim has it -/
theorem lw_ret {p : Program} {l : Launch} {e : Env} {s : State} {m : MethodId} {below : List Frame} {meth : Method} {c : Code} {b : Nat} (hx : p.tables.exec = Jvm.exec) (hb : c.code = code) (hr : meth.sig.returnType = ret) (hlocks : meth.locks = false) {pc : Nat} {H : Heap} {ls : Array Slot} (hdg : decode code pc = .ok (.ireturn, 1)) : W p l e room_1 s m #[Value.ref b] below meth c H [] 600000 7302250 (lw_Z below #[Value.ref b] s) (F0 m pc ls [.int 1]) := by
  intro T hT X
  obtain ⟨fs, hret, hrun, hended, hW, hframe⟩ := X.leave (v := some (.int 1)) (hlocks := hlocks) (fun h => by rw [hr] at h; cases h)
  have hmeth' : T.vm.method? m = some meth := X.method'
  refine ⟨T.setFrames fs, ?_, .returned (some (.int 1)), hrun, hended, rfl, ⟨_, rfl⟩, hW, hframe⟩
  jvm_step X.here [X.here.top, hx, hb, hdg, hmeth', hr, ret, narrow_b1]
  (try refine ⟨rfl, ?_⟩); (try refine ⟨rfl, ?_⟩)
  first | (intro acts; rw [hret _ acts rfl rfl rfl]) | rw [hret _ _ rfl rfl rfl]
  exact Steps.refl _
/-- what holds at the law's entry: the machine, the code, the tables' words (any of lw_tbl by 'hts w (by decide +kernel)'), the script of L ints xs at the cell b, what the Statement gives of the start (any of its parts by flat_of_before) -/
def lw_At (p : Program) (s : State) (m : MethodId) (meth : Method) (c : Code) (b L : Nat) (xs : Nat → Int32) : Prop :=
  p.tables.exec = Jvm.exec ∧ c.code = code ∧ meth.sig.returnType = ret ∧ c.maxLocals = 4 ∧ s.vm.findClass R_law = some m.cls ∧ (∀ w ∈ lw_tbl, w.before #[Value.ref b] s = true) ∧ va_X b L xs s s.heap ∧ b < s.heap.size ∧ meth.locks = false ∧ (Jvm.Cond.and given_1 narrow_1).before #[Value.ref b] s = true

theorem ll_and (x : Int32) : ∃ k, k < 64 ∧ x &&& nI 63 = nI k := by
  refine ⟨(x &&& nI 63).toBitVec.toNat, ?_, ?_⟩
  · rw [Int32.toBitVec_and, BitVec.toNat_and]
    exact Nat.lt_of_le_of_lt Nat.and_le_right (by decide)
  · apply Int32.toBitVec_inj.mp
    show _ = BitVec.ofNat 32 _
    rw [BitVec.ofNat_toNat, BitVec.setWidth_eq]
theorem ll_gt {L i : Nat} (hL : L ≤ 448) (hi : i ≤ 448) : (nI L - nI 7 < nI i) ↔ L < i + 7 := by
  by_cases h : 7 ≤ L
  · rw [pk_sub h, Int32.lt_iff_toInt_lt, nI_toInt (by omega), nI_toInt (by omega)]
    omega
  · have hn : (nI L - nI 7).toInt < 0 := by
      rcases (show L = 0 ∨ L = 1 ∨ L = 2 ∨ L = 3 ∨ L = 4 ∨ L = 5 ∨ L = 6 by omega) with rfl | rfl | rfl | rfl | rfl | rfl | rfl <;> decide
    rw [Int32.lt_iff_toInt_lt, nI_toInt (by omega)]
    omega

set_option maxHeartbeats 4000000 in
theorem ll_loop {p : Program} {l : Launch} {e : Env} {s : State} {m : MethodId} {below : List Frame} {meth : Method} {c : Code} {cells slots : Nat} {G : jG} {A : Nat → Prop} {b L : Nat} {xs : Nat → Int32} (hC : jC p G s m meth c A cL_law ret 4 RL wsL_law #[Value.ref b]) (hX : va_X b L xs s s.heap) (hbl : b < s.heap.size) (hbA : ¬ A b) (hL : L ≤ 448) (hAS : ∀ q, A q → s.heap.size ≤ q) (hf : cells ≤ room_1.cells ∧ slots ≤ room_1.slots) : ∀ f i, L < i + f → i ≤ L → ∀ st H locs ls, jB G A s.heap st H locs → jRel st → lv_has ls 4 [(0, .ref b), (1, .ref (G.2.2.1 (0, 0, 0))), (2, .ref (G.2.2.1 (20, 0, 0))), (3, .int (nI i))] → W p l e room_1 s m #[Value.ref b] below meth c H locs cells slots (lw_Z below #[Value.ref b] s) (F0 m 18 ls []) := by
  obtain ⟨hx, hb, hr, hml, hown, hts, hlocks, hK, hA, hN⟩ := id hC
  intro f
  induction f with
  | zero => intro i h1 h2; omega
  | succ f ih =>
    intro i h1 h2 st H locs ls hB hR hl
    refine lv_iload_n hx hb dL_law_18 rfl (lv_at hl 3 rfl) ?_
    refine lv_aload_n hx hb dL_law_19 rfl (lv_at hl 0 rfl) ?_
    refine va_slen hx hb hX hbl hbA hB.2.2.2 dL_law_20 ?_
    refine lv_bipush (v := nI 7) hx hb dL_law_21 (by decide) ?_
    refine lv_isub hx hb dL_law_23 ?_
    refine lv_icmp_gt (tgt := 1435) hx hb dL_law_24 (by decide) (fun _ => ?_) (fun hc => ?_)
    · refine lv_iconst (v := 1) hx hb dL_law_1435 (by decide) ?_
      refine va_forget (fun q hq => hAS _ (hB.2.2.2.2.2 q hq)) ?_
      refine W.widen (k := 600000) (n := 7302250) hf.1 hf.2 ?_
      exact lw_ret hx hb hr hlocks dL_law_1436
    · have hi : i + 7 ≤ L := by
        rcases Nat.lt_or_ge L (i + 7) with q | q
        · exact absurd ((ll_gt hL (by omega)).mpr q) hc
        · exact q
      have next : ∀ st H locs, jB G A s.heap st H locs → jRel st → W p l e room_1 s m #[Value.ref b] below meth c H locs cells slots (lw_Z below #[Value.ref b] s) (F0 m 1429 ls []) := by
        intro st H locs hB hR
        refine lv_iinc (v := nI (i + 7)) (lv' := [(3, .int (nI (i + 7))), (0, .ref b), (1, .ref (G.2.2.1 (0, 0, 0))), (2, .ref (G.2.2.1 (20, 0, 0)))]) hx hb dL_law_1429 hl (k := 3) rfl (jn_inc _ 7) (by decide) rfl (fun ls hl => ?_)
        refine lv_goto (tgt := 18) hx hb dL_law_1432 (by decide) ?_
        exact ih (i + 7) (by omega) hi st H locs ls hB hR (lv_sub hl [1, 2, 3, 0] rfl)
      refine lv_aload_n hx hb dL_law_27 rfl (lv_at hl 0 rfl) ?_
      refine lv_iload_n hx hb dL_law_28 rfl (lv_at hl 3 rfl) ?_
      refine va_sld hx hb hX hbl hbA hB.2.2.2 (nI_in (show i < L by omega) (by omega)) dL_law_29 ?_
      refine lv_bipush (v := nI 63) hx hb dL_law_30 (by decide) ?_
      refine lv_iand hx hb dL_law_32 ?_
      obtain ⟨k, hk, he⟩ := ll_and (xs (nI i).toNatClampNeg)
      rw [he]
      obtain ⟨I, J, O⟩ := st
      by_cases hk2 : 34 ≤ k
      · exact lv_tableOut (tgt := 1429) hx hb dL_law_33 (Or.inr (by rw [nI_toInt (by omega)]; omega)) (by decide) (next _ H locs hB hR)
      rcases (show k = 0 ∨ k = 1 ∨ k = 2 ∨ k = 3 ∨ k = 4 ∨ k = 5 ∨ k = 6 ∨ k = 7 ∨ k = 8 ∨ k = 9 ∨ k = 10 ∨ k = 11 ∨ k = 12 ∨ k = 13 ∨ k = 14 ∨ k = 15 ∨ k = 16 ∨ k = 17 ∨ k = 18 ∨ k = 19 ∨ k = 20 ∨ k = 21 ∨ k = 22 ∨ k = 23 ∨ k = 24 ∨ k = 25 ∨ k = 26 ∨ k = 27 ∨ k = 28 ∨ k = 29 ∨ k = 30 ∨ k = 31 ∨ k = 32 ∨ k = 33 by omega) with rfl | rfl | rfl | rfl | rfl | rfl | rfl | rfl | rfl | rfl | rfl | rfl | rfl | rfl | rfl | rfl | rfl | rfl | rfl | rfl | rfl | rfl | rfl | rfl | rfl | rfl | rfl | rfl | rfl | rfl | rfl | rfl | rfl | rfl
      · exact lv_tableIn (off := 151) (tgt := 184) hx hb dL_law_33 (by decide) (by decide) (by decide) (by decide) (lc_door hC hl hX hbl hbA hL hB hR hi hf next)
      · exact lv_tableIn (off := 204) (tgt := 237) hx hb dL_law_33 (by decide) (by decide) (by decide) (by decide) (lc_man hC hl hX hbl hbA hL hB hR hi hf next)
      · exact lv_tableIn (off := 257) (tgt := 290) hx hb dL_law_33 (by decide) (by decide) (by decide) (by decide) (lc_of hC hl hX hbl hbA hL hB hR hi hf next)
      · exact lv_tableIn (off := 290) (tgt := 323) hx hb dL_law_33 (by decide) (by decide) (by decide) (by decide) (lc_at hC hl hX hbl hbA hL hB hR hi hf next)
      · exact lv_tableIn (off := 323) (tgt := 356) hx hb dL_law_33 (by decide) (by decide) (by decide) (by decide) (lc_power hC hl hX hbl hbA hL hB hR hi hf next)
      · exact lv_tableIn (off := 356) (tgt := 389) hx hb dL_law_33 (by decide) (by decide) (by decide) (by decide) (lc_type hC hl hX hbl hbA hL hB hR hi hf next)
      · exact lv_tableIn (off := 379) (tgt := 412) hx hb dL_law_33 (by decide) (by decide) (by decide) (by decide) (lc_read hC hl hX hbl hbA hL hB hR hi hf next)
      · exact lv_tableIn (off := 392) (tgt := 425) hx hb dL_law_33 (by decide) (by decide) (by decide) (by decide) (lc_count hC hl hX hbl hbA hL hB hR hi hf next)
      · exact lv_tableIn (off := 415) (tgt := 448) hx hb dL_law_33 (by decide) (by decide) (by decide) (by decide) (lc_attempt hC hl hX hbl hbA hL hB hR hi hf next)
      · exact lv_tableIn (off := 448) (tgt := 481) hx hb dL_law_33 (by decide) (by decide) (by decide) (by decide) (lc_whisper hC hl hX hbl hbA hL hB hR hi hf next)
      · exact lv_tableIn (off := 481) (tgt := 514) hx hb dL_law_33 (by decide) (by decide) (by decide) (by decide) (lc_set hC hl hX hbl hbA hL hB hR hi hf next)
      · exact lv_tableIn (off := 524) (tgt := 557) hx hb dL_law_33 (by decide) (by decide) (by decide) (by decide) (lc_study hC hl hX hbl hbA hL hB hR hi hf next)
      · exact lv_tableIn (off := 547) (tgt := 580) hx hb dL_law_33 (by decide) (by decide) (by decide) (by decide) (lc_drift hC hl hX hbl hbA hL hB hR hi hf next)
      · exact lv_tableIn (off := 570) (tgt := 603) hx hb dL_law_33 (by decide) (by decide) (by decide) (by decide) (lc_undo hC hl hX hbl hbA hL hB hR hi hf next)
      · exact lv_tableIn (off := 583) (tgt := 616) hx hb dL_law_33 (by decide) (by decide) (by decide) (by decide) (lc_seed hC hl hX hbl hbA hL hB hR hi hf next)
      · exact lv_tableIn (off := 606) (tgt := 639) hx hb dL_law_33 (by decide) (by decide) (by decide) (by decide) (lc_way hC hl hX hbl hbA hL hB hR hi hf next)
      · exact lv_tableIn (off := 649) (tgt := 682) hx hb dL_law_33 (by decide) (by decide) (by decide) (by decide) (lc_ways hC hl hX hbl hbA hL hB hR hi hf next)
      · exact lv_tableIn (off := 682) (tgt := 715) hx hb dL_law_33 (by decide) (by decide) (by decide) (by decide) (lc_reach hC hl hX hbl hbA hL hB hR hi hf next)
      · exact lv_tableIn (off := 705) (tgt := 738) hx hb dL_law_33 (by decide) (by decide) (by decide) (by decide) (lc_round hC hl hX hbl hbA hL hB hR hi hf next)
      · exact lv_tableIn (off := 738) (tgt := 771) hx hb dL_law_33 (by decide) (by decide) (by decide) (by decide) (lc_cut hC hl hX hbl hbA hL hB hR hi hf next)
      · exact lv_tableIn (off := 781) (tgt := 814) hx hb dL_law_33 (by decide) (by decide) (by decide) (by decide) (lc_bridges hC hl hX hbl hbA hL hB hR hi hf next)
      · exact lv_tableIn (off := 814) (tgt := 847) hx hb dL_law_33 (by decide) (by decide) (by decide) (by decide) (lc_wit hC hl hX hbl hbA hL hB hR hi hf next)
      · exact lv_tableIn (off := 847) (tgt := 880) hx hb dL_law_33 (by decide) (by decide) (by decide) (by decide) (lc_lesson hC hl hX hbl hbA hL hB hR hi hf next)
      · exact lv_tableIn (off := 880) (tgt := 913) hx hb dL_law_33 (by decide) (by decide) (by decide) (by decide) (lc_meet hC hl hX hbl hbA hL hB hR hi hf next)
      · exact lv_tableIn (off := 923) (tgt := 956) hx hb dL_law_33 (by decide) (by decide) (by decide) (by decide) (lc_hunt hC hl hX hbl hbA hL hB hR hi hf next)
      · exact lv_tableIn (off := 966) (tgt := 999) hx hb dL_law_33 (by decide) (by decide) (by decide) (by decide) (lc_wander hC hl hX hbl hbA hL hB hR hi hf next)
      · exact lv_tableIn (off := 1020) (tgt := 1053) hx hb dL_law_33 (by decide) (by decide) (by decide) (by decide) (lc_image hC hl hX hbl hbA hL hB hR hi hf next)
      · exact lv_tableIn (off := 1033) (tgt := 1066) hx hb dL_law_33 (by decide) (by decide) (by decide) (by decide) (lc_restore hC hl hX hbl hbA hL hB hR hi hf next)
      · exact lv_tableIn (off := 1046) (tgt := 1079) hx hb dL_law_33 (by decide) (by decide) (by decide) (by decide) (lc_heard hC hl hX hbl hbA hL hB hR hi hf next)
      · exact lv_tableIn (off := 1121) (tgt := 1154) hx hb dL_law_33 (by decide) (by decide) (by decide) (by decide) (lc_film hC hl hX hbl hbA hL hB hR hi hf next)
      · exact lv_tableIn (off := 1184) (tgt := 1217) hx hb dL_law_33 (by decide) (by decide) (by decide) (by decide) (lc_sheet hC hl hX hbl hbA hL hB hR hi hf next)
      · exact lv_tableIn (off := 1227) (tgt := 1260) hx hb dL_law_33 (by decide) (by decide) (by decide) (by decide) (lc_drop hC hl hX hbl hbA hL hB hR hi hf next)
      · exact lv_tableIn (off := 1250) (tgt := 1283) hx hb dL_law_33 (by decide) (by decide) (by decide) (by decide) (lc_item hC hl hX hbl hbA hL hB hR hi hf next)
      · exact lv_tableIn (off := 1333) (tgt := 1366) hx hb dL_law_33 (by decide) (by decide) (by decide) (by decide) (lc_copy hC hl hX hbl hbA hL hB hR hi hf next)
