/-! letters; texts (they lie outside the world) -/
section JT
variable {p : Program} {l : Launch} {e : Env} {R : Room} {s : State} {m : MethodId} {av : List Value} {args : Array Value} {below : List Frame} {meth : Method} {c : Code} {H : Heap} {locs : List Loc} {cells slots : Nat} {Q : State → Prop} {cc : ByteArray} {pc : Nat} {ls : Array Slot} {rest : List Value}
variable {G : jG} {A : Nat → Prop} {H0 : Heap} {st : jS} {ret : Option FieldType} {maxL : Nat} {own : String} {Ts : List Cond}
theorem j_cld (n : Nat) {i : Int32} (hC : jC p G s m meth c A cc ret maxL own Ts args) (hB : jB G A H0 st H locs) (hdg : decode cc pc = .ok (.caload, 1)) (hi : i = nI n) (hn : n < 90)
    (kk : W p l e R s m args below meth c H locs cells slots Q (F0 m (pc + 1) ls (.int (st.1 22 n) :: rest))) : W p l e R s m args below meth c H locs cells slots Q (F0 m pc ls (.int i :: .ref (G.2.2.1 (10, 0, 0)) :: rest)) := by
  obtain ⟨hx', hb, hr', hml, hown, hts, hlocks, hK, hA, hN, hTx⟩ := hC
  obtain ⟨q0, hq⟩ := jW_get st hB.1 jk10
  subst hi
  refine va_cald hx' hb hK hB.2.1 q0 0 hq rfl (vp_in_nI hn (by decide)) hdg ?_
  rw [nI_clamp (by omega)]
  exact kk
theorem j_cst (n : Nat) {i v : Int32} (hC : jC p G s m meth c A cc ret maxL own Ts args) (hB : jB G A H0 st H locs) (hdg : decode cc pc = .ok (.castore, 1)) (hi : i = nI n) (hn : n < 90) (hv : vp_nar .char v = v)
    (kk : ∀ H locs, jB G A H0 (u2 st.1 22 n v, st.2) H locs → W p l e R s m args below meth c H locs cells slots Q (F0 m (pc + 1) ls rest)) : W p l e R s m args below meth c H locs cells slots Q (F0 m pc ls (.int v :: .int i :: .ref (G.2.2.1 (10, 0, 0)) :: rest)) := by
  obtain ⟨hx', hb, hr', hml, hown, hts, hlocks, hK, hA, hN, hTx⟩ := hC
  obtain ⟨q0, hq⟩ := jW_get st hB.1 jk10
  subst hi
  have hs := jW_set (e' := .inl (G.2.1 0, 90, .inl (upd (st.1 22) n v))) (st' := (u2 st.1 22 n v, st.2)) hB.1 hB.2.2.1 jk10 hq (fun z hz hne => jw_fr z hz hne) (by show _ = Sum.inl (G.2.1 0, 90, Sum.inl (u2 st.1 22 n v 22)); rw [u2_upd])
  refine va_cast hx' hb hK hB.2.1 hB.2.2.1 hB.2.2.2 q0 0 hq rfl (vp_in_nI hn (by decide)) hdg (fun H locs hP hD hS => ?_)
  rw [nI_clamp (by omega), hv] at hP hD
  rw [hs] at hP hD
  exact kk H locs ⟨hB.1, hP, hD, hS⟩
theorem j_bret {post : Int32 → jS → Prop} {v : Int32} (hC : jC p G s m meth c A cc (some .byte) maxL own Ts av.toArray) (hB : jB G A s.heap st H locs) (hdg : decode cc pc = .ok (.ireturn, 1)) (hn : narrow .byte (.int v) = .int v) (hp : post v st) : W p l e R s m av.toArray below meth c H locs 0 0 (jQi G A below av s post) (F0 m pc ls [.int v]) := by
  obtain ⟨hx, hb, hr, hml, hown, hts, hlocks, hK, hA, hN, hTx⟩ := hC
  exact W.zret (v := v) hx hb hr hn (fun t ht hW => ⟨⟨v, st, rfl, hp, hB.1, by rw [ht]; exact hB.2.1, va_K.moved hW.alike hK, hB.2.2.1, hN.warm hW⟩, hB.2.2.2.F ht⟩) hB.2.2.2.2.2 hdg
theorem j_tval (i : Nat) {index : Nat} (hi : i < 4) (hC : jC p G s m meth c A cc ret maxL own Ts args) (hB : jB G A s.heap st H locs) (hlink : (Cond.fieldLink own index "java/lang/String" "value" "[B").before args s = true) (hdg : decode cc pc = .ok (.getfield index, 3))
    (kk : W p l e R s m args below meth c H locs cells slots Q (F0 m (pc + 3) ls (.ref (G.2.2.1 (31, i, 0)) :: rest))) : W p l e R s m args below meth c H locs cells slots Q (F0 m pc ls (.ref (G.2.2.1 (30, i, 0)) :: rest)) := by
  obtain ⟨hx', hb, hr', hml, hown, hts, hlocks, hK, hA, hN, hTx⟩ := hC
  exact vk_getf hx' hb (hTx.1.1 i hi).2.2.1 hB.2.2.2 hown hlink (fun _ h => h) hdg kk
theorem j_tcod (i : Nat) {index : Nat} (hi : i < 4) (hC : jC p G s m meth c A cc ret maxL own Ts args) (hB : jB G A s.heap st H locs) (hlink : (Cond.fieldLink own index "java/lang/String" "coder" "B").before args s = true) (hdg : decode cc pc = .ok (.getfield index, 3))
    (kk : W p l e R s m args below meth c H locs cells slots Q (F0 m (pc + 3) ls (.int (nI 0) :: rest))) : W p l e R s m args below meth c H locs cells slots Q (F0 m pc ls (.ref (G.2.2.1 (30, i, 0)) :: rest)) := by
  obtain ⟨hx', hb, hr', hml, hown, hts, hlocks, hK, hA, hN, hTx⟩ := hC
  exact vk_getf hx' hb (hTx.1.1 i hi).2.1 hB.2.2.2 hown hlink (fun _ h => h) hdg kk
theorem j_tcs {index : Nat} (hC : jC p G s m meth c A cc ret maxL own Ts args) (hB : jB G A s.heap st H locs) (hlink : (Cond.fieldLink own index "java/lang/String" "COMPACT_STRINGS" "Z").before args s = true) (hdg : decode cc pc = .ok (.getstatic index, 3))
    (kk : W p l e R s m args below meth c H locs cells slots Q (F0 m (pc + 3) ls (.int (nI 1) :: rest))) : W p l e R s m args below meth c H locs cells slots Q (F0 m pc ls rest) := by
  obtain ⟨hx', hb, hr', hml, hown, hts, hlocks, hK, hA, hN, hTx⟩ := hC
  exact va_gets hx' hb hTx.2.2 hB.2.2.2 hown hlink (fun _ h => h) hdg kk
theorem j_tlen (i : Nat) (hi : i < 4) (hC : jC p G s m meth c A cc ret maxL own Ts args) (hB : jB G A s.heap st H locs) (hdg : decode cc pc = .ok (.arraylength, 1))
    (kk : W p l e R s m args below meth c H locs cells slots Q (F0 m (pc + 1) ls (.int (nI (jtL.getD i 0)) :: rest))) : W p l e R s m args below meth c H locs cells slots Q (F0 m pc ls (.ref (G.2.2.1 (31, i, 0)) :: rest)) := by
  obtain ⟨hx', hb, hr', hml, hown, hts, hlocks, hK, hA, hN, hTx⟩ := hC
  exact va_tlen hx' hb (hTx.1.1 i hi).2.2.2 hB.2.2.2 rfl hdg kk
theorem jtL_lt : ∀ i, i < 4 → jtL.getD i 0 ≤ 10 := by decide
theorem j_tb (i n : Nat) {k : Int32} (hi : i < 4) (hC : jC p G s m meth c A cc ret maxL own Ts args) (hB : jB G A s.heap st H locs) (hdg : decode cc pc = .ok (.baload, 1)) (hk : k = nI n) (hn : n < jtL.getD i 0)
    (kk : W p l e R s m args below meth c H locs cells slots Q (F0 m (pc + 1) ls (.int ((jtB.getD i []).getD n 0) :: rest))) : W p l e R s m args below meth c H locs cells slots Q (F0 m pc ls (.int k :: .ref (G.2.2.1 (31, i, 0)) :: rest)) := by
  obtain ⟨hx', hb, hr', hml, hown, hts, hlocks, hK, hA, hN, hTx⟩ := hC
  have hl := jtL_lt i hi
  subst hk
  exact va_tb hx' hb (hTx.1.1 i hi).2.2.2 hB.2.2.2 (vp_in_nI hn (by omega)) (by rw [nI_clamp (by omega)]) hdg kk
theorem j_tldc (i : Nat) {index : Nat} (hi : i < 4) (hI : jtI i = index) (hO : own = RX6) (hC : jC p G s m meth c A cc ret maxL own Ts args) (hB : jB G A s.heap st H locs) (hdg : decode cc pc = .ok (.ldc index, 2))
    (kk : W p l e R s m args below meth c H locs cells slots Q (F0 m (pc + 2) ls (.ref (G.2.2.1 (30, i, 0)) :: rest))) : W p l e R s m args below meth c H locs cells slots Q (F0 m pc ls rest) := by
  obtain ⟨hx', hb, hr', hml, hown, hts, hlocks, hK, hA, hN, hTx⟩ := hC
  subst hO
  have h2 := hTx.2.1 i hi
  rw [hI] at h2
  exact va_ldcS hx' hb hown h2 hdg kk
variable {y : MethodName} {bytes : ByteArray} {nL n index : Nat} {ws : List Cond} {rm : Room} {As st0 : List Value} {mL : Nat} {rt : Option FieldType}
theorem j_tcvi {post : Int32 → jS → Prop} (i : Nat) (As : List Value) (hi : i < 4) (hC : jC p G s m meth c A cc ret maxL own Ts args) (hB : jB G A s.heap st H locs) (hl : ls.size = maxL) (hM : jMi l G y ws rm (.ref (G.2.2.1 (30, i, 0)) :: As) st post) (cw : CallW R s args own "java/lang/String" index y bytes mL rt ws rm 0 0 n) (hdg : decode cc pc = .ok (.invokevirtual index, 3)) (hn : As.length = n) (hstack : st0 = As.reverse ++ .ref (G.2.2.1 (30, i, 0)) :: rest) (hW : (rest.map fun v => v.category).sum ≤ 8)
    (kk : ∀ r st' H locs, post r st' → jB G A s.heap st' H locs → W p l e R s m args below meth c H locs 0 0 Q (F0 m (pc + 3) ls (.int r :: rest))) : W p l e R s m args below meth c H locs 0 0 Q (F0 m pc ls st0) := by
  obtain ⟨hx', hb, hr', hml, hown, hts, hlocks, hK, hA, hN, hTx⟩ := hC
  exact va_calli (va_runV (As := As) (rest := rest) ⟨hx', hb, hml, hown, hts⟩ (hM H.size) cw ⟨jPc_blind, vk_recv hTx.1 hi hB.2.2.2, fun U hU hWm => ⟨rfl, jB_pre hK hA ⟨hN, hTx⟩ hB hU hWm⟩⟩ rfl hn hl hstack (lv_room hW) hdg ⟨Nat.zero_le _, Nat.zero_le _⟩) hB.2.2.2 (fun q _ h => jB_free hA hB q h) (jB_free hA hB) (fun r u t H1 locs1 ht _ hp hb _ _ hS => kk r u H1 locs1 hp (jB_post hA hB ht hb hS))
end JT
/-! where a letter stands in a text -/
def sxI (P : Nat → Bool) : Nat → Nat → Int32
  | 0, _ => -1
  | n + 1, d => if P d = true then nI d else sxI P n (d + 1)
theorem sxI_no {P : Nat → Bool} {n d : Nat} (hd : d < n) (h : P d = false) : sxI P (n - d) d = sxI P (n - (d + 1)) (d + 1) := by
  rw [show n - d = (n - (d + 1)) + 1 by omega, sxI, h]; rfl
theorem sxI_yes {P : Nat → Bool} {n d : Nat} (hd : d < n) (h : P d = true) : sxI P (n - d) d = nI d := by
  rw [show n - d = (n - (d + 1)) + 1 by omega, sxI, h]; rfl
def txP (i : Nat) (x : Int32) (j : Nat) : Bool := decide ((jtB.getD i []).getD j 0 = x.toInt8.toInt32)
def txO (i : Nat) (x : Int32) : Int32 := if (!decide (x < 0) && !decide (nI 255 < x)) = true then sxI (txP i x) (jtL.getD i 0) 0 else -1
theorem sh0 : ∀ i, i < 4 → nI (jtL.getD i 0) >>> (nI 0 &&& 31) = nI (jtL.getD i 0) := by decide
theorem jtL_pos : ∀ i, i < 4 → 0 < jtL.getD i 0 := by decide
