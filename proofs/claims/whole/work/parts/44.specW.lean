/-! whole rows set at once; the JDK's fill, bitCount, arraycopy -/
theorem jw_srI {cA : Nat → ClassId} {ad : jP → Nat} {I : Nat → Nat → Int32} {J : Nat → Nat → Int64} {O : Nat → Nat → Nat} {r : Nat} {f : Nat → Int32} (hr : (27 ≤ r ∧ r ≤ 31) ∨ (41 ≤ r ∧ r ≤ 53)) : ∀ x, jok x → x ≠ (21, r, 0) → jw cA ad (sr I r f, J, O) x = jw cA ad (I, J, O) x := by
  have h : ∀ a, ¬ a = r → sr I r f a = I a := fun a h => sr_ne h
  rintro ⟨a, b, d⟩ hx hn
  match a, hx, hn with
  | 0, hx, hn => simp only [jw, h 24 (by omega)]
  | 1, hx, hn => have hb : b < 19 := hx.1; simp only [jw, h b (by omega)]
  | 2, hx, hn => rfl
  | 3, hx, hn => rfl
  | 4, hx, hn => have hb : b < 19 := hx.1; simp only [jw, h b (by omega)]
  | 5, hx, hn => have hb := jk5b hx; simp only [jw, h b (by omega)]
  | 6, hx, hn => rfl
  | 7, hx, hn => simp only [jw, h 21 (by omega)]
  | 8, hx, hn => rfl
  | 9, hx, hn => simp only [jw, h 23 (by omega)]
  | 10, hx, hn => simp only [jw, h 22 (by omega)]
  | 11, hx, hn => simp only [jw, h 26 (by omega)]
  | 12, hx, hn => rfl
  | 13, hx, hn => rfl
  | 14, hx, hn => rfl
  | 15, hx, hn => simp only [jw, h 33 (by omega)]
  | 16, hx, hn => rfl
  | 17, hx, hn => rfl
  | 18, hx, hn => rfl
  | 19, hx, hn => rfl
  | 20, hx, hn => simp only [jw, h 40 (by omega)]
  | 21, hx, hn =>
    have h0 : d = 0 := hx.2
    subst h0
    have hb : ¬ b = r := by rintro rfl; exact hn rfl
    simp only [jw, h b hb]
  | 22, hx, hn => rfl
  | a + 23, hx, hn => exact hx.elim
theorem jw_srJ {cA : Nat → ClassId} {ad : jP → Nat} {I : Nat → Nat → Int32} {J : Nat → Nat → Int64} {O : Nat → Nat → Nat} {r : Nat} {f : Nat → Int64} : ∀ x, jok x → x ≠ (22, r, 0) → jw cA ad (I, srJ J r f, O) x = jw cA ad (I, J, O) x := by
  rintro ⟨a, b, d⟩ hx hn
  match a, hx, hn with
  | 22, hx, hn =>
    have h0 : d = 0 := hx.2
    subst h0
    have hb : ¬ b = r := by rintro rfl; exact hn rfl
    simp only [jw, srJ_ne hb]
  | 0, hx, hn => rfl
  | 1, hx, hn => rfl
  | 2, hx, hn => rfl
  | 3, hx, hn => rfl
  | 4, hx, hn => rfl
  | 5, hx, hn => rfl
  | 6, hx, hn => rfl
  | 7, hx, hn => rfl
  | 8, hx, hn => rfl
  | 9, hx, hn => rfl
  | 10, hx, hn => rfl
  | 11, hx, hn => rfl
  | 12, hx, hn => rfl
  | 13, hx, hn => rfl
  | 14, hx, hn => rfl
  | 15, hx, hn => rfl
  | 16, hx, hn => rfl
  | 17, hx, hn => rfl
  | 18, hx, hn => rfl
  | 19, hx, hn => rfl
  | 20, hx, hn => rfl
  | 21, hx, hn => rfl
  | a + 23, hx, hn => exact hx.elim
section JZ
variable {p : Program} {l : Launch} {e : Env} {R : Room} {s : State} {m : MethodId} {args : Array Value} {below : List Frame} {meth : Method} {c : Code} {H : Heap} {locs : List Loc} {cells slots : Nat} {Q : State → Prop} {cc : ByteArray} {pc : Nat} {ls : Array Slot} {rest : List Value}
variable {G : jG} {A : Nat → Prop} {H0 : Heap} {I : Nat → Nat → Int32} {J : Nat → Nat → Int64} {O : Nat → Nat → Nat} {st : jS} {ret : Option FieldType} {maxL : Nat} {own : String} {Ts : List Cond}
theorem j_alenI (r : Nat) (hC : jC p G s m meth c A cc ret maxL own Ts args) (hB : jB G A H0 st H locs) (hdg : decode cc pc = .ok (.arraylength, 1)) (hr : (27 ≤ r ∧ r ≤ 31) ∨ (41 ≤ r ∧ r ≤ 53)) (kk : W p l e R s m args below meth c H locs cells slots Q (F0 m (pc + 1) ls (.int (nI (lenI r)) :: rest))) : W p l e R s m args below meth c H locs cells slots Q (F0 m pc ls (.ref (G.2.2.1 (21, r, 0)) :: rest)) := by
  obtain ⟨hx', hb, hr', hml, hown, hts, hlocks, hK, hA, hN, hTx⟩ := hC
  obtain ⟨q0, hq⟩ := jW_get st hB.1 (jk21 hr)
  exact va_alen hx' hb hK hB.2.1 q0 1 hq rfl rfl hdg kk
theorem j_alenJ (r : Nat) (hC : jC p G s m meth c A cc ret maxL own Ts args) (hB : jB G A H0 st H locs) (hdg : decode cc pc = .ok (.arraylength, 1)) (hr : r < 6 ∨ (10 ≤ r ∧ r ≤ 13)) (kk : W p l e R s m args below meth c H locs cells slots Q (F0 m (pc + 1) ls (.int (nI (lenJ r)) :: rest))) : W p l e R s m args below meth c H locs cells slots Q (F0 m pc ls (.ref (G.2.2.1 (22, r, 0)) :: rest)) := by
  obtain ⟨hx', hb, hr', hml, hown, hts, hlocks, hK, hA, hN, hTx⟩ := hC
  obtain ⟨q0, hq⟩ := jW_get st hB.1 (jk22 hr)
  exact va_alen hx' hb hK hB.2.1 q0 2 hq rfl rfl hdg kk
/-- System.arraycopy of longs, of ints -/
theorem j_cpL (r0 r sp dp n : Nat) {index : Nat} (hC : jC p G s m meth c A cc ret maxL own Ts args) (hB : jB G A H0 (I, J, O) H locs) (hl : ls.size = maxL) (hlink : (Cond.methodLink own index arraycopyName).before args s = true) (hnat : (Cond.native arraycopyName).before args s = true) (hstat : (Cond.static arraycopyName).before args s = true) (hini : (Cond.initialized "java/lang/System").before args s = true) (hdg : decode cc pc = .ok (.invokestatic index, 3))
    (hr0 : r0 < 6 ∨ (10 ≤ r0 ∧ r0 ≤ 13)) (hr : r < 6 ∨ (10 ≤ r ∧ r ≤ 13)) (hs : sp + n ≤ lenJ r0) (hd : dp + n ≤ lenJ r) (hframes : 1 ≤ R.frames) (hlocals : (rest.map fun v => v.category).sum + (nativeFrameWords "java/lang/System" "arraycopy" 5 + 11) ≤ R.locals)
    (kk : ∀ H locs, jB G A H0 (I, srJ J r (va_cpy (J r0) (J r) sp dp n), O) H locs → W p l e R s m args below meth c H locs cells slots Q (F0 m (pc + 3) ls rest)) : W p l e R s m args below meth c H locs cells slots Q (F0 m pc ls (.int (nI n) :: .int (nI dp) :: .ref (G.2.2.1 (22, r, 0)) :: .int (nI sp) :: .ref (G.2.2.1 (22, r0, 0)) :: rest)) := by
  obtain ⟨hx', hb, hr', hml, hown, hts, hlocks, hK, hA, hN, hTx⟩ := hC
  obtain ⟨q0, hq⟩ := jW_get (I, J, O) hB.1 (jk22 hr0)
  obtain ⟨q1, hq1⟩ := jW_get (I, J, O) hB.1 (jk22 hr)
  have h0 := lenJ_lt r0
  have h1 := lenJ_lt r
  have hset := jW_set (e' := .inl (G.2.1 2, lenJ r, .inr (.inl (va_cpy (J r0) (J r) sp dp n)))) (st' := (I, srJ J r (va_cpy (J r0) (J r) sp dp n), O)) hB.1 hB.2.2.1 (jk22 hr) hq1 (fun z hz hne => jw_srJ z hz hne) (by show _ = Sum.inl (G.2.1 2, lenJ r, Sum.inr (Sum.inl (srJ J r (va_cpy (J r0) (J r) sp dp n) r))); rw [srJ_self])
  refine va_copyl hx' hb (by rw [hml, hl]) hown hlink hnat hstat hini hK hB.2.1 hB.2.2.1 hB.2.2.2 q0 q1 2 2 hq hq1 rfl rfl rfl (nI_pos (by omega)) (nI_pos (by omega)) (nI_pos (by omega)) (by rw [nI_clamp (by omega), nI_clamp (by omega)]; exact hs) (by rw [nI_clamp (by omega), nI_clamp (by omega)]; exact hd) (fun i hi => rfl) hframes hlocals hdg (fun H locs hP hD hS => ?_)
  rw [nI_clamp (by omega), nI_clamp (by omega), nI_clamp (by omega)] at hP hD
  rw [hset] at hP hD
  exact kk H locs ⟨hB.1, hP, hD, hS⟩
theorem j_cpI (r0 r sp dp n : Nat) {index : Nat} (hC : jC p G s m meth c A cc ret maxL own Ts args) (hB : jB G A H0 (I, J, O) H locs) (hl : ls.size = maxL) (hlink : (Cond.methodLink own index arraycopyName).before args s = true) (hnat : (Cond.native arraycopyName).before args s = true) (hstat : (Cond.static arraycopyName).before args s = true) (hini : (Cond.initialized "java/lang/System").before args s = true) (hdg : decode cc pc = .ok (.invokestatic index, 3))
    (hr0 : (27 ≤ r0 ∧ r0 ≤ 31) ∨ (41 ≤ r0 ∧ r0 ≤ 53)) (hr : (27 ≤ r ∧ r ≤ 31) ∨ (41 ≤ r ∧ r ≤ 53)) (hs : sp + n ≤ lenI r0) (hd : dp + n ≤ lenI r) (hframes : 1 ≤ R.frames) (hlocals : (rest.map fun v => v.category).sum + (nativeFrameWords "java/lang/System" "arraycopy" 5 + 11) ≤ R.locals)
    (kk : ∀ H locs, jB G A H0 (sr I r (va_cpy (I r0) (I r) sp dp n), J, O) H locs → W p l e R s m args below meth c H locs cells slots Q (F0 m (pc + 3) ls rest)) : W p l e R s m args below meth c H locs cells slots Q (F0 m pc ls (.int (nI n) :: .int (nI dp) :: .ref (G.2.2.1 (21, r, 0)) :: .int (nI sp) :: .ref (G.2.2.1 (21, r0, 0)) :: rest)) := by
  obtain ⟨hx', hb, hr', hml, hown, hts, hlocks, hK, hA, hN, hTx⟩ := hC
  obtain ⟨q0, hq⟩ := jW_get (I, J, O) hB.1 (jk21 hr0)
  obtain ⟨q1, hq1⟩ := jW_get (I, J, O) hB.1 (jk21 hr)
  have h0 := lenI_lt r0
  have h1 := lenI_lt r
  have hset := jW_set (e' := .inl (G.2.1 1, lenI r, .inl (va_cpy (I r0) (I r) sp dp n))) (st' := (sr I r (va_cpy (I r0) (I r) sp dp n), J, O)) hB.1 hB.2.2.1 (jk21 hr) hq1 (fun z hz hne => jw_srI hr z hz hne) (by show _ = Sum.inl (G.2.1 1, lenI r, Sum.inl (sr I r (va_cpy (I r0) (I r) sp dp n) r)); rw [sr_self])
  refine va_copyi hx' hb (by rw [hml, hl]) hown hlink hnat hstat hini hK hB.2.1 hB.2.2.1 hB.2.2.2 q0 q1 1 1 (ty := .int) hq hq1 rfl rfl rfl (nI_pos (by omega)) (nI_pos (by omega)) (nI_pos (by omega)) (by rw [nI_clamp (by omega), nI_clamp (by omega)]; exact hs) (by rw [nI_clamp (by omega), nI_clamp (by omega)]; exact hd) (fun i hi => rfl) hframes hlocals hdg (fun H locs hP hD hS => ?_)
  rw [nI_clamp (by omega), nI_clamp (by omega), nI_clamp (by omega)] at hP hD
  rw [hset] at hP hD
  exact kk H locs ⟨hB.1, hP, hD, hS⟩
end JZ
def filI (old : Nat → Int32) (v : Int32) (k : Nat) : Nat → Int32 := fun j => if j < k then v else old j
def filJ (old : Nat → Int64) (v : Int64) (k : Nat) : Nat → Int64 := fun j => if j < k then v else old j
theorem filI_0 (old : Nat → Int32) (v : Int32) : filI old v 0 = old := funext fun j => if_neg (by omega)
theorem filJ_0 (old : Nat → Int64) (v : Int64) : filJ old v 0 = old := funext fun j => if_neg (by omega)
theorem filI_step (old : Nat → Int32) (v : Int32) (k : Nat) : upd (filI old v k) k v = filI old v (k + 1) := by
  funext j
  by_cases hj : j = k
  · subst hj; rw [pk_us]; simp only [filI]; rw [if_pos (show j < j + 1 by omega)]
  · rw [pk_un hj]; simp only [filI]
    by_cases h2 : j < k
    · rw [if_pos h2, if_pos (show j < k + 1 by omega)]
    · rw [if_neg h2, if_neg (show ¬ j < k + 1 by omega)]
theorem filJ_step (old : Nat → Int64) (v : Int64) (k : Nat) : vp_updL (filJ old v k) k v = filJ old v (k + 1) := by
  funext j
  by_cases hj : j = k
  · subst hj; rw [pk_uLs]; simp only [filJ]; rw [if_pos (show j < j + 1 by omega)]
  · rw [pk_uLn hj]; simp only [filJ]
    by_cases h2 : j < k
    · rw [if_pos h2, if_pos (show j < k + 1 by omega)]
    · rw [if_neg h2, if_neg (show ¬ j < k + 1 by omega)]
theorem lenJ_s {s : Nat} (h : s < 4) : lenJ (2 + s) = 24 := by
  rcases (show s = 0 ∨ s = 1 ∨ s = 2 ∨ s = 3 by omega) with rfl | rfl | rfl | rfl <;> rfl
abbrev usI (x : Int32) (k : Nat) : Int32 := (x.toUInt32 >>> ((nI k).toUInt32 &&& Int32.toUInt32 31)).toInt32
def bc1 (x : Int32) : Int32 := x - (usI x 1 &&& 1431655765)
def bc2 (x : Int32) : Int32 := (x &&& 858993459) + (usI x 2 &&& 858993459)
def bc3 (x : Int32) : Int32 := (x + usI x 4) &&& 252645135
def bc4 (x : Int32) : Int32 := x + usI x 8
def bc5 (x : Int32) : Int32 := x + usI x 16
def bcJ (x : Int32) : Int32 := bc5 (bc4 (bc3 (bc2 (bc1 x)))) &&& nI 63
def shtA (sheet lane n : Int32) : Int32 := if (isB sheet 4 && isB lane 4) = true ∧ n ≤ nI 24 then (if 0 ≤ n then n else -14) else -1
def shtS (I : Nat → Nat → Int32) (J : Nat → Nat → Int64) (O : Nat → Nat → Nat) (sheet lane n : Int32) : jS := if (isB sheet 4 && isB lane 4) = true ∧ n ≤ nI 24 ∧ 0 ≤ n then (sr I 33 (upd (upd (upd (I 33) (3 * tN sheet + 1) lane) (3 * tN sheet + 2) n) (3 * tN sheet) (nI 1)), srJ J (2 + tN sheet) (filJ (J (2 + tN sheet)) 0 24), O) else (I, J, O)
def drpA (f : Nat → Int32) (sheet : Int32) : Int32 := if isB sheet 4 then (if f (3 * tN sheet) = nI 0 then -11 else f (3 * tN sheet + 2)) else -1
def drpI (I : Nat → Nat → Int32) (sheet : Int32) : Nat → Nat → Int32 := if isB sheet 4 = true ∧ ¬ I 33 (3 * tN sheet) = nI 0 then sr I 33 (upd (I 33) (3 * tN sheet) (nI 0)) else I
