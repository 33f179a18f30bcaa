theorem sx_bv (k : Nat) (hk : k ≤ 32) (v : BitVec 64) : (v <<< (64 - k)).sshiftRight (64 - k) = BitVec.signExtend 64 (BitVec.setWidth k v) := by
  apply BitVec.eq_of_getLsbD_eq
  intro i hi
  rw [BitVec.getLsbD_sshiftRight, BitVec.getLsbD_signExtend, BitVec.msb_eq_getLsbD_last, BitVec.msb_eq_getLsbD_last, BitVec.getLsbD_setWidth, BitVec.getLsbD_setWidth, BitVec.getLsbD_shiftLeft, BitVec.getLsbD_shiftLeft]
  by_cases h : i < k
  · have e : 64 - k + i - (64 - k) = i := by omega
    have h2 : ¬ 64 - k + i < 64 - k := by omega
    have h3 : 64 - k + i < 64 := by omega
    simp [h, h2, h3, e, hi]
  · have h3 : ¬ 64 - k + i < 64 := by omega
    by_cases h0 : k = 0
    · subst h0; simp
    · have e : 64 - 1 - (64 - k) = k - 1 := by omega
      have h2 : ¬ 64 - 1 < 64 - k := by omega
      have h4 : k - 1 < k := by omega
      have h5 : ¬ 63 < 64 - k := by omega
      have e2 : 63 - (64 - k) = k - 1 := by omega
      simp [h, h2, h3, h4, h5, e, e2, hi]
theorem se_se {k : Nat} (hk : k ≤ 32) (x : BitVec k) : BitVec.signExtend 64 (BitVec.signExtend 32 x) = BitVec.signExtend 64 x := by
  apply BitVec.eq_of_toInt_eq
  rw [BitVec.toInt_signExtend_of_le (by decide), BitVec.toInt_signExtend_of_le hk, BitVec.toInt_signExtend_of_le (by omega)]
theorem sw8 (v : BitVec 64) : BitVec.signExtend 64 (BitVec.signExtend 32 (BitVec.signExtend 8 (BitVec.signExtend 32 v))) = BitVec.signExtend 64 (BitVec.setWidth 8 v) := by
  rw [se_se (by decide), BitVec.signExtend_eq_setWidth_of_le v (by decide), BitVec.signExtend_eq_setWidth_of_le (BitVec.setWidth 32 v) (by decide), BitVec.setWidth_setWidth_of_le _ (by decide)]
theorem sw16 (v : BitVec 64) : BitVec.signExtend 64 (BitVec.signExtend 32 (BitVec.signExtend 16 (BitVec.signExtend 32 v))) = BitVec.signExtend 64 (BitVec.setWidth 16 v) := by
  rw [se_se (by decide), BitVec.signExtend_eq_setWidth_of_le v (by decide), BitVec.signExtend_eq_setWidth_of_le (BitVec.setWidth 32 v) (by decide), BitVec.setWidth_setWidth_of_le _ (by decide)]
theorem ct_8 (v : Int64) : (v <<< ((nI 56).toInt64 &&& 63)) >>> ((nI 56).toInt64 &&& 63) = v.toInt32.toInt8.toInt32.toInt64 := by
  apply Int64.toBitVec_inj.mp
  rw [Int32.toBitVec_toInt64, Int8.toBitVec_toInt32, Int32.toBitVec_toInt8, Int64.toBitVec_toInt32, sw8, ← sx_bv 8 (by decide), Int64.toBitVec_shiftRight, Int64.toBitVec_shiftLeft]
  rfl
theorem ct_16 (v : Int64) : (v <<< ((nI 48).toInt64 &&& 63)) >>> ((nI 48).toInt64 &&& 63) = v.toInt32.toInt16.toInt32.toInt64 := by
  apply Int64.toBitVec_inj.mp
  rw [Int32.toBitVec_toInt64, Int16.toBitVec_toInt32, Int32.toBitVec_toInt16, Int64.toBitVec_toInt32, sw16, ← sx_bv 16 (by decide), Int64.toBitVec_shiftRight, Int64.toBitVec_shiftLeft]
  rfl
theorem ct_32 (v : Int64) : (v <<< ((nI 32).toInt64 &&& 63)) >>> ((nI 32).toInt64 &&& 63) = v.toInt32.toInt64 := by
  apply Int64.toBitVec_inj.mp
  rw [Int32.toBitVec_toInt64, Int64.toBitVec_toInt32, BitVec.signExtend_eq_setWidth_of_le v.toBitVec (by decide), ← sx_bv 32 (by decide), Int64.toBitVec_shiftRight, Int64.toBitVec_shiftLeft]
  rfl
theorem ct_0 (v : Int64) : (v <<< ((nI 0).toInt64 &&& 63)) >>> ((nI 0).toInt64 &&& 63) = v := by
  rw [show (nI 0).toInt64 &&& 63 = 0 by decide]; simp
theorem ct_cut {ln : Int32} (v : Int64) : ctF ln v = cutC ln v := by
  unfold ctF cutC
  rw [ct_8, ct_16, ct_32, ct_0]
  rfl

/-! sheets -/
def shAt (I : Nat → Nat → Int32) (J : Nat → Nat → Int64) (s : Nat) : Prop := ∃ (hold : Bool) (sz : Nat), sz ≤ 24 ∧ I 33 (3 * s) = b2 hold ∧ I 33 (3 * s + 2) = nI sz ∧ I 51 s = nI sz ∧ (hold = false → I 50 s = -4) ∧ (hold = true → ∃ ln, ln < 4 ∧ I 33 (3 * s + 1) = nI ln ∧ I 50 s = nI ln ∧ ∀ k, k < sz → J (2 + s) k = J 12 (24 * s + k))
theorem jRel_sh {I I2 : Nat → Nat → Int32} {J J2 : Nat → Nat → Int64} {O : Nat → Nat → Nat} (h : jRel (I, J, O)) (hI : ∀ r, r ≠ 33 ∧ r ≠ 50 ∧ r ≠ 51 → I2 r = I r) (hs : ∀ s, s < 4 → shAt I2 J2 s) : jRel (I2, J2, O) := by
  obtain ⟨hO0, a1, a2, a3, a4⟩ := h
  have hO : okO O := hO0
  have hh : ∀ k, k < 2 → ∀ j, j < 8 → I2 (O k j) = I (O k j) := fun k hk j hj => hI _ (by have := (hO k hk).1 j hj; omega)
  exact ⟨hO, noRel_c a1 (hI _ (by decide)) (hI _ (by decide)) (congrFun (hI 21 (by decide)) 0) (hh 0 (by decide)), imRel_c a2 (hI _ (by decide)) (hI _ (by decide)) (congrFun (hI 24 (by decide)) 0) (congrFun (hI 40 (by decide)) 0) (congrFun (hI 21 (by decide)) 1) (hh 1 (by decide)), tpRel_c a3 (hI _ (by decide)) (hI _ (by decide)) (hI _ (by decide)) (congrFun (hI 40 (by decide)) 2), hs⟩
theorem shAt_c {I I2 : Nat → Nat → Int32} {J J2 : Nat → Nat → Int64} {s : Nat} (h : shAt I J s) (h0 : I2 33 (3 * s) = I 33 (3 * s)) (h1 : I2 33 (3 * s + 1) = I 33 (3 * s + 1)) (h2 : I2 33 (3 * s + 2) = I 33 (3 * s + 2)) (h5 : I2 50 s = I 50 s) (h6 : I2 51 s = I 51 s) (hJ : J2 (2 + s) = J (2 + s)) (h12 : ∀ k, k < 24 → J2 12 (24 * s + k) = J 12 (24 * s + k)) : shAt I2 J2 s := by
  obtain ⟨hold, sz, e1, e2, e3, e4, e5, e6⟩ := h
  refine ⟨hold, sz, e1, by rw [h0]; exact e2, by rw [h2]; exact e3, by rw [h6]; exact e4, fun q => by rw [h5]; exact e5 q, fun q => ?_⟩
  obtain ⟨ln, f1, f2, f3, f4⟩ := e6 q
  exact ⟨ln, f1, by rw [h1]; exact f2, by rw [h5]; exact f3, fun k hk => by rw [hJ, h12 k (by omega)]; exact f4 k hk⟩
theorem sh_ho {I : Nat → Nat → Int32} {J : Nat → Nat → Int64} {O : Nat → Nat → Nat} (h : jRel (I, J, O)) : (∀ s, s < 4 → ∃ b, I 33 (3 * s) = b2 b) ∧ (∀ s, s < 4 → ∃ sz, sz ≤ 24 ∧ I 33 (3 * s + 2) = nI sz) ∧ ∀ s, s < 4 → ∃ sz, sz ≤ 24 ∧ I 51 s = nI sz := by
  obtain ⟨-, -, -, -, a4⟩ := h
  refine ⟨fun s hs => ?_, fun s hs => ?_, fun s hs => ?_⟩
  · obtain ⟨hold, sz, e1, e2, -⟩ := a4 s hs; exact ⟨hold, e2⟩
  · obtain ⟨hold, sz, e1, e2, e3, -⟩ := a4 s hs; exact ⟨sz, e1, e3⟩
  · obtain ⟨hold, sz, e1, e2, e3, e4, -⟩ := a4 s hs; exact ⟨sz, e1, e4⟩
theorem sh_h {I : Nat → Nat → Int32} {J : Nat → Nat → Int64} {s : Nat} (h : shAt I J s) : (I 33 (3 * s) = nI 0 ↔ I 50 s = -4) ∧ I 33 (3 * s + 2) = I 51 s := by
  obtain ⟨hold, sz, e1, e2, e3, e4, e5, e6⟩ := h
  refine ⟨?_, by rw [e3, e4]⟩
  rw [e2]
  cases hold with
  | false => exact ⟨fun _ => e5 rfl, fun _ => rfl⟩
  | true =>
    obtain ⟨ln, f1, f2, f3, f4⟩ := e6 rfl
    rw [f3]
    exact ⟨fun y => absurd y (by decide), fun y => absurd y (nI_n4 (by omega))⟩
theorem fl_rf {I : Nat → Nat → Int32} {J : Nat → Nat → Int64} {s k : Nat} {lane i : Int32} (h : shAt I J s) (hk : k < 2147483648) : flC (I 33) s (holdB (I 33) s) lane i (nI k) = rfF (I 50) (I 51) s lane i (nI k) := by
  obtain ⟨hold, sz, e1, e2, e3, e4, e5, e6⟩ := h
  rw [holdB_eq e2]
  unfold flC rfF
  cases hold with
  | false => rw [if_pos rfl, if_pos (e5 rfl)]
  | true =>
    obtain ⟨ln, f1, f2, f3, f4⟩ := e6 rfl
    rw [if_neg (fun y => Bool.false_ne_true y.symm), f2, f3, if_neg (nI_n4 (by omega)), e3, e4]
    by_cases q : nI ln = lane
    · rw [if_pos q, if_pos q]
      by_cases q1 : i < 0
      · rw [if_pos q1, if_pos q1]
      · rw [if_neg q1, if_neg q1, if_neg (nI_pos (by omega))]
        obtain ⟨ii, hii, rfl⟩ := nI_of q1
        have e : (nI ii ≤ nI sz - nI k) ↔ (inR ((nI ii).toInt64 + (nI k).toInt64) 0 (nI sz).toInt64 = true) := by
          unfold inR
          rw [Bool.and_eq_true, Bool.not_eq_true', Bool.not_eq_true', decide_eq_false_iff_not, decide_eq_false_iff_not, Int64.lt_iff_toInt_lt, Int64.lt_iff_toInt_lt, i64_add, Int32.toInt_toInt64, Int32.le_iff_toInt_le, Int32.toInt_sub, nI_toInt hii, nI_toInt (by omega), nI_toInt (by omega), show (0 : Int64).toInt = 0 from rfl]
          rw [show ((sz : Int) - (k : Int)).bmod (2 ^ 32) = (sz : Int) - k from Int.bmod_eq_of_le (by omega) (by omega)]
          omega
        by_cases q2 : nI ii ≤ nI sz - nI k
        · rw [if_pos q2, if_pos (e.mp q2)]
        · rw [if_neg q2, if_neg (fun y => q2 (e.mpr y))]
    · rw [if_neg q, if_neg q]
theorem fl_00 {f : Nat → Int32} {s : Nat} {hold : Bool} {lane i n : Int32} : 0 ≤ flC f s hold lane i n ↔ flC f s hold lane i n = 0 := by
  unfold flC
  split
  · decide
  · split
    · split
      · decide
      · split
        · decide
        · split
          · decide
          · decide
    · decide
theorem of_any (x : Int32) : ∃ k, x = nI k := ⟨x.toBitVec.toNat, by
  apply Int32.toBitVec_inj.mp
  show x.toBitVec = BitVec.ofNat 32 x.toBitVec.toNat
  rw [BitVec.ofNat_toNat, BitVec.setWidth_eq]⟩
theorem tS_of {f : Nat → Int32} {n : Nat} (h0 : f 0 = nI n) (h2 : ∃ b, f 2 = b2 b) : ∃ s : Nat × Bool, f = tS f n s := by
  obtain ⟨b, hb⟩ := h2
  obtain ⟨k, hk⟩ := of_any (f 1)
  refine ⟨(k, b), funext fun j => ?_⟩
  unfold tS
  by_cases e2 : j = 2
  · rw [e2, pk_us, hb]
  · rw [pk_un e2]
    by_cases e1 : j = 1
    · rw [e1, pk_us, hk]
    · rw [pk_un e1]
      by_cases e0 : j = 0
      · rw [e0, pk_us, h0]
      · rw [pk_un e0]
theorem lt_in {x : Int32} : lt126 x = inR x.toInt64 32 126 := by
  unfold lt126 inR
  congr 1
  · congr 1
    rw [Bool.eq_iff_iff, decide_eq_true_iff, decide_eq_true_iff, Int64.lt_iff_toInt_lt, Int32.toInt_toInt64, Int32.lt_iff_toInt_lt, nI_toInt (by decide)]
    exact Iff.rfl
  · rw [Bool.eq_iff_iff, decide_eq_true_iff, Bool.not_eq_true', decide_eq_false_iff_not, Int64.lt_iff_toInt_lt, Int32.toInt_toInt64, Int32.le_iff_toInt_le, nI_toInt (by decide), show (126 : Int64).toInt = 126 from rfl]
    omega

theorem t_type (l_ : Launch) (G : jG) (I : Nat → Nat → Int32) (J : Nat → Nat → Int64) (O : Nat → Nat → Nat) (letter : Int32) (hR : jRel (I, J, O)) : jMi l_ G yX7_type wsX7_type ({ frames := 1, cells := 0, slots := 0, locals := 21 }) [.ref (G.2.2.1 (0, 0, 0)), .int letter] (I, J, O) (fun r u => jMi l_ G yX8_type wsX8_type ({ frames := 1, cells := 0, slots := 0, locals := 25 }) [.ref (G.2.2.1 (20, 0, 0)), .int letter] u (fun r2 u2 => r2 = r ∧ jRel u2)) := by
  obtain ⟨hO0, a1, a2, ⟨n, hn, t1, t2, t3, t4⟩, a4⟩ := id hR
  have hO : okO O := hO0
  obtain ⟨s, hs⟩ := tS_of t1 t3
  refine jMi_mono (c_X7_type l_ G I J O letter hn hs) (fun r u h => ?_)
  obtain ⟨hr, hu⟩ := h
  by_cases q : lt126 letter = true ∧ n < 90
  · unfold tyCI at hu
    rw [if_pos q] at hu
    subst hu
    refine jMi_mono (c_X8_type l_ G _ J O letter hn (by rw [sr_ne (by decide), sr_ne (by decide)]; exact t2)) (fun r2 u2 h2 => ?_)
    obtain ⟨h3, h4⟩ := h2
    have q2 := q.1
    rw [lt_in] at q2
    refine ⟨?_, ?_⟩
    · rw [h3, hr]; unfold tyA tyCA; rw [if_pos q2, if_pos q.1, if_neg (by omega), if_pos q.2]
    · rw [h4]; unfold tyI
      rw [if_pos ⟨q2, by omega⟩]
      generalize hV : sr (sr (sr (sr I 22 (upd (I 22) n letter)) 23 (tS (I 23) (n + 1) s)) 48 _) 40 _ = V
      have eV : ∀ r, r ≠ 22 ∧ r ≠ 23 ∧ r ≠ 48 ∧ r ≠ 40 → V r = I r := fun r hr => by rw [← hV, sr_ne hr.2.2.2, sr_ne hr.2.2.1, sr_ne hr.2.1, sr_ne hr.1]
      have hh : ∀ k, k < 2 → ∀ j, j < 8 → V (O k j) = I (O k j) := fun k hk j hj => eV _ (by have := (hO k hk).1 j hj; omega)
      have e22 : V 22 = upd (I 22) n letter := by rw [← hV, sr_ne (by decide), sr_ne (by decide), sr_ne (by decide), sr_self]
      have e23 : V 23 = tS (I 23) (n + 1) s := by rw [← hV, sr_ne (by decide), sr_ne (by decide), sr_self]
      have e48 : V 48 = upd (I 48) n letter := by rw [← hV, sr_ne (by decide), sr_self, sr_ne (by decide), sr_ne (by decide)]
      have e40 : V 40 = upd (I 40) 2 (nI (n + 1)) := by rw [← hV, sr_self, sr_ne (by decide), sr_ne (by decide)]
      refine ⟨hO, noRel_c a1 (eV _ (by decide)) (eV _ (by decide)) (congrFun (eV 21 (by decide)) 0) (hh 0 (by decide)), imRel_c a2 (eV _ (by decide)) (eV _ (by decide)) (congrFun (eV 24 (by decide)) 0) ?_ (congrFun (eV 21 (by decide)) 1) (hh 1 (by decide)), ⟨n + 1, by omega, ?_, ?_, ?_, ?_⟩, shRel_c a4 (eV _ (by decide)) (eV _ (by decide)) (eV _ (by decide)) (fun _ _ => rfl) rfl⟩
      · show V 40 0 = I 40 0
        rw [e40, pk_un (by decide)]
      · show V 23 0 = _
        rw [e23, tS_0]
      · show V 40 2 = _
        rw [e40, pk_us]
      · exact ⟨s.2, by show V 23 2 = _; rw [e23, tS_2]⟩
      · intro j hj
        show V 22 j = V 48 j ∧ ∃ k, 32 ≤ k ∧ k ≤ 126 ∧ V 22 j = nI k
        rw [e22, e48]
        by_cases e : j = n
        · rw [e, pk_us, pk_us]
          have q3 := q.1
          unfold lt126 at q3
          rw [Bool.and_eq_true, Bool.not_eq_true', decide_eq_false_iff_not, decide_eq_true_iff] at q3
          exact ⟨rfl, rng_chr q3.1 q3.2⟩
        · rw [pk_un e, pk_un e]
          exact t4 j (by omega)
  · unfold tyCI at hu
    rw [if_neg q] at hu
    subst hu
    refine jMi_mono (c_X8_type l_ G I J O letter hn t2) (fun r2 u2 h2 => ?_)
    obtain ⟨h3, h4⟩ := h2
    have q2 : ¬ (inR letter.toInt64 32 126 = true ∧ ¬ n = 90) := fun y => q ⟨by rw [lt_in]; exact y.1, by omega⟩
    unfold tyI at h4
    rw [if_neg q2] at h4
    refine ⟨?_, by rw [h4]; exact hR⟩
    rw [h3, hr]; unfold tyA tyCA; rw [lt_in]
    by_cases q3 : inR letter.toInt64 32 126 = true
    · have : n = 90 := Decidable.not_not.mp (fun y => q2 ⟨q3, y⟩)
      rw [if_pos q3, if_pos q3, if_pos this, if_neg (by omega)]
    · rw [if_neg q3, if_neg q3]

theorem t_sheet (l_ : Launch) (G : jG) (I : Nat → Nat → Int32) (J : Nat → Nat → Int64) (O : Nat → Nat → Nat) (sheet : Int32) (lane : Int32) (n : Int32) (hR : jRel (I, J, O)) : jMi l_ G yX7_sheet wsX7_sheet ({ frames := 2, cells := 0, slots := 0, locals := 46 }) [.ref (G.2.2.1 (0, 0, 0)), .int sheet, .int lane, .int n] (I, J, O) (fun r u => jMi l_ G yX8_sheet wsX8_sheet ({ frames := 2, cells := 0, slots := 0, locals := 45 }) [.ref (G.2.2.1 (20, 0, 0)), .int sheet, .int lane, .int n] u (fun r2 u2 => r2 = r ∧ jRel u2)) := by
  obtain ⟨-, -, -, -, a4⟩ := id hR
  refine jMi_mono (c_X7_sheet l_ G I J O sheet lane n) (fun r u h => ?_)
  obtain ⟨hr, hu⟩ := h
  refine jMi_mono (c_X8_sheet l_ G u.1 u.2.1 u.2.2 sheet lane n) (fun r2 u2 h2 => ?_)
  obtain ⟨h3, h4⟩ := h2
  have ok : ((isB sheet 4 && isB lane 4) = true ∧ n ≤ nI 24) ↔ shRok sheet lane n = true := by
    unfold shRok
    rw [Bool.and_eq_true, Bool.and_eq_true, Bool.and_eq_true, decide_eq_true_iff]
    exact ⟨fun y => ⟨y.1.1, y.1.2, y.2⟩, fun y => ⟨⟨y.1, y.2.1⟩, y.2.2⟩⟩
  refine ⟨?_, ?_⟩
  · rw [h3, hr]; unfold shRA shtA
    by_cases q : shRok sheet lane n = true
    · rw [if_pos q, if_pos (ok.mpr q)]
    · rw [if_neg q, if_neg (fun y => q (ok.mp y))]
  · rw [h4, hu]; unfold shRS shtS
    by_cases q : shRok sheet lane n = true ∧ 0 ≤ n
    · have k := ok.mpr q.1
      rw [if_pos q, if_pos ⟨k.1, k.2, q.2⟩]
      dsimp only
      have k1 := k.1
      rw [Bool.and_eq_true] at k1
      obtain ⟨t, ht, rfl⟩ := isB_nat k1.1 (by decide)
      obtain ⟨ln, hln, rfl⟩ := isB_nat k1.2 (by decide)
      obtain ⟨sz, hsz, rfl⟩ := rng24 k.2 q.2
      rw [show tN (nI t) = t from nIc (by omega), show tN (nI sz) = sz from nIc (by omega)]
      refine jRel_sh hR (fun r hr => by rw [sr_ne hr.2.2, sr_ne hr.2.1, sr_ne hr.1]) (fun s hs => ?_)
      by_cases e : s = t
      · subst e
        refine ⟨true, sz, hsz, ?_, ?_, ?_, fun y => absurd y.symm Bool.false_ne_true, fun _ => ⟨ln, hln, ?_, ?_, fun k hk => ?_⟩⟩
        · rw [sr_ne (by decide), sr_ne (by decide), sr_self, pk_us]; rfl
        · rw [sr_ne (by decide), sr_ne (by decide), sr_self, pk_un (by omega), pk_us]
        · rw [sr_self, pk_us]
        · rw [sr_ne (by decide), sr_ne (by decide), sr_self, pk_un (by omega), pk_un (by omega), pk_us]
        · rw [sr_ne (by decide), sr_self, pk_us]
        · rw [srJ_ne (by omega), srJ_self, srJ_self, srJ_ne (by omega)]
          unfold filJ zrF
          rw [if_pos (by omega), if_pos (by omega)]
      · refine shAt_c (a4 s hs) ?_ ?_ ?_ ?_ ?_ ?_ (fun k hk => ?_)
        · rw [sr_ne (by decide), sr_ne (by decide), sr_self, pk_un (by omega), pk_un (by omega), pk_un (by omega)]
        · rw [sr_ne (by decide), sr_ne (by decide), sr_self, pk_un (by omega), pk_un (by omega), pk_un (by omega)]
        · rw [sr_ne (by decide), sr_ne (by decide), sr_self, pk_un (by omega), pk_un (by omega), pk_un (by omega)]
        · rw [sr_ne (by decide), sr_self, pk_un e, sr_ne (by decide)]
        · rw [sr_self, pk_un e, sr_ne (by decide)]
        · rw [srJ_ne (by omega), srJ_ne (by omega)]
        · rw [srJ_self, srJ_ne (by omega)]
          unfold zrF
          rw [if_neg (by omega)]
    · have q2 : ¬ ((isB sheet 4 && isB lane 4) = true ∧ n ≤ nI 24 ∧ 0 ≤ n) := fun y => q ⟨ok.mp ⟨y.1, y.2.1⟩, y.2.2⟩
      rw [if_neg q, if_neg q2]
      exact hR

theorem t_drop (l_ : Launch) (G : jG) (I : Nat → Nat → Int32) (J : Nat → Nat → Int64) (O : Nat → Nat → Nat) (sheet : Int32) (hR : jRel (I, J, O)) : jMi l_ G yX7_drop wsX7_drop ({ frames := 1, cells := 0, slots := 0, locals := 21 }) [.ref (G.2.2.1 (0, 0, 0)), .int sheet] (I, J, O) (fun r u => jMi l_ G yX8_drop wsX8_drop ({ frames := 2, cells := 0, slots := 0, locals := 45 }) [.ref (G.2.2.1 (20, 0, 0)), .int sheet] u (fun r2 u2 => r2 = r ∧ jRel u2)) := by
  obtain ⟨-, -, -, -, a4⟩ := id hR
  refine jMi_mono (c_X7_drop l_ G I J O sheet (sh_ho hR).1) (fun r u h => ?_)
  obtain ⟨hr, hu⟩ := h
  have e50 : u.1 50 = I 50 ∧ u.1 51 = I 51 := by
    rw [hu]; unfold drpI; dsimp only
    by_cases q : isB sheet 4 = true ∧ ¬ I 33 (3 * tN sheet) = nI 0
    · rw [if_pos q]; exact ⟨sr_ne (by decide), sr_ne (by decide)⟩
    · rw [if_neg q]; exact ⟨rfl, rfl⟩
  refine jMi_mono (c_X8_drop l_ G u.1 u.2.1 u.2.2 sheet) (fun r2 u2 h2 => ?_)
  obtain ⟨h3, h4⟩ := h2
  rw [e50.1, e50.2] at h3
  unfold drRI at h4
  rw [e50.1] at h4
  by_cases q : isB sheet 4 = true
  · obtain ⟨t, ht, rfl⟩ := isB_nat q (by decide)
    have k := sh_h (a4 t ht)
    unfold drpA at hr
    unfold drpI at hu
    unfold drRA at h3
    rw [show tN (nI t) = t from nIc (by omega)] at hr hu h3 h4
    rw [if_pos q] at hr h3
    by_cases q2 : I 50 t = -4
    · rw [if_pos q2] at h3
      rw [if_pos (k.1.mpr q2)] at hr
      rw [if_neg (fun y => y.2 q2)] at h4
      rw [if_neg (fun y => y.2 (k.1.mpr q2))] at hu
      exact ⟨by rw [h3, hr], by rw [h4, hu]; exact hR⟩
    · rw [if_neg q2] at h3
      have q3 : ¬ I 33 (3 * t) = nI 0 := fun y => q2 (k.1.mp y)
      rw [if_neg q3] at hr
      rw [if_pos ⟨q, q2⟩] at h4
      rw [if_pos ⟨q, q3⟩] at hu
      refine ⟨by rw [h3, hr]; exact k.2.symm, ?_⟩
      rw [h4, hu]
      dsimp only
      refine jRel_sh hR (fun r hr => by rw [sr_ne hr.2.1, sr_ne hr.1]) (fun s hs => ?_)
      by_cases e : s = t
      · subst e
        obtain ⟨hold, sz, e1, e2, e3, e4, e5, e6⟩ := a4 s hs
        refine ⟨false, sz, e1, ?_, ?_, ?_, fun _ => ?_, fun y => absurd y Bool.false_ne_true⟩
        · rw [sr_ne (by decide), sr_self, pk_us]; rfl
        · rw [sr_ne (by decide), sr_self, pk_un (by omega)]; exact e3
        · rw [sr_ne (by decide), sr_ne (by decide)]; exact e4
        · rw [sr_self, pk_us]
      · refine shAt_c (a4 s hs) ?_ ?_ ?_ ?_ ?_ rfl (fun _ _ => rfl)
        · rw [sr_ne (by decide), sr_self, pk_un (by omega)]
        · rw [sr_ne (by decide), sr_self, pk_un (by omega)]
        · rw [sr_ne (by decide), sr_self, pk_un (by omega)]
        · rw [sr_self, pk_un e]
        · rw [sr_ne (by decide), sr_ne (by decide)]
  · unfold drpA at hr
    unfold drpI at hu
    unfold drRA at h3
    rw [if_neg q] at hr h3
    rw [if_neg (fun y => q y.1)] at hu h4
    exact ⟨by rw [h3, hr], by rw [h4, hu]; exact hR⟩

theorem t_item (l_ : Launch) (G : jG) (I : Nat → Nat → Int32) (J : Nat → Nat → Int64) (O : Nat → Nat → Nat) (sheet : Int32) (lane : Int32) (i : Int32) (v : Int64) (hR : jRel (I, J, O)) : jMi l_ G yX7_item wsX7_item ({ frames := 2, cells := 0, slots := 0, locals := 42 }) [.ref (G.2.2.1 (0, 0, 0)), .int sheet, .int lane, .int i, .long v] (I, J, O) (fun r u => jMi l_ G yX8_item wsX8_item ({ frames := 2, cells := 0, slots := 0, locals := 49 }) [.ref (G.2.2.1 (20, 0, 0)), .int sheet, .int lane, .int i, .long v] u (fun r2 u2 => r2 = r ∧ jRel u2)) := by
  obtain ⟨-, -, -, -, a4⟩ := id hR
  obtain ⟨hHo, hSz, hSzR⟩ := sh_ho hR
  refine jMi_mono (c_X7_item l_ G I J O sheet lane i v hHo hSz) (fun r u h => ?_)
  obtain ⟨hr, hu⟩ := h
  subst hu
  refine jMi_mono (c_X8_item l_ G I _ O sheet lane i v hSzR) (fun r2 u2 h2 => ?_)
  obtain ⟨h3, h4⟩ := h2
  by_cases q : (isB sheet 4 && isB lane 4) = true
  · have qq := q
    rw [Bool.and_eq_true] at qq
    obtain ⟨t, ht, rfl⟩ := isB_nat qq.1 (by decide)
    have fr := fl_rf (lane := lane) (i := i) (a4 t ht) (show 1 < 2147483648 by decide)
    have f0 := fl_00 (f := I 33) (s := t) (hold := holdB (I 33) t) (lane := lane) (i := i) (n := nI 1)
    have et : tN (nI t) = t := nIc (by omega)
    unfold itmA at hr
    unfold itRA at h3
    rw [et] at hr h3
    rw [if_pos q] at hr h3
    unfold itRJ itmJ at h4
    rw [et] at h4
    by_cases q2 : rfF (I 50) (I 51) t lane i (nI 1) = 0
    · have q3 : 0 ≤ flC (I 33) t (holdB (I 33) t) lane i (nI 1) := f0.mpr (fr.trans q2)
      rw [if_pos q2] at h3
      rw [if_pos q3] at hr
      rw [if_pos ⟨q, q2⟩, if_pos ⟨q, q3⟩] at h4
      refine ⟨by rw [h3, hr], ?_⟩
      rw [h4]
      obtain ⟨sz, hsz, esz⟩ := hSz t ht
      obtain ⟨-, el, jj, kk, hjk, rfl, ek⟩ := flC_nat esz hsz q3
      have hkk := jnat1 hsz hjk ek
      rw [show tN (nI jj) = jj from nIc (by omega)]
      refine jRel_sh hR (fun r hr => rfl) (fun s hs => ?_)
      by_cases e : s = t
      · subst e
        obtain ⟨hold, sz2, e1, e2, e3, e4, e5, e6⟩ := a4 s hs
        refine ⟨hold, sz2, e1, e2, e3, e4, e5, fun y => ?_⟩
        obtain ⟨ln, g1, g2, g3, g4⟩ := e6 y
        refine ⟨ln, g1, g2, g3, fun k hk => ?_⟩
        rw [srJ_ne (by omega), srJ_self, srJ_self, srJ_ne (by omega)]
        unfold vp_updL
        by_cases e7 : k = jj
        · rw [if_pos e7, if_pos (by omega), el, ct_cut]
        · rw [if_neg e7, if_neg (by omega)]; exact g4 k hk
      · refine shAt_c (a4 s hs) rfl rfl rfl rfl rfl ?_ (fun k hk => ?_)
        · rw [srJ_ne (by omega), srJ_ne (by omega)]
        · rw [srJ_self, srJ_ne (by omega)]
          unfold vp_updL
          rw [if_neg (by omega)]
    · have q3 : ¬ 0 ≤ flC (I 33) t (holdB (I 33) t) lane i (nI 1) := fun y => q2 (fr.symm.trans (f0.mp y))
      rw [if_neg q2] at h3
      rw [if_neg q3] at hr
      rw [if_neg (fun y => q2 y.2), if_neg (fun y => q3 y.2)] at h4
      exact ⟨by rw [h3, hr, fr], by rw [h4]; exact hR⟩
  · unfold itmA at hr
    unfold itRA at h3
    unfold itRJ itmJ at h4
    rw [if_neg q] at hr h3
    rw [if_neg (fun y => q y.1), if_neg (fun y => q y.1)] at h4
    exact ⟨by rw [h3, hr], by rw [h4]; exact hR⟩
