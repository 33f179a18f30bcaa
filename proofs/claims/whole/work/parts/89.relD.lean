/-! what is done: both states still agree -/
theorem jRel_step {I I2 : Nat → Nat → Int32} {J : Nat → Nat → Int64} {O O2 : Nat → Nat → Nat} (h : jRel (I, J, O)) (hO2 : okO O2) (hn : noRel I2 O2) (hI : ∀ r, r = 1 ∨ (22 ≤ r ∧ r ≤ 24) ∨ r = 33 ∨ r = 40 ∨ r = 42 ∨ r = 48 ∨ r = 50 ∨ r = 51 → I2 r = I r) (h21 : I2 21 1 = I 21 1) (hh : ∀ j, j < 8 → I2 (O2 1 j) = I (O 1 j)) : jRel (I2, J, O2) := by
  obtain ⟨hO0, a1, a2, a3, a4⟩ := h
  exact ⟨hO2, hn, imRel_c a2 (hI _ (by omega)) (hI _ (by omega)) (congrFun (hI 24 (by omega)) 0) (congrFun (hI 40 (by omega)) 0) h21 hh, tpRel_c a3 (hI _ (by omega)) (hI _ (by omega)) (hI _ (by omega)) (congrFun (hI 40 (by omega)) 2), shRel_c a4 (hI _ (by omega)) (hI _ (by omega)) (hI _ (by omega)) (fun _ _ => rfl) rfl⟩
theorem rot_at {O : Nat → Nat → Nat} {j : Nat} (hj : j < 8) : rotO O 0 j = if j < 7 then O 0 (j + 1) else O 0 0 := by
  simp only [rotO, o2, rotN]
  by_cases h7 : j = 7
  · subst h7; simp
  · simp [h7, show j < 7 by omega]
theorem rot_1 {O : Nat → Nat → Nat} {j : Nat} : rotO O 1 j = O 1 j := by simp [rotO, o2, rotN]
theorem remO_1 {O : Nat → Nat → Nat} {z j : Nat} : remO O z 1 j = O 1 j := by
  unfold remO; split
  · exact rot_1
  · rfl
theorem rem_X {O : Nat → Nat → Nat} {z : Nat} (hO : okO O) (hz : z ≤ 8) : 3 ≤ remO O z 0 (remZ z) ∧ remO O z 0 (remZ z) < 11 := by
  have := ((remO_ok hO z) 0 (by decide)).1 (remZ z) (by unfold remZ; split <;> omega)
  omega
theorem remI_ne {I : Nat → Nat → Int32} {O : Nat → Nat → Nat} {z nd nm r : Nat} (hO : okO O) (hz : z ≤ 8) (hr : (r < 3 ∨ 11 ≤ r) ∧ r ≠ 21) : remI I O z nd nm r = I r := by
  have h := rem_X (z := z) hO hz
  unfold remI
  rw [sr_ne hr.2, sr_ne (by omega)]
theorem remI_211 {I : Nat → Nat → Int32} {O : Nat → Nat → Nat} {z nd nm : Nat} : remI I O z nd nm 21 1 = I 21 1 := by
  unfold remI; rw [sr_self, pk_un (by decide)]
theorem rem_hi {I I2 : Nat → Nat → Int32} {O : Nat → Nat → Nat} {z nd nm : Nat} (hO : okO O) (hz : z ≤ 8) (hI : ∀ r, 3 ≤ r ∧ r < 11 → I2 r = remI I O z nd nm r) : hKe (hiO I O 0) (hiO I2 (remO O z) 0) (I 0) z nd nm := by
  have hb := (hO 0 (by decide))
  have hrow : ∀ r, 3 ≤ r ∧ r < 11 → I2 r = if r = remO O z 0 (remZ z) then pcR (I r) (I 0) nd nm else I r := fun r hr => by
    rw [hI r hr]
    unfold remI
    rw [sr_ne (by omega)]
    by_cases e : r = remO O z 0 (remZ z)
    · rw [if_pos e, ← e, sr_self]
    · rw [if_neg e, sr_ne e]
  refine ⟨fun hz8 => ?_, fun e => ?_⟩
  · have eO : remO O z = O := by unfold remO; rw [if_neg (by omega)]
    have eZ : remZ z = z := by unfold remZ; rw [if_neg (by omega)]
    rw [eO, eZ] at hrow
    rw [eO]
    refine ⟨fun j hj => ?_, I (O 0 z), ?_⟩
    · show I2 (O 0 j) = I (O 0 j)
      have h1 := hb.1 j (by omega)
      rw [hrow _ (by omega), if_neg (fun q => by have := hb.2 j z (by omega) (by omega) q; omega)]
    · show I2 (O 0 z) = _
      have h1 := hb.1 z (by omega)
      rw [hrow _ (by omega), if_pos rfl]
  · subst e
    have eO : remO O 8 = rotO O := by unfold remO; rw [if_pos rfl]
    have eZ : remZ 8 = 7 := rfl
    rw [eO, eZ] at hrow
    rw [eO]
    have e7 : rotO O 0 7 = O 0 0 := by rw [rot_at (by decide)]; rfl
    refine ⟨fun j hj => ?_, I (O 0 0), ?_⟩
    · show I2 (rotO O 0 j) = I (O 0 (j + 1))
      have h1 := hb.1 (j + 1) (by omega)
      rw [rot_at (by omega), if_pos hj, hrow _ (by omega), e7, if_neg (fun q => by have := hb.2 (j + 1) 0 (by omega) (by omega) q; omega)]
    · show I2 (rotO O 0 7) = _
      have h1 := hb.1 0 (by omega)
      rw [e7, hrow _ (by omega), e7, if_pos rfl]
/-- a step is kept, and what is now changes -/
theorem kept {I : Nat → Nat → Int32} {J : Nat → Nat → Int64} {O : Nat → Nat → Nat} {z nd nm : Nat} {a2 g2 : Nat → Int32} (hR : jRel (I, J, O)) (hw : wR (I 0) (I 41) (hiO I O 0) z nd nm) (h5 : prR a2 g2 nd nm) (hlo : ∀ i, i < 31 → g2 i = keepR (I 41) i) (hhi : ∀ i, 68 ≤ i → g2 i = keepR (I 41) i) : jRel (sr (sr (remI I O z nd nm) 0 a2) 41 g2, J, remO O z) := by
  have hO : okO O := hR.1
  have hz : z ≤ 8 := hw.2.2.2.1
  refine jRel_step hR (remO_ok hO z) ⟨nd, nm, remZ z + 1, ?_, ?_⟩ (fun r hr => ?_) ?_ (fun j hj => ?_)
  · rw [sr_ne (by decide), sr_ne (by decide)]; exact remI_21
  · rw [sr_self, sr_ne (by decide), sr_self]
    exact wR_now (wR_keep hw (rem_hi hO hz (fun r hr => by rw [sr_ne (by omega), sr_ne (by omega)]))) h5 hlo hhi
  · rw [sr_ne (by omega), sr_ne (by omega)]; exact remI_ne hO hz (by omega)
  · rw [sr_ne (by decide), sr_ne (by decide)]; exact remI_211
  · rw [remO_1]
    have h1 := (hO 1 (by decide)).1 j hj
    rw [sr_ne (by omega), sr_ne (by omega)]; exact remI_ne hO hz (by omega)
theorem u41 {I : Nat → Nat → Int32} {O : Nat → Nat → Nat} {z nd nm : Nat} {a2 : Nat → Int32} (hO : okO O) (hz : z ≤ 8) : (sr (remI I O z nd nm) 0 a2) 41 = I 41 := by rw [sr_ne (by decide)]; exact remI_ne hO hz (by decide)
theorem jRel_41 {I : Nat → Nat → Int32} {J : Nat → Nat → Int64} {O : Nat → Nat → Nat} (hR : jRel (I, J, O)) : jRel (sr I 41 (I 41), J, O) := by rw [sr_id]; exact hR

theorem t_attempt (l_ : Launch) (G : jG) (I : Nat → Nat → Int32) (J : Nat → Nat → Int64) (O : Nat → Nat → Nat) (man : Int32) (door : Int32) (hR : jRel (I, J, O)) : jMi l_ G yX7_attempt wsX7_attempt ({ frames := 4, cells := 0, slots := 0, locals := 98 }) [.ref (G.2.2.1 (0, 0, 0)), .int man, .int door] (I, J, O) (fun r u => jMi l_ G yX8_attempt wsX8_attempt ({ frames := 4, cells := 0, slots := 0, locals := 96 }) [.ref (G.2.2.1 (20, 0, 0)), .int man, .int door] u (fun r2 u2 => r2 = r ∧ jRel u2)) := by
  obtain ⟨nd, nm, z, hnd, hnm, hD, hM, hD2, hM2, hW, hW2, hWc, hWc2, hz, hZ, hH, hw⟩ := jR_now hR
  have hO : okO O := hR.1
  refine jMi_mono (c_X7_attempt l_ G I J O man door hnd hD hnm hM hz hZ hO) (fun r u h => ?_)
  obtain ⟨hr, hu⟩ := h
  by_cases q : isB man nm = true ∧ isB door nd = true ∧ atB (I 0) (tN door) (I 0 (51 + tN man)) = true
  · unfold attCS at hu
    rw [if_pos q] at hu
    obtain ⟨mm, hmm, rfl⟩ := isB_nat q.1 (by omega)
    obtain ⟨dd, hdd, rfl⟩ := isB_nat q.2.1 (by omega)
    rw [show tN (nI mm) = mm from nIc (by omega), show tN (nI dd) = dd from nIc (by omega)] at hu q
    have hb : ¬ bhF (I 41) dd (I 41 (51 + mm)) = -4 := by have := q.2.2; rw [(ps_op hw.2.2.2.2.1.1 hmm hdd).2.1] at this; exact of_decide_eq_true this
    have e41 : u.1 41 = I 41 := by rw [hu]; dsimp only; rw [u41 hO hz]
    have h8 := c_X8_attempt l_ G u.1 u.2.1 u.2.2 (nI mm) (nI dd) (nd := nd) (nm := nm) (h := z) hnd (by rw [e41]; exact hD2) hnm (by rw [e41]; exact hM2) hz (by rw [e41]; exact hH)
    refine jMi_mono h8 (fun r2 u2 h2 => ?_)
    obtain ⟨h3, h4⟩ := h2
    have hq : (isB (nI mm) nm && isB (nI dd) nd) = true := by rw [q.1, q.2.1]; rfl
    rw [e41] at h3 h4
    have hk := prR_keep hw.2.2.2.2.1
    have hp := lt_tr hk hmm hdd
    refine ⟨?_, ?_⟩
    · rw [h3, hr]
      unfold attA attCA
      rw [if_pos hq, if_pos hq, show tN (nI mm) = mm from nIc (by omega), show tN (nI dd) = dd from nIc (by omega), nIc (by omega), nIc (by omega), if_neg hb, if_pos q.2.2]
      exact (lt_cell hk hmm hdd).symm
    · rw [h4, hu]
      unfold attR
      rw [if_pos hq, nIc (by omega), nIc (by omega), if_neg hb]
      exact kept hR hw hp (tr_lo (by omega)).1 (tr_lo (by omega)).2
  · unfold attCS at hu
    rw [if_neg q] at hu
    subst hu
    refine jMi_mono (c_X8_attempt l_ G I J O man door hnd hD2 hnm hM2 hz hH) (fun r2 u2 h2 => ?_)
    obtain ⟨h3, h4⟩ := h2
    by_cases q2 : (isB man nm && isB door nd) = true
    · have q3 := q2
      rw [Bool.and_eq_true] at q3
      obtain ⟨mm, hmm, rfl⟩ := isB_nat q3.1 (by omega)
      obtain ⟨dd, hdd, rfl⟩ := isB_nat q3.2 (by omega)
      rw [show tN (nI mm) = mm from nIc (by omega), show tN (nI dd) = dd from nIc (by omega)] at q
      have hf : ¬ atB (I 0) dd (I 0 (51 + mm)) = true := fun z2 => q ⟨q3.1, q3.2, z2⟩
      have hb : bhF (I 41) dd (I 41 (51 + mm)) = -4 := by
        have hf2 := hf
        rw [(ps_op hw.2.2.2.2.1.1 hmm hdd).2.1, decide_eq_true_iff] at hf2
        exact Decidable.not_not.mp hf2
      refine ⟨?_, ?_⟩
      · rw [h3, hr]
        unfold attA attCA
        rw [if_pos q2, if_pos q2, show tN (nI mm) = mm from nIc (by omega), show tN (nI dd) = dd from nIc (by omega), nIc (by omega), nIc (by omega), if_pos hb, if_neg hf]
      · rw [h4]
        unfold attR
        rw [if_pos q2, nIc (by omega), nIc (by omega), if_pos hb]
        exact jRel_41 hR
    · refine ⟨?_, ?_⟩
      · rw [h3, hr]; unfold attA attCA; rw [if_neg q2, if_neg q2]
      · rw [h4]; unfold attR; rw [if_neg q2]; exact jRel_41 hR

theorem t_whisper (l_ : Launch) (G : jG) (I : Nat → Nat → Int32) (J : Nat → Nat → Int64) (O : Nat → Nat → Nat) (man : Int32) (door : Int32) (hR : jRel (I, J, O)) : jMi l_ G yX7_whisper wsX7_whisper ({ frames := 3, cells := 0, slots := 0, locals := 64 }) [.ref (G.2.2.1 (0, 0, 0)), .int man, .int door] (I, J, O) (fun r u => jMi l_ G yX8_whisper wsX8_whisper ({ frames := 2, cells := 0, slots := 0, locals := 46 }) [.ref (G.2.2.1 (20, 0, 0)), .int man, .int door] u (fun r2 u2 => r2 = r ∧ jRel u2)) := by
  obtain ⟨nd, nm, z, hnd, hnm, hD, hM, hD2, hM2, hW, hW2, hWc, hWc2, hz, hZ, hH, hw⟩ := jR_now hR
  have hO : okO O := hR.1
  refine jMi_mono (c_X7_whisper l_ G I J O man door hnd hD hnm hM hz hZ hO) (fun r u h => ?_)
  obtain ⟨hr, hu⟩ := h
  by_cases q : isB man nm = true ∧ isB door nd = true ∧ hasB (I 0 (55 + tN man)) (tN door) = false
  · unfold whiCS at hu
    rw [if_pos q] at hu
    obtain ⟨mm, hmm, rfl⟩ := isB_nat q.1 (by omega)
    obtain ⟨dd, hdd, rfl⟩ := isB_nat q.2.1 (by omega)
    rw [show tN (nI mm) = mm from nIc (by omega), show tN (nI dd) = dd from nIc (by omega)] at hu q
    have e55 : I 0 (55 + mm) = I 41 (55 + mm) := (hw.2.2.2.2.1.1.2.2.2.1 mm hmm).2.2.2.1
    have ek : keepR (I 41) (55 + mm) = I 0 (55 + mm) := by rw [keepR_lo _ (by omega) (by omega)]; exact e55.symm
    have e41 : u.1 41 = I 41 := by rw [hu]; dsimp only; rw [u41 hO hz]
    have h8 := c_X8_whisper l_ G u.1 u.2.1 u.2.2 (nI mm) (nI dd) (nd := nd) (nm := nm) (h := z) hnd (by rw [e41]; exact hD2) hnm (by rw [e41]; exact hM2) hz (by rw [e41]; exact hH)
    refine jMi_mono h8 (fun r2 u2 h2 => ?_)
    obtain ⟨h3, h4⟩ := h2
    have hq : (isB (nI mm) nm && isB (nI dd) nd) = true := by rw [q.1, q.2.1]; rfl
    have hnh : ¬ hasB (I 41 (55 + mm)) dd = true := by rw [← e55, q.2.2]; decide
    rw [e41] at h3 h4
    refine ⟨?_, ?_⟩
    · rw [h3, hr]
      unfold whiA whiCA
      rw [if_pos hq, if_pos hq, show tN (nI mm) = mm from nIc (by omega), show tN (nI dd) = dd from nIc (by omega), nIc (by omega), nIc (by omega), if_neg hnh, if_neg (by rw [q.2.2]; decide), ek]
    · rw [h4, hu]
      unfold whiR
      rw [if_pos hq, nIc (by omega), nIc (by omega), if_neg hnh, ek]
      exact kept hR hw (prR_man (prR_keep hw.2.2.2.2.1) hmm (Or.inr (Or.inl rfl))) (fun i hi => pk_un (by omega)) (fun i hi => pk_un (by omega))
  · unfold whiCS at hu
    rw [if_neg q] at hu
    subst hu
    refine jMi_mono (c_X8_whisper l_ G I J O man door hnd hD2 hnm hM2 hz hH) (fun r2 u2 h2 => ?_)
    obtain ⟨h3, h4⟩ := h2
    by_cases q2 : (isB man nm && isB door nd) = true
    · have q3 := q2
      rw [Bool.and_eq_true] at q3
      obtain ⟨mm, hmm, rfl⟩ := isB_nat q3.1 (by omega)
      obtain ⟨dd, hdd, rfl⟩ := isB_nat q3.2 (by omega)
      rw [show tN (nI mm) = mm from nIc (by omega), show tN (nI dd) = dd from nIc (by omega)] at q
      have e55 : I 0 (55 + mm) = I 41 (55 + mm) := (hw.2.2.2.2.1.1.2.2.2.1 mm hmm).2.2.2.1
      have hf : hasB (I 0 (55 + mm)) dd = true := by
        cases hb : hasB (I 0 (55 + mm)) dd with
        | true => rfl
        | false => exact absurd ⟨q3.1, q3.2, hb⟩ q
      refine ⟨?_, ?_⟩
      · rw [h3, hr]
        unfold whiA whiCA
        rw [if_pos q2, if_pos q2, show tN (nI mm) = mm from nIc (by omega), show tN (nI dd) = dd from nIc (by omega), nIc (by omega), nIc (by omega), ← e55, if_pos hf, if_pos hf]
      · rw [h4]
        unfold whiR
        rw [if_pos q2, nIc (by omega), nIc (by omega), ← e55, if_pos hf]
        exact jRel_41 hR
    · refine ⟨?_, ?_⟩
      · rw [h3, hr]; unfold whiA whiCA; rw [if_neg q2, if_neg q2]
      · rw [h4]; unfold whiR; rw [if_neg q2]; exact jRel_41 hR

theorem hard_q {s x : Int32} : quB s x = (isB s 4 && hardB x) := by
  unfold quB hardB inR
  congr 2
  · congr 1
    rw [Bool.eq_iff_iff, decide_eq_true_iff, decide_eq_true_iff, Int64.lt_iff_toInt_lt, Int32.toInt_toInt64, Int32.lt_iff_toInt_lt, nI_toInt (by decide)]
    exact Iff.rfl
  · congr 1
    rw [Bool.eq_iff_iff, decide_eq_true_iff, decide_eq_true_iff, Int64.lt_iff_toInt_lt, Int32.toInt_toInt64, Int32.lt_iff_toInt_lt, nI_toInt (by decide)]
    exact Iff.rfl

theorem t_setq (l_ : Launch) (G : jG) (I : Nat → Nat → Int32) (J : Nat → Nat → Int64) (O : Nat → Nat → Nat) (door : Int32) (sort : Int32) (hard : Int32) (hR : jRel (I, J, O)) : jMi l_ G yX7_set wsX7_set ({ frames := 3, cells := 0, slots := 0, locals := 64 }) [.ref (G.2.2.1 (0, 0, 0)), .int door, .int sort, .int hard] (I, J, O) (fun r u => jMi l_ G yX8_set wsX8_set ({ frames := 2, cells := 0, slots := 0, locals := 46 }) [.ref (G.2.2.1 (20, 0, 0)), .int door, .int sort, .int hard] u (fun r2 u2 => r2 = r ∧ jRel u2)) := by
  obtain ⟨nd, nm, z, hnd, hnm, hD, hM, hD2, hM2, hW, hW2, hWc, hWc2, hz, hZ, hH, hw⟩ := jR_now hR
  have hO : okO O := hR.1
  refine jMi_mono (c_X7_set l_ G I J O door sort hard hnd hD hnm hM hz hZ hO) (fun r u h => ?_)
  obtain ⟨hr, hu⟩ := h
  have eq1 : setOk nd door sort hard = (isB door nd && quB sort hard) := by unfold setOk; rw [hard_q]
  by_cases q : isB door nd = true ∧ quB sort hard = true
  · unfold setCS at hu
    rw [if_pos q] at hu
    obtain ⟨dd, hdd, rfl⟩ := isB_nat q.1 (by omega)
    rw [show tN (nI dd) = dd from nIc (by omega)] at hu
    have hq : (isB (nI dd) nd && quB sort hard) = true := by rw [q.1, q.2]; rfl
    have e41 : u.1 41 = I 41 := by rw [hu]; dsimp only; rw [u41 hO hz]
    have h8 := c_X8_set l_ G u.1 u.2.1 u.2.2 (nI dd) sort hard (nd := nd) (nm := nm) (h := z) hnd (by rw [e41]; exact hD2) hnm (by rw [e41]; exact hM2) hz (by rw [e41]; exact hH)
    refine jMi_mono h8 (fun r2 u2 h2 => ?_)
    obtain ⟨h3, h4⟩ := h2
    rw [e41] at h3 h4
    refine ⟨?_, ?_⟩
    · rw [h3, hr]
      unfold setA setCA
      rw [eq1, if_pos hq, if_pos hq, show tN (nI dd) = dd from nIc (by omega), nIc (by omega)]
      exact (hw.2.2.2.2.1.1.2.2.1 dd hdd).2.2.2.symm
    · rw [h4, hu]
      unfold setR
      rw [eq1, if_pos hq, nIc (by omega)]
      exact kept hR hw (prR_set (prR_keep hw.2.2.2.2.1) hdd) (fun i hi => by rw [fg_at, if_neg (by omega), pk_un (by omega), pk_un (by omega)]) (fun i hi => by rw [fg_at, if_neg (by omega), pk_un (by omega), pk_un (by omega)])
  · unfold setCS at hu
    rw [if_neg q] at hu
    subst hu
    have hq : ¬ (isB door nd && quB sort hard) = true := fun y => q (by rw [Bool.and_eq_true] at y; exact y)
    refine jMi_mono (c_X8_set l_ G I J O door sort hard hnd hD2 hnm hM2 hz hH) (fun r2 u2 h2 => ⟨?_, ?_⟩)
    · rw [h2.1, hr]; unfold setA setCA; rw [eq1, if_neg hq, if_neg hq]
    · rw [h2.2]; unfold setR; rw [eq1, if_neg hq]; exact jRel_41 hR

theorem t_study (l_ : Launch) (G : jG) (I : Nat → Nat → Int32) (J : Nat → Nat → Int64) (O : Nat → Nat → Nat) (man : Int32) (hR : jRel (I, J, O)) : jMi l_ G yX7_study wsX7_study ({ frames := 3, cells := 0, slots := 0, locals := 64 }) [.ref (G.2.2.1 (0, 0, 0)), .int man] (I, J, O) (fun r u => jMi l_ G yX8_study wsX8_study ({ frames := 2, cells := 0, slots := 0, locals := 46 }) [.ref (G.2.2.1 (20, 0, 0)), .int man] u (fun r2 u2 => r2 = r ∧ jRel u2)) := by
  obtain ⟨nd, nm, z, hnd, hnm, hD, hM, hD2, hM2, hW, hW2, hWc, hWc2, hz, hZ, hH, hw⟩ := jR_now hR
  have hO : okO O := hR.1
  refine jMi_mono (c_X7_study l_ G I J O man hnd hD hnm hM hz hZ hO) (fun r u h => ?_)
  obtain ⟨hr, hu⟩ := h
  by_cases q : isB man nm = true ∧ I 0 (63 + tN man) < nI 9
  · unfold stuCS at hu
    rw [if_pos q] at hu
    obtain ⟨mm, hmm, rfl⟩ := isB_nat q.1 (by omega)
    rw [show tN (nI mm) = mm from nIc (by omega)] at hu q
    have e63 : I 0 (63 + mm) = I 41 (63 + mm) := (hw.2.2.2.2.1.1.2.2.2.1 mm hmm).2.2.2.2.2
    obtain ⟨w, hw9, ew⟩ := (hw.2.2.2.2.1.1.2.2.2.2.2 mm hmm).2.2
    have hlt : w < 9 := by have := q.2; rw [e63, ew, nI_ltI (by omega) (by decide)] at this; exact this
    have ek : keepR (I 41) (63 + mm) = I 41 (63 + mm) := keepR_lo _ (by omega) (by omega)
    have e41 : u.1 41 = I 41 := by rw [hu]; dsimp only; rw [u41 hO hz]
    have h8 := c_X8_study l_ G u.1 u.2.1 u.2.2 (nI mm) (nm := nm) (h := z) hnm (by rw [e41]; exact hM2) hz (by rw [e41]; exact hH)
    refine jMi_mono h8 (fun r2 u2 h2 => ?_)
    obtain ⟨h3, h4⟩ := h2
    have h9 : ¬ I 41 (63 + mm) = nI 9 := by rw [ew]; exact fun y => absurd ((nI_eq (by omega) (by decide)).mp y) (by omega)
    rw [e41] at h3 h4
    refine ⟨?_, ?_⟩
    · rw [h3, hr]
      unfold stuA stuCA
      rw [if_pos q.1, if_pos q.1, show tN (nI mm) = mm from nIc (by omega), nIc (by omega), if_neg h9, if_pos q.2, ek, e63]
    · rw [h4, hu]
      unfold stuR
      rw [if_pos q.1, nIc (by omega), if_neg h9, ek, e63]
      exact kept hR hw (prR_man (prR_keep hw.2.2.2.2.1) hmm (Or.inr (Or.inr (Or.inr ⟨rfl, w + 1, by omega, by rw [ew, nI_add]⟩)))) (fun i hi => pk_un (by omega)) (fun i hi => pk_un (by omega))
  · unfold stuCS at hu
    rw [if_neg q] at hu
    subst hu
    refine jMi_mono (c_X8_study l_ G I J O man hnm hM2 hz hH) (fun r2 u2 h2 => ?_)
    obtain ⟨h3, h4⟩ := h2
    by_cases q2 : isB man nm = true
    · obtain ⟨mm, hmm, rfl⟩ := isB_nat q2 (by omega)
      rw [show tN (nI mm) = mm from nIc (by omega)] at q
      have e63 : I 0 (63 + mm) = I 41 (63 + mm) := (hw.2.2.2.2.1.1.2.2.2.1 mm hmm).2.2.2.2.2
      obtain ⟨w, hw9, ew⟩ := (hw.2.2.2.2.1.1.2.2.2.2.2 mm hmm).2.2
      have hn9 : ¬ I 0 (63 + mm) < nI 9 := fun y => q ⟨q2, y⟩
      have h9 : I 41 (63 + mm) = nI 9 := by
        have hn := hn9
        rw [e63, ew, nI_ltI (by omega) (by decide)] at hn
        rw [ew, show w = 9 by omega]
      refine ⟨?_, ?_⟩
      · rw [h3, hr]
        unfold stuA stuCA
        rw [if_pos q2, if_pos q2, show tN (nI mm) = mm from nIc (by omega), nIc (by omega), if_pos h9, if_neg hn9]
      · rw [h4]; unfold stuR; rw [if_pos q2, nIc (by omega), if_pos h9]; exact jRel_41 hR
    · refine ⟨?_, ?_⟩
      · rw [h3, hr]; unfold stuA stuCA; rw [if_neg q2, if_neg q2]
      · rw [h4]; unfold stuR; rw [if_neg q2]; exact jRel_41 hR
