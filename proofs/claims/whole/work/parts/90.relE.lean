/-! what is now becomes another -/
theorem jRel_new {I : Nat → Nat → Int32} {J : Nat → Nat → Int64} {O : Nat → Nat → Nat} {a2 g2 : Nat → Int32} {nd nm : Nat} (hR : jRel (I, J, O)) (h : prR a2 g2 nd nm) (e0 : g2 0 = nI nd) (e1 : g2 1 = nI nm) (e2 : g2 2 = nI 0) : jRel (sr (sr (sr I 21 (upd (I 21) 0 (nI 0))) 0 a2) 41 g2, J, O) := by
  have hO : okO O := hR.1
  refine jRel_step hR hO ⟨nd, nm, 0, ?_, ?_⟩ (fun r hr => ?_) ?_ (fun j hj => ?_)
  · rw [sr_ne (by decide), sr_ne (by decide), sr_self, pk_us]
  · rw [sr_self, sr_ne (by decide), sr_self]
    exact ⟨e0, e1, e2, by decide, h, fun j hj => absurd hj (by omega)⟩
  · rw [sr_ne (by omega), sr_ne (by omega), sr_ne (by omega)]
  · rw [sr_ne (by decide), sr_ne (by decide), sr_self, pk_un (by decide)]
  · have h1 := (hO 1 (by decide)).1 j hj
    rw [sr_ne (by omega), sr_ne (by omega), sr_ne (by omega)]
theorem jRel_now {I : Nat → Nat → Int32} {J : Nat → Nat → Int64} {O : Nat → Nat → Nat} {a2 g2 : Nat → Int32} {z nd nm : Nat} (hR : jRel (I, J, O)) (hZ : I 21 0 = nI z) (hw : wR (I 0) (I 41) (hiO I O 0) z nd nm) (h5 : prR a2 g2 nd nm) (hlo : ∀ i, i < 31 → g2 i = I 41 i) (hhi : ∀ i, 68 ≤ i → g2 i = I 41 i) : jRel (sr (sr I 0 a2) 41 g2, J, O) := by
  have hO : okO O := hR.1
  refine jRel_step hR hO ⟨nd, nm, z, ?_, ?_⟩ (fun r hr => ?_) ?_ (fun j hj => ?_)
  · rw [sr_ne (by decide), sr_ne (by decide)]; exact hZ
  · rw [sr_self, sr_ne (by decide), sr_self]
    refine wR_hi (wR_now hw h5 hlo hhi) (fun j hj => ?_)
    have h1 := (hO 0 (by decide)).1 j hj
    unfold hiO
    rw [sr_ne (by omega), sr_ne (by omega)]
  · rw [sr_ne (by omega), sr_ne (by omega)]
  · rw [sr_ne (by decide), sr_ne (by decide)]
  · have h1 := (hO 1 (by decide)).1 j hj
    rw [sr_ne (by omega), sr_ne (by omega)]
theorem rem_41 {X : Nat → Nat → Int32} {O : Nat → Nat → Nat} {z nd nm : Nat} {g a2 g2 : Nat → Int32} (hO : okO O) (hz : z ≤ 8) : sr (sr (remI (sr X 41 g) O z nd nm) 0 a2) 41 g2 = sr (sr (remI X O z nd nm) 0 a2) 41 g2 := by
  have h := rem_X (z := z) hO hz
  funext r
  by_cases e : r = 41
  · rw [e, sr_self, sr_self]
  · rw [sr_ne e, sr_ne e]
    by_cases e0 : r = 0
    · rw [e0, sr_self, sr_self]
    · rw [sr_ne e0, sr_ne e0]
      unfold remI
      rw [sr_ne (I := X) (r := 41) (a := 21) (by decide), sr_ne (I := X) (r := 41) (a := 0) (by decide), sr_ne (I := X) (r := 41) (a := remO O z 0 (remZ z)) (by omega)]
      by_cases e1 : r = 21
      · rw [e1, sr_self, sr_self]
      · rw [sr_ne e1, sr_ne e1]
        by_cases e2 : r = remO O z 0 (remZ z)
        · rw [e2, sr_self, sr_self]
        · rw [sr_ne e2, sr_ne e2, sr_ne e]
theorem dr_it {I : Nat → Nat → Int32} {J : Nat → Nat → Int64} {O : Nat → Nat → Nat} {z nd nm : Nat} (hR : jRel (I, J, O)) (hZ : I 21 0 = nI z) (hw : wR (I 0) (I 41) (hiO I O 0) z nd nm) : ∀ k, jRel (sr (drCN I O z nd nm k).1 41 (drN (I 41) nd nm k), J, (drCN I O z nd nm k).2.1) ∧ wR ((drCN I O z nd nm k).1 0) (drN (I 41) nd nm k) (hiO (drCN I O z nd nm k).1 (drCN I O z nd nm k).2.1 0) (drCN I O z nd nm k).2.2 nd nm ∧ (drCN I O z nd nm k).1 41 = I 41
  | 0 => ⟨jRel_41 hR, hw, rfl⟩
  | k + 1 => by
    obtain ⟨h1, h2, h3⟩ := dr_it hR hZ hw k
    have e : drCN I O z nd nm (k + 1) = drCS nd nm (drCN I O z nd nm k) := rfl
    have e2 : drN (I 41) nd nm (k + 1) = drStep (drN (I 41) nd nm k) nd nm := rfl
    rw [e, e2]
    generalize drCN I O z nd nm k = s at h1 h2 h3 ⊢
    generalize drN (I 41) nd nm k = g at h1 h2 ⊢
    obtain ⟨X, Q, y⟩ := s
    unfold drCS
    dsimp only at h1 h2 h3 ⊢
    have hQ : okO Q := h1.1
    have hy : y ≤ 8 := h2.2.2.2.1
    have hnm : nm ≤ 4 := h2.2.2.2.2.1.1.2.1
    have e0 : sr X 41 g 0 = X 0 := sr_ne (by decide)
    have e41 : sr X 41 g 41 = g := sr_self
    have hh : ∀ j, j < 8 → hiO (sr X 41 g) Q 0 j = hiO X Q 0 j := fun j hj => by
      have h4 := (hQ 0 (by decide)).1 j hj
      unfold hiO
      rw [sr_ne (by omega)]
    have hw2 : wR (sr X 41 g 0) (sr X 41 g 41) (hiO (sr X 41 g) Q 0) y nd nm := by rw [e0, e41]; exact wR_hi h2 hh
    have hk := kept (a2 := dwR (X 0) nd nm) (g2 := drStep g nd nm) h1 hw2 (dw_dr h2.2.2.2.2.1) (by rw [e41]; exact (dr_lo hnm).1) (by rw [e41]; exact (dr_lo hnm).2)
    rw [rem_41 hQ hy] at hk
    refine ⟨hk, ?_, ?_⟩
    · rw [sr_self]
      exact wR_drift h2 (rem_hi hQ hy (fun r hr => by rw [sr_ne (by omega)]))
    · rw [u41 hQ hy]; exact h3
theorem drB_in {n : Int32} : drB n = inR n.toInt64 1 40 := by
  unfold drB inR
  congr 1
  · congr 1
    rw [Bool.eq_iff_iff, decide_eq_true_iff, decide_eq_true_iff, Int64.lt_iff_toInt_lt, Int32.toInt_toInt64, Int32.lt_iff_toInt_lt, nI_toInt (by decide)]
    exact Iff.rfl
  · rw [Bool.eq_iff_iff, decide_eq_true_iff, Bool.not_eq_true', decide_eq_false_iff_not, Int64.lt_iff_toInt_lt, Int32.toInt_toInt64, Int32.le_iff_toInt_le, nI_toInt (by decide), show (40 : Int64).toInt = 40 from rfl]
    omega
theorem wR_g {a g g2 : Nat → Int32} {hi : Nat → Nat → Int32} {z nd nm : Nat} (h : wR a g hi z nd nm) (hg : ∀ i, i < 364 → g2 i = g i) : wR a g2 hi z nd nm := by
  obtain ⟨h1, h2, h3, h4, h5, h6⟩ := h
  refine ⟨by rw [hg _ (by decide)]; exact h1, by rw [hg _ (by decide)]; exact h2, by rw [hg _ (by decide)]; exact h3, h4, prR_c h5 eqN.rf (fun i hi _ => hg i (by omega)), fun j hj => prR_c (h6 j hj) eqN.rf (pst_c (fun i hi _ => hg i (by omega)) (fun i hi => hg _ (by omega)))⟩
theorem wR_pc {a b g : Nat → Int32} {hi hi2 hi3 : Nat → Nat → Int32} {z nd nm : Nat} (h : wR b g hi z nd nm) (hh : ∀ j, j < z → hi2 j = pcR (hi3 j) (hi j) nd nm) : wR (pcR a b nd nm) g hi2 z nd nm := by
  obtain ⟨h1, h2, h3, h4, h5, h6⟩ := h
  exact ⟨h1, h2, h3, h4, prR_pc h5, fun j hj => by rw [hh j hj]; exact prR_pc (h6 j hj)⟩
theorem wR_ct {I : Nat → Nat → Int32} {O : Nat → Nat → Nat} {a g : Nat → Int32} {h z nd nm : Nat} (hw : wR a g (hiO I O h) z nd nm) : ctO I O h z nd nm := fun j hj => ⟨(hw.2.2.2.2.2 j hj).2.1, (hw.2.2.2.2.2 j hj).2.2.1⟩
/-- a kept step is taken back -/
theorem wR_un {a b g : Nat → Int32} {hi hi2 : Nat → Nat → Int32} {z nd nm : Nat} (h : wR a g hi z nd nm) (hz : 0 < z) (hh : ∀ j, j < 8 → hi2 j = hi j) : wR (pcR b (hi (z - 1)) nd nm) (unR (upd g 2 (nI (z - 1))) (z - 1) 37) hi2 (z - 1) nd nm := by
  obtain ⟨h1, h2, h3, h4, h5, h6⟩ := h
  have hu : ∀ i, i < 31 ∨ 68 ≤ i → i ≠ 2 → unR (upd g 2 (nI (z - 1))) (z - 1) 37 i = g i := fun i hi hn => by
    unfold unR; rw [if_neg (by omega), pk_un hn]
  refine ⟨by rw [hu _ (by omega) (by decide)]; exact h1, by rw [hu _ (by omega) (by decide)]; exact h2, by unfold unR; rw [if_neg (by omega), pk_us], by omega, prR_c (prR_pc (h6 (z - 1) (by omega))) eqN.rf (fun i hi hn => ?_), fun j hj => ?_⟩
  · unfold pst unR
    by_cases q : 31 ≤ i ∧ i < 68
    · rw [if_pos q, if_pos (by omega), pk_un (by omega)]
    · rw [if_neg q, if_neg (by omega), pk_un hn]
  · rw [hh j (by omega)]
    exact prR_c (h6 j (by omega)) eqN.rf (pst_c (fun i hi hn => hu i (by omega) hn) (fun i hi => hu _ (by omega) (by omega)))
theorem hbI_n {I : Nat → Nat → Int32} {O : Nat → Nat → Nat} {h k z nd nm r : Nat} (hO : okO O) (hh : h < 2) (hz : z ≤ 8) (hr : r < 3 + 8 * h ∨ 11 + 8 * h ≤ r) (h21 : r ≠ 21) : hbI I O h k z nd nm r = I r := by
  unfold hbI; rw [hbI_ne hO hh hz hr z (Nat.le_refl z), sr_ne h21]
theorem hbI_21 {I : Nat → Nat → Int32} {O : Nat → Nat → Nat} {h k z nd nm : Nat} (hO : okO O) (hh : h < 2) (hz : z ≤ 8) : hbI I O h k z nd nm 21 = upd (I 21) h (nI z) := by
  unfold hbI; rw [hbI_ne hO hh hz (by omega) z (Nat.le_refl z), sr_self]
theorem hbF_s {O : Nat → Nat → Nat} {h k nd nm j : Nat} {X : Nat → Nat → Int32} : hbF O h k nd nm j X (O h j) = pcR (X (O h j)) (X (O k j)) nd nm := sr_self
theorem hbI_it {I : Nat → Nat → Int32} {O : Nat → Nat → Nat} {h k nd nm : Nat} (hO : okO O) (hh : h < 2) (hk : k < 2) (hhk : h ≠ k) : ∀ n, n ≤ 8 → ∀ j, j < 8 → it (hbF O h k nd nm) n I (O h j) = (if j < n then pcR (I (O h j)) (I (O k j)) nd nm else I (O h j)) ∧ it (hbF O h k nd nm) n I (O k j) = I (O k j)
  | 0, _, j, hj => by refine ⟨?_, rfl⟩; rw [if_neg (by omega)]; rfl
  | n + 1, hn, j, hj => by
    have ih := hbI_it (I := I) (nd := nd) (nm := nm) hO hh hk hhk n (by omega)
    have b1 := (hO h hh).1
    have b2 := (hO k hk).1
    have hne : ∀ p q, p < 8 → q < 8 → O k p ≠ O h q := fun p q hp hq => by have := b1 q hq; have := b2 p hp; omega
    rw [it_s]
    refine ⟨?_, ?_⟩
    · by_cases e : j = n
      · subst e
        rw [if_pos (by omega)]
        rw [hbF_s, (ih j hj).1, if_neg (by omega), (ih j hj).2]
      · rw [hbF_ne (fun q => e ((hO h hh).2 j n hj (by omega) q)), (ih j hj).1]
        by_cases q : j < n
        · rw [if_pos q, if_pos (by omega)]
        · rw [if_neg q, if_neg (by omega)]
    · rw [hbF_ne (hne j n hj (by omega)), (ih j hj).2]
theorem hbI_at {I : Nat → Nat → Int32} {O : Nat → Nat → Nat} {h k z nd nm j : Nat} (hO : okO O) (hh : h < 2) (hk : k < 2) (hhk : h ≠ k) (hz : z ≤ 8) (hj : j < z) : hbI I O h k z nd nm (O h j) = pcR (I (O h j)) (I (O k j)) nd nm := by
  have b1 := (hO h hh).1 j (by omega)
  have b2 := (hO k hk).1 j (by omega)
  unfold hbI
  rw [(hbI_it hO hh hk hhk z hz j (by omega)).1, if_pos hj, sr_ne (by omega), sr_ne (by omega)]
theorem hbI_k {I : Nat → Nat → Int32} {O : Nat → Nat → Nat} {h k z nd nm j : Nat} (hO : okO O) (hh : h < 2) (hk : k < 2) (hhk : h ≠ k) (hz : z ≤ 8) (hj : j < 8) : hbI I O h k z nd nm (O k j) = I (O k j) := by
  have b2 := (hO k hk).1 j (by omega)
  unfold hbI
  rw [(hbI_it hO hh hk hhk z hz j hj).2, sr_ne (by omega)]

theorem t_door (l_ : Launch) (G : jG) (I : Nat → Nat → Int32) (J : Nat → Nat → Int64) (O : Nat → Nat → Nat) (cell : Int32) (other : Int32) (sort : Int32) (hard : Int32) (hR : jRel (I, J, O)) : jMi l_ G yX7_door wsX7_door ({ frames := 2, cells := 0, slots := 0, locals := 42 }) [.ref (G.2.2.1 (0, 0, 0)), .int cell, .int other, .int sort, .int hard] (I, J, O) (fun r u => jMi l_ G yX8_door wsX8_door ({ frames := 2, cells := 0, slots := 0, locals := 45 }) [.ref (G.2.2.1 (20, 0, 0)), .int cell, .int other, .int sort, .int hard] u (fun r2 u2 => r2 = r ∧ jRel u2)) := by
  obtain ⟨nd, nm, z, hnd, hnm, hD, hM, hD2, hM2, hW, hW2, hWc, hWc2, hz, hZ, hH, hw⟩ := jR_now hR
  have hO : okO O := hR.1
  refine jMi_mono (c_X7_door l_ G I J O cell other sort hard hnd hD) (fun r u h => ?_)
  obtain ⟨hr, hu⟩ := h
  have eqo : doorOk cell other sort hard = doorOkC cell other sort hard := by unfold doorOk doorOkC; rw [hard_q]
  by_cases q : doorOkC cell other sort hard = true ∧ nd < 10
  · unfold doorCI at hu
    rw [if_pos q] at hu
    have e41 : u.1 41 = I 41 := by rw [hu]; dsimp only; rw [sr_ne (by decide), sr_ne (by decide)]
    have h8 := c_X8_door l_ G u.1 u.2.1 u.2.2 cell other sort hard (nd := nd) hnd (by rw [e41]; exact hD2)
    refine jMi_mono h8 (fun r2 u2 h2 => ?_)
    obtain ⟨h3, h4⟩ := h2
    rw [e41] at h3 h4
    have hne : ¬ nI nd = nI 10 := fun y => absurd ((nI_eq (by omega) (by decide)).mp y) (by omega)
    refine ⟨?_, ?_⟩
    · rw [h3, hr]
      unfold doorA doorCA
      rw [eqo, if_pos q.1, if_pos q.1, hD2, if_neg hne, if_pos q.2]
    · rw [h4, hu]
      unfold doorR
      rw [eqo, if_pos q.1, hD2, if_neg hne]
      have qq := q.1
      unfold doorOkC at qq
      simp only [Bool.and_eq_true] at qq
      obtain ⟨c, hc, rfl⟩ := isB_nat qq.1 (by decide)
      obtain ⟨c2, hc2, rfl⟩ := isB_nat qq.2.1 (by decide)
      exact jRel_new hR (prR_door hw.2.2.2.2.1 hD2 q.2 hc hc2) (layDoorR_0 q.2 hD2) (by unfold layDoorR; rw [pk_un (by omega), pk_un (by omega), pk_un (by omega), pk_un (by omega), pk_un (by omega), pk_un (by omega)]; exact hM2) (by unfold layDoorR; rw [pk_us])
  · unfold doorCI at hu
    rw [if_neg q] at hu
    subst hu
    refine jMi_mono (c_X8_door l_ G I J O cell other sort hard hnd hD2) (fun r2 u2 h2 => ?_)
    obtain ⟨h3, h4⟩ := h2
    by_cases q2 : doorOkC cell other sort hard = true
    · have hl : nd = 10 := by have : ¬ nd < 10 := fun y => q ⟨q2, y⟩; omega
      refine ⟨?_, ?_⟩
      · rw [h3, hr]
        unfold doorA doorCA
        rw [eqo, if_pos q2, if_pos q2, hD2, hl, if_pos rfl, if_neg (by omega)]
      · rw [h4]
        unfold doorR
        rw [eqo, if_pos q2, hD2, hl, if_pos rfl]
        exact jRel_41 hR
    · refine ⟨?_, ?_⟩
      · rw [h3, hr]; unfold doorA doorCA; rw [eqo, if_neg q2, if_neg q2]
      · rw [h4]; unfold doorR; rw [eqo, if_neg q2]; exact jRel_41 hR

theorem t_man (l_ : Launch) (G : jG) (I : Nat → Nat → Int32) (J : Nat → Nat → Int64) (O : Nat → Nat → Nat) (kind : Int32) (wit : Int32) (sort : Int32) (cell : Int32) (hR : jRel (I, J, O)) : jMi l_ G yX7_man wsX7_man ({ frames := 2, cells := 0, slots := 0, locals := 41 }) [.ref (G.2.2.1 (0, 0, 0)), .int kind, .int wit, .int sort, .int cell] (I, J, O) (fun r u => jMi l_ G yX8_man wsX8_man ({ frames := 2, cells := 0, slots := 0, locals := 45 }) [.ref (G.2.2.1 (20, 0, 0)), .int kind, .int wit, .int sort, .int cell] u (fun r2 u2 => r2 = r ∧ jRel u2)) := by
  obtain ⟨nd, nm, z, hnd, hnm, hD, hM, hD2, hM2, hW, hW2, hWc, hWc2, hz, hZ, hH, hw⟩ := jR_now hR
  have hO : okO O := hR.1
  refine jMi_mono (c_X7_man l_ G I J O kind wit sort cell hnm hM) (fun r u h => ?_)
  obtain ⟨hr, hu⟩ := h
  by_cases q : manOk kind wit sort cell = true ∧ nm < 4
  · unfold manCI at hu
    rw [if_pos q] at hu
    have e41 : u.1 41 = I 41 := by rw [hu]; dsimp only; rw [sr_ne (by decide), sr_ne (by decide)]
    have h8 := c_X8_man l_ G u.1 u.2.1 u.2.2 kind wit sort cell (nm := nm) hnm (by rw [e41]; exact hM2)
    refine jMi_mono h8 (fun r2 u2 h2 => ?_)
    obtain ⟨h3, h4⟩ := h2
    rw [e41] at h3 h4
    have hne : ¬ nI nm = nI 4 := fun y => absurd ((nI_eq (by omega) (by decide)).mp y) (by omega)
    refine ⟨?_, ?_⟩
    · rw [h3, hr]
      unfold manA manCA
      rw [if_pos q.1, if_pos q.1, hM2, if_neg hne, if_pos q.2]
    · rw [h4, hu]
      unfold manR
      rw [if_pos q.1, hM2, if_neg hne]
      have qq := q.1
      unfold manOk at qq
      simp only [Bool.and_eq_true] at qq
      obtain ⟨c, hc, rfl⟩ := isB_nat qq.2.2.2 (by decide)
      obtain ⟨c2, hc2, rfl⟩ := isB_nat qq.2.1 (by decide)
      exact jRel_new hR (prR_newman hw.2.2.2.2.1 hM2 q.2 hc (by omega)) (by unfold layManR; rw [pk_un (by omega), pk_un (by omega), pk_un (by omega), pk_un (by omega), pk_un (by omega), pk_un (by omega), pk_un (by omega), pk_un (by omega)]; exact hD2) (layManR_1 q.2 hM2) (by unfold layManR; rw [pk_us])
  · unfold manCI at hu
    rw [if_neg q] at hu
    subst hu
    refine jMi_mono (c_X8_man l_ G I J O kind wit sort cell hnm hM2) (fun r2 u2 h2 => ?_)
    obtain ⟨h3, h4⟩ := h2
    by_cases q2 : manOk kind wit sort cell = true
    · have hl : nm = 4 := by have : ¬ nm < 4 := fun y => q ⟨q2, y⟩; omega
      refine ⟨?_, ?_⟩
      · rw [h3, hr]
        unfold manA manCA
        rw [if_pos q2, if_pos q2, hM2, hl, if_pos rfl, if_neg (by omega)]
      · rw [h4]
        unfold manR
        rw [if_pos q2, hM2, hl, if_pos rfl]
        exact jRel_41 hR
    · refine ⟨?_, ?_⟩
      · rw [h3, hr]; unfold manA manCA; rw [if_neg q2, if_neg q2]
      · rw [h4]; unfold manR; rw [if_neg q2]; exact jRel_41 hR

theorem t_seed (l_ : Launch) (G : jG) (I : Nat → Nat → Int32) (J : Nat → Nat → Int64) (O : Nat → Nat → Nat) (v : Int32) (hR : jRel (I, J, O)) : jMi l_ G yX7_seed wsX7_seed ({ frames := 0, cells := 0, slots := 0, locals := 0 }) [.ref (G.2.2.1 (0, 0, 0)), .int v] (I, J, O) (fun r u => jMi l_ G yX8_seed wsX8_seed ({ frames := 0, cells := 0, slots := 0, locals := 0 }) [.ref (G.2.2.1 (20, 0, 0)), .int v] u (fun r2 u2 => r2 = r ∧ jRel u2)) := by
  obtain ⟨nd, nm, z, hnd, hnm, hD, hM, hD2, hM2, hW, hW2, hWc, hWc2, hz, hZ, hH, hw⟩ := jR_now hR
  have hO : okO O := hR.1
  refine jMi_mono (c_X7_seed l_ G I J O v) (fun r u h => ?_)
  obtain ⟨hr, hu⟩ := h
  have e41 : u.1 41 = I 41 := by rw [hu]; dsimp only; rw [sr_ne (by decide)]
  refine jMi_mono (c_X8_seed l_ G u.1 u.2.1 u.2.2 v) (fun r2 u2 h2 => ?_)
  obtain ⟨h3, h4⟩ := h2
  rw [e41] at h3 h4
  have hp := hw.2.2.2.2.1
  refine ⟨?_, ?_⟩
  · rw [h3, hr]; unfold seeA; rw [hp.2.2.2]
  · rw [h4, hu]
    unfold seeR
    by_cases q : 0 ≤ v
    · rw [if_pos q, if_pos q]
      exact jRel_now hR hZ hw (prR_draw hp) (fun i hi => pk_un (by omega)) (fun i hi => pk_un (by omega))
    · rw [if_neg q, if_neg q]
      exact jRel_now hR hZ hw hp (fun _ _ => rfl) (fun _ _ => rfl)

theorem t_drift (l_ : Launch) (G : jG) (I : Nat → Nat → Int32) (J : Nat → Nat → Int64) (O : Nat → Nat → Nat) (n : Int32) (hR : jRel (I, J, O)) : jMi l_ G yX7_drift wsX7_drift ({ frames := 5, cells := 0, slots := 0, locals := 118 }) [.ref (G.2.2.1 (0, 0, 0)), .int n] (I, J, O) (fun r u => jMi l_ G yX8_drift wsX8_drift ({ frames := 4, cells := 0, slots := 0, locals := 96 }) [.ref (G.2.2.1 (20, 0, 0)), .int n] u (fun r2 u2 => r2 = r ∧ jRel u2)) := by
  obtain ⟨nd, nm, z, hnd, hnm, hD, hM, hD2, hM2, hW, hW2, hWc, hWc2, hz, hZ, hH, hw⟩ := jR_now hR
  have hO : okO O := hR.1
  refine jMi_mono (c_X7_drift l_ G I J O n hnd hD hnm hM hz hZ hO) (fun r u h => ?_)
  obtain ⟨hr, hu⟩ := h
  obtain ⟨k1, k2, k3⟩ := dr_it hR hZ hw (tN n)
  have e41 : u.1 41 = I 41 := by
    rw [hu]; unfold driCS
    by_cases q : drB n = true
    · rw [if_pos q]; exact k3
    · rw [if_neg q]
  refine jMi_mono (c_X8_drift l_ G u.1 u.2.1 u.2.2 n (nd := nd) (nm := nm) (h := z) hnd (by rw [e41]; exact hD2) hnm (by rw [e41]; exact hM2) hz (by rw [e41]; exact hH)) (fun r2 u2 h2 => ?_)
  obtain ⟨h3, h4⟩ := h2
  rw [e41] at h3 h4
  by_cases q : drB n = true
  · have q2 := q
    rw [drB_in] at q2
    refine ⟨?_, ?_⟩
    · rw [h3, hr]; unfold driA driCA; rw [if_pos q, if_pos q2]
      exact (fs_c k2.2.2.2.2.1.1 nm (Nat.le_refl nm)).symm
    · rw [h4, hu]; unfold driR driCS; rw [if_pos q, if_pos q2]
      exact k1
  · have q2 := q
    rw [drB_in] at q2
    refine ⟨?_, ?_⟩
    · rw [h3, hr]; unfold driA driCA; rw [if_neg q, if_neg q2]
    · rw [h4, hu]; unfold driR driCS; rw [if_neg q, if_neg q2]
      exact jRel_41 hR

theorem t_undo (l_ : Launch) (G : jG) (I : Nat → Nat → Int32) (J : Nat → Nat → Int64) (O : Nat → Nat → Nat) (hR : jRel (I, J, O)) : jMi l_ G yX7_undo wsX7_undo ({ frames := 3, cells := 0, slots := 0, locals := 64 }) [.ref (G.2.2.1 (0, 0, 0))] (I, J, O) (fun r u => jMi l_ G yX8_undo wsX8_undo ({ frames := 0, cells := 0, slots := 0, locals := 0 }) [.ref (G.2.2.1 (20, 0, 0))] u (fun r2 u2 => r2 = r ∧ jRel u2)) := by
  obtain ⟨nd, nm, z, hnd, hnm, hD, hM, hD2, hM2, hW, hW2, hWc, hWc2, hz, hZ, hH, hw⟩ := jR_now hR
  have hO : okO O := hR.1
  refine jMi_mono (c_X7_undo l_ G I J O hnd hnm hz hZ hO (wR_ct hw)) (fun r u h => ?_)
  obtain ⟨hr, hu⟩ := h
  have e41 : u.1 41 = I 41 := by
    rw [hu]; unfold takI; dsimp only
    by_cases q : 0 < z
    · rw [if_pos q, sr_ne (by decide), sr_ne (by decide)]
    · rw [if_neg q]
  refine jMi_mono (c_X8_undo l_ G u.1 u.2.1 u.2.2 (h := z) hz (by rw [e41]; exact hH)) (fun r2 u2 h2 => ?_)
  obtain ⟨h3, h4⟩ := h2
  rw [e41] at h4
  by_cases q : 0 < z
  · refine ⟨?_, ?_⟩
    · rw [h3, hr]; unfold undA; rw [if_pos q, if_neg (by omega)]
    · rw [h4, hu]; unfold undR takI; rw [if_pos q, if_neg (by omega)]
      dsimp only
      refine jRel_step hR hO ⟨nd, nm, z - 1, ?_, ?_⟩ (fun r hr => ?_) ?_ (fun j hj => ?_)
      · rw [sr_ne (by decide), sr_ne (by decide), sr_self, pk_us]
      · rw [sr_self, sr_ne (by decide), sr_self]
        refine wR_un hw q (fun j hj => ?_)
        have h1 := (hO 0 (by decide)).1 j hj
        unfold hiO
        rw [sr_ne (by omega), sr_ne (by omega), sr_ne (by omega)]
      · rw [sr_ne (by omega), sr_ne (by omega), sr_ne (by omega)]
      · rw [sr_ne (by decide), sr_ne (by decide), sr_self, pk_un (by decide)]
      · have h1 := (hO 1 (by decide)).1 j hj
        rw [sr_ne (by omega), sr_ne (by omega), sr_ne (by omega)]
  · refine ⟨?_, ?_⟩
    · rw [h3, hr]; unfold undA; rw [if_neg q, if_pos (by omega)]
    · rw [h4, hu]; unfold undR takI; rw [if_neg q, if_pos (by omega)]
      exact jRel_41 hR

theorem t_image (l_ : Launch) (G : jG) (I : Nat → Nat → Int32) (J : Nat → Nat → Int64) (O : Nat → Nat → Nat) (hR : jRel (I, J, O)) : jMi l_ G yX7_image wsX7_image ({ frames := 3, cells := 0, slots := 0, locals := 65 }) [.ref (G.2.2.1 (0, 0, 0))] (I, J, O) (fun r u => jMi l_ G yX8_image wsX8_image ({ frames := 0, cells := 0, slots := 0, locals := 0 }) [.ref (G.2.2.1 (20, 0, 0))] u (fun r2 u2 => r2 = r ∧ jRel u2)) := by
  obtain ⟨nd, nm, z, hnd, hnm, hD, hM, hD2, hM2, hW, hW2, hWc, hWc2, hz, hZ, hH, hw⟩ := jR_now hR
  have hO : okO O := hR.1
  refine jMi_mono (c_X7_image l_ G I J O hnd hD hnm hM hz hZ hO (wR_ct hw)) (fun r u h => ?_)
  obtain ⟨hr, hu⟩ := h
  refine jMi_mono (c_X8_image l_ G u.1 u.2.1 u.2.2) (fun r2 u2 h2 => ?_)
  obtain ⟨h3, h4⟩ := h2
  refine ⟨by rw [h3, hr], ?_⟩
  rw [h4, hu]
  dsimp only
  unfold imgI
  generalize hX : sr I 1 (pcR (I 1) (I 0) nd nm) = X
  have eX : ∀ r, r ≠ 1 → X r = I r := fun r hr => by rw [← hX, sr_ne hr]
  have eX1 : X 1 = pcR (I 1) (I 0) nd nm := by rw [← hX, sr_self]
  generalize hY : sr (hbI X O 1 0 z nd nm) 24 (upd (hbI X O 1 0 z nd nm 24) 0 (nI 1)) = Y
  have eY : ∀ r, (r < 11 ∨ 19 ≤ r) ∧ r ≠ 21 ∧ r ≠ 24 → Y r = X r := fun r hr => by rw [← hY, sr_ne hr.2.2, hbI_n hO (by decide) hz (by omega) hr.2.1]
  have eY21 : Y 21 = upd (I 21) 1 (nI z) := by rw [← hY, sr_ne (by decide), hbI_21 hO (by decide) hz, eX 21 (by decide)]
  have eY24 : Y 24 0 = nI 1 := by rw [← hY, sr_self, pk_us]
  have eYh : ∀ j, j < z → Y (O 1 j) = pcR (I (O 1 j)) (I (O 0 j)) nd nm := fun j hj => by
    have h1 := (hO 1 (by decide)).1 j (by omega)
    have h0 := (hO 0 (by decide)).1 j (by omega)
    rw [← hY, sr_ne (by omega), hbI_at hO (by decide) (by decide) (by decide) hz hj, eX _ (by omega), eX _ (by omega)]
  generalize hV : sr (sr Y 42 (cpR (Y 41) (Y 42) 364)) 40 (upd (Y 40) 0 (nI 1)) = V
  have eV : ∀ r, r ≠ 42 ∧ r ≠ 40 → V r = Y r := fun r hr => by rw [← hV, sr_ne hr.2, sr_ne hr.1]
  have eI : ∀ r, (r < 11 ∨ 19 ≤ r) ∧ r ≠ 21 ∧ r ≠ 24 ∧ r ≠ 42 ∧ r ≠ 40 ∧ r ≠ 1 → V r = I r := fun r hr => by rw [eV r (by omega), eY r (by omega), eX r (by omega)]
  have e42 : V 42 = cpR (I 41) (I 42) 364 := by rw [← hV, sr_ne (by decide), sr_self, eY 41 (by decide), eY 42 (by decide), eX 41 (by decide), eX 42 (by decide)]
  have e40 : V 40 = upd (I 40) 0 (nI 1) := by rw [← hV, sr_self, eY 40 (by decide), eX 40 (by decide)]
  obtain ⟨-, a1, -, a3, a4⟩ := hR
  refine ⟨hO, noRel_c a1 (eI 0 (by decide)) (eI 41 (by decide)) ?_ (fun j hj => ?_), ⟨true, ?_, ?_, fun _ => ⟨nd, nm, z, ?_, ?_⟩⟩, tpRel_c a3 (eI _ (by decide)) (eI _ (by decide)) (eI _ (by decide)) ?_, shRel_c a4 (eI _ (by decide)) (eI _ (by decide)) (eI _ (by decide)) (fun _ _ => rfl) rfl⟩
  · show V 21 0 = I 21 0
    rw [eV 21 (by decide), eY21, pk_un (by decide)]
  · show V (O 0 j) = I (O 0 j)
    have h0 := (hO 0 (by decide)).1 j (by omega)
    exact eI _ (by omega)
  · show V 24 0 = b2 true
    rw [eV 24 (by decide), eY24]; rfl
  · show V 40 0 = b2 true
    rw [e40, pk_us]; rfl
  · show V 21 1 = nI z
    rw [eV 21 (by decide), eY21, pk_us]
  · show wR (V 1) (V 42) (hiO V O 1) z nd nm
    rw [eV 1 (by decide), eY 1 (by decide), eX1, e42]
    refine wR_g (g := I 41) (wR_pc (hi3 := hiO I O 1) hw (fun j hj => ?_)) (fun i hi => by unfold cpR; rw [if_pos hi])
    have h1 := (hO 1 (by decide)).1 j (by omega)
    show V (O 1 j) = _
    rw [eV _ (by omega), eYh j hj]; rfl
  · show V 40 2 = I 40 2
    rw [e40, pk_un (by decide)]

theorem t_restore (l_ : Launch) (G : jG) (I : Nat → Nat → Int32) (J : Nat → Nat → Int64) (O : Nat → Nat → Nat) (hR : jRel (I, J, O)) : jMi l_ G yX7_restore wsX7_restore ({ frames := 3, cells := 0, slots := 0, locals := 65 }) [.ref (G.2.2.1 (0, 0, 0))] (I, J, O) (fun r u => jMi l_ G yX8_restore wsX8_restore ({ frames := 0, cells := 0, slots := 0, locals := 0 }) [.ref (G.2.2.1 (20, 0, 0))] u (fun r2 u2 => r2 = r ∧ jRel u2)) := by
  obtain ⟨-, a1, ⟨kp, e1, e2, hI⟩, a3, a4⟩ := id hR
  have hO : okO O := hR.1
  cases kp with
  | false =>
    refine jMi_mono (c_X7_restore l_ G I J O (hi := false) e1 (nd := 0) (by decide) (nm := 0) (by decide) (z := 0) (by decide) hO (fun q => absurd q Bool.false_ne_true)) (fun r u h => ?_)
    obtain ⟨hr, hu⟩ := h
    rw [if_neg Bool.false_ne_true] at hr hu
    subst hu
    refine jMi_mono (c_X8_restore l_ G I J O (kp := false) e2) (fun r2 u2 h2 => ?_)
    obtain ⟨h3, h4⟩ := h2
    rw [if_neg Bool.false_ne_true] at h3 h4
    exact ⟨by rw [h3, hr], by rw [h4]; exact jRel_41 hR⟩
  | true =>
    obtain ⟨nd, nm, z, eZ, hw⟩ := hI rfl
    have hz : z ≤ 8 := hw.2.2.2.1
    have hnd : nd ≤ 10 := hw.2.2.2.2.1.1.1
    have hnm : nm ≤ 4 := hw.2.2.2.2.1.1.2.1
    refine jMi_mono (c_X7_restore l_ G I J O (hi := true) e1 hnd hnm hz hO (fun _ => ⟨hw.2.2.2.2.1.2.1, hw.2.2.2.2.1.2.2.1, eZ, wR_ct hw⟩)) (fun r u h => ?_)
    obtain ⟨hr, hu⟩ := h
    rw [if_pos rfl] at hr hu
    unfold resI at hu
    generalize hX : sr I 0 (pcR (I 0) (I 1) nd nm) = X at hu
    have eX : ∀ r, r ≠ 0 → X r = I r := fun r hr => by rw [← hX, sr_ne hr]
    have eX1 : X 0 = pcR (I 0) (I 1) nd nm := by rw [← hX, sr_self]
    generalize hY : hbI X O 0 1 z nd nm = Y at hu
    have eY : ∀ r, (r < 3 ∨ 11 ≤ r) ∧ r ≠ 21 → Y r = X r := fun r hr => by rw [← hY, hbI_n hO (by decide) hz (by omega) hr.2]
    have eY21 : Y 21 = upd (I 21) 0 (nI z) := by rw [← hY, hbI_21 hO (by decide) hz, eX 21 (by decide)]
    have eYh : ∀ j, j < z → Y (O 0 j) = pcR (I (O 0 j)) (I (O 1 j)) nd nm := fun j hj => by
      have h1 := (hO 1 (by decide)).1 j (by omega)
      have h0 := (hO 0 (by decide)).1 j (by omega)
      rw [← hY, hbI_at hO (by decide) (by decide) (by decide) hz hj, eX _ (by omega), eX _ (by omega)]
    subst hu
    refine jMi_mono (c_X8_restore l_ G Y J O (kp := true) (by rw [eY 40 (by decide), eX 40 (by decide)]; exact e2)) (fun r2 u2 h2 => ?_)
    obtain ⟨h3, h4⟩ := h2
    rw [if_pos rfl] at h3 h4
    refine ⟨by rw [h3, hr], ?_⟩
    rw [h4]
    have eI : ∀ r, (r < 3 ∨ 11 ≤ r) ∧ r ≠ 21 ∧ r ≠ 0 ∧ r ≠ 41 → sr Y 41 (cpR (Y 42) (Y 41) 364) r = I r := fun r hr => by rw [sr_ne hr.2.2.2, eY r (by omega), eX r (by omega)]
    refine jRel_step hR hO ⟨nd, nm, z, ?_, ?_⟩ (fun r hr => eI r (by omega)) ?_ (fun j hj => ?_)
    · rw [sr_ne (by decide), eY21, pk_us]
    · rw [sr_self, sr_ne (by decide), eY 0 (by decide), eX1, eY 42 (by decide), eX 42 (by decide)]
      refine wR_g (g := I 42) (wR_pc (hi3 := hiO I O 0) hw (fun j hj => ?_)) (fun i hi => by unfold cpR; rw [if_pos hi])
      have h0 := (hO 0 (by decide)).1 j (by omega)
      show sr Y 41 _ (O 0 j) = _
      rw [sr_ne (by omega), eYh j hj]; rfl
    · rw [sr_ne (by decide), eY21, pk_un (by decide)]
    · have h1 := (hO 1 (by decide)).1 j (by omega)
      rw [sr_ne (by omega), ← hY, hbI_k hO (by decide) (by decide) (by decide) hz hj, eX _ (by omega)]
