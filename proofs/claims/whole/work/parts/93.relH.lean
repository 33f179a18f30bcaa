/-! READ: both read the tape alike -/
theorem tx_7 : ∀ k, k < 127 → (0 ≤ txO 0 (nI k) ↔ inR (nI k).toInt64 48 (nI (48 + 7)).toInt64 = true) ∧ (0 ≤ txO 0 (nI k) → tN (txO 0 (nI k)) < 8 ∧ k = 48 + tN (txO 0 (nI k)) ∧ nI k - nI 48 = nI (tN (txO 0 (nI k)))) := by decide +kernel
theorem tx_9 : ∀ k, k < 127 → (0 ≤ txO 2 (nI k) ↔ inR (nI k).toInt64 48 (nI (48 + 9)).toInt64 = true) ∧ (0 ≤ txO 2 (nI k) → tN (txO 2 (nI k)) < 10 ∧ k = 48 + tN (txO 2 (nI k)) ∧ nI k - nI 48 = nI (tN (txO 2 (nI k)))) := by decide +kernel
theorem tx_so : ∀ k, k < 127 → (0 ≤ txO 1 (nI k) ↔ ¬ soV (nI k) = -4) ∧ (0 ≤ txO 1 (nI k) → tN (txO 1 (nI k)) < 4 ∧ soV (nI k) = nI (tN (txO 1 (nI k)))) := by decide +kernel
theorem tx_kd : ∀ k, k < 127 → (0 ≤ txO 3 (nI k) ↔ ¬ kdV (nI k) = -4) ∧ (0 ≤ txO 3 (nI k) → tN (txO 3 (nI k)) < 5 ∧ kdV (nI k) = nI (tN (txO 3 (nI k)))) := by decide +kernel
def lets (t : Nat → Int32) (n : Nat) : Prop := ∀ j, j < n → ∃ k, 32 ≤ k ∧ k ≤ 126 ∧ t j = nI k
theorem skS_f {t : Nat → Int32} {n p : Nat} : skS t n (p, false) = (sk t n p, false) := by unfold skS; rw [if_neg Bool.false_ne_true]
theorem skS_t {t : Nat → Int32} {n p : Nat} : skS t n (p, true) = (p, true) := by unfold skS; rw [if_pos rfl]
theorem flS_f {p k : Nat} : flS (p, false) k = (k, true) := by unfold flS; rw [if_neg Bool.false_ne_true]
theorem flS_t {p k : Nat} : flS (p, true) k = (p, true) := by unfold flS; rw [if_pos rfl]
theorem pik_ok {t : Nat → Int32} {n p i : Nat} (h : sk t n p < n) (h2 : 0 ≤ txO i (t (sk t n p))) : pik t n i (p, false) = (tN (txO i (t (sk t n p))), (sk t n p + 1, false)) := by
  unfold pik; rw [skS_f, if_pos ⟨rfl, h, h2⟩]
theorem pik_no {t : Nat → Int32} {n p i : Nat} (h : ¬ (sk t n p < n ∧ 0 ≤ txO i (t (sk t n p)))) : pik t n i (p, false) = (0, (sk t n p, true)) := by
  unfold pik; rw [skS_f, if_neg (fun y => h ⟨y.2.1, y.2.2⟩), flS_f]
theorem pik_t {t : Nat → Int32} {n p i : Nat} : pik t n i (p, true) = (0, (p, true)) := by
  unfold pik; rw [skS_t, if_neg (fun y => Bool.false_ne_true y.1.symm), flS_t]
theorem nx_in {t : Nat → Int32} {n p : Nat} (h : sk t n p < n) : nx t n p = t (sk t n p) := if_pos h
theorem nx_out {t : Nat → Int32} {n p : Nat} (h : ¬ sk t n p < n) : nx t n p = -4 := if_neg h
theorem dg_rel {t : Nat → Int32} {n p i h M : Nat} {v : Int32} (hT : lets t n) (T : ∀ k, k < 127 → (0 ≤ txO i (nI k) ↔ inR (nI k).toInt64 48 (nI (48 + h)).toInt64 = true) ∧ (0 ≤ txO i (nI k) → tN (txO i (nI k)) < M ∧ k = 48 + tN (txO i (nI k)) ∧ nI k - nI 48 = nI (tN (txO i (nI k))))) : ((rDg t n h (p, v)).1 = true ∧ sk t n p < n ∧ ∃ w, w < M ∧ nx t n p = nI (48 + w) ∧ (rDg t n h (p, v)).2 = (sk t n p + 1, nI w) ∧ pik t n i (p, false) = (w, (sk t n p + 1, false))) ∨ ((rDg t n h (p, v)).1 = false ∧ (rDg t n h (p, v)).2 = (sk t n p, v) ∧ pik t n i (p, false) = (0, (sk t n p, true))) := by
  unfold rDg
  dsimp only
  by_cases h1 : sk t n p < n
  · obtain ⟨k, hk, hk2, ek⟩ := hT _ h1
    obtain ⟨T1, T2⟩ := T k (by omega)
    rw [nx_in h1, ek]
    by_cases h2 : 0 ≤ txO i (nI k)
    · obtain ⟨T3, T4, T5⟩ := T2 h2
      rw [if_pos (T1.mp h2)]
      refine Or.inl ⟨rfl, h1, _, T3, by rw [← T4], ?_, by rw [pik_ok h1 (by rw [ek]; exact h2), ek]⟩
      rw [T5]
    · rw [if_neg (fun y => h2 (T1.mpr y))]
      exact Or.inr ⟨rfl, rfl, pik_no (fun y => h2 (by rw [ek] at y; exact y.2))⟩
  · rw [nx_out h1, if_neg (fun y => inR_n4 y rfl)]
    exact Or.inr ⟨rfl, rfl, pik_no (fun y => h1 y.1)⟩
theorem so_rel {t : Nat → Int32} {n p : Nat} {v : Int32} (hT : lets t n) : ((rSo t n (p, v)).1 = true ∧ sk t n p < n ∧ ∃ w, w < 4 ∧ (rSo t n (p, v)).2 = (sk t n p + 1, nI w) ∧ pik t n 1 (p, false) = (w, (sk t n p + 1, false))) ∨ ((rSo t n (p, v)).1 = false ∧ (rSo t n (p, v)).2 = (sk t n p, -4) ∧ pik t n 1 (p, false) = (0, (sk t n p, true))) := by
  unfold rSo
  dsimp only
  by_cases h1 : sk t n p < n
  · obtain ⟨k, hk, hk2, ek⟩ := hT _ h1
    obtain ⟨T1, T2⟩ := tx_so k (by omega)
    rw [nx_in h1, ek]
    by_cases h2 : 0 ≤ txO 1 (nI k)
    · obtain ⟨T3, T4⟩ := T2 h2
      rw [if_neg (T1.mp h2)]
      exact Or.inl ⟨rfl, h1, _, T3, by rw [T4], by rw [pik_ok h1 (by rw [ek]; exact h2), ek]⟩
    · rw [if_pos (Decidable.not_not.mp (fun y => h2 (T1.mpr y)))]
      exact Or.inr ⟨rfl, rfl, pik_no (fun y => h2 (by rw [ek] at y; exact y.2))⟩
  · rw [nx_out h1, if_pos (by decide)]
    exact Or.inr ⟨rfl, rfl, pik_no (fun y => h1 y.1)⟩
theorem kd_rel {t : Nat → Int32} {n p : Nat} (hT : lets t n) : (¬ kdV (nx t n p) = -4 ∧ sk t n p < n ∧ ∃ w, w < 5 ∧ kdV (nx t n p) = nI w ∧ pik t n 3 (p, false) = (w, (sk t n p + 1, false))) ∨ (kdV (nx t n p) = -4 ∧ pik t n 3 (p, false) = (0, (sk t n p, true))) := by
  by_cases h1 : sk t n p < n
  · obtain ⟨k, hk, hk2, ek⟩ := hT _ h1
    obtain ⟨T1, T2⟩ := tx_kd k (by omega)
    rw [nx_in h1, ek]
    by_cases h2 : 0 ≤ txO 3 (nI k)
    · obtain ⟨T3, T4⟩ := T2 h2
      exact Or.inl ⟨T1.mp h2, h1, _, T3, T4, by rw [pik_ok h1 (by rw [ek]; exact h2), ek]⟩
    · exact Or.inr ⟨Decidable.not_not.mp (fun y => h2 (T1.mpr y)), pik_no (fun y => h2 (by rw [ek] at y; exact y.2))⟩
  · rw [nx_out h1]
    exact Or.inr ⟨by decide, pik_no (fun y => h1 y.1)⟩
/-- the class fails at F, now or at the tape's end -/
def flt (t : Nat → Int32) (n F : Nat) (s : Nat × Bool) : Prop := F ≤ n ∧ (F < n → ¬ t F = nI 32) ∧ (s = (F, true) ∨ (s = (F, false) ∧ F < n ∧ dgB (t F) = true))
theorem flt_sk {t : Nat → Int32} {n p : Nat} (hp : p ≤ n) : flt t n (sk t n p) (sk t n p, true) := ⟨(sk_le hp).2, sk_nb hp, Or.inl rfl⟩
theorem dg_57 : (nI (48 + 9)).toInt64 = 57 := by decide
theorem in_19 : ∀ w, w < 100 → (inR (nI w).toInt64 1 19 = true ↔ ¬ (w < 1 ∨ 19 < w)) := by decide +kernel
theorem two_dg : ∀ a, a < 10 → ∀ b, b < 10 → nI 10 * nI a + nI (48 + b) - nI 48 = nI (a * 10 + b) := by decide +kernel
theorem dg_32 : ¬ dgB (nI 32) = true := by decide
theorem ph_t {t : Nat → Int32} {n p : Nat} : ph t n (p, true) = (0, (p, true)) := by
  unfold ph
  have e : ph1 t n (pik t n 2 (p, true)) = (0, (p, true)) := by
    rw [pik_t]; unfold ph1; rw [if_neg (fun y => Bool.false_ne_true y.1.symm)]
  rw [e, if_pos (Or.inl Nat.zero_lt_one), flS_t]
theorem ha_rel {t : Nat → Int32} {n p : Nat} {v : Int32} (hT : lets t n) (hp : p ≤ n) : ((rHa t n (p, v)).1 = true ∧ ∃ P w, P ≤ n ∧ (rHa t n (p, v)).2 = (P, nI w) ∧ ph t n (p, false) = (w, (P, false))) ∨ ((rHa t n (p, v)).1 = false ∧ flt t n (rHa t n (p, v)).2.1 (ph t n (p, false)).2) := by
  have hb : dgB (nx t n p) = true ↔ (rDg t n 9 (p, v)).1 = true := by
    unfold dgB rDg
    dsimp only
    rw [dg_57]
    by_cases q : inR (nx t n p).toInt64 48 57 = true
    · rw [if_pos q]; exact ⟨fun _ => rfl, fun _ => q⟩
    · rw [if_neg q]; exact ⟨fun y => absurd y q, fun y => absurd y Bool.false_ne_true⟩
  rcases dg_rel (v := v) (p := p) hT tx_9 with ⟨q1, q2, w, hw, ew, q3, q4⟩ | ⟨q1, q2, q3⟩
  · have hd := hb.mpr q1
    have e0 : t (sk t n p) = nI (48 + w) := by rw [← nx_in q2]; exact ew
    have s48 : ∀ x, x < 10 → nI (48 + x) - nI 48 = nI x := by decide +kernel
    have key : ∃ P x, x < 100 ∧ P ≤ n ∧ rH2 t n (sk t n p) = (P, nI x) ∧ ph1 t n (w, (sk t n p + 1, false)) = (x, (P, false)) := by
      unfold rH2 ph1
      dsimp only
      by_cases z : sk t n p + 1 < n
      · obtain ⟨k, hk, hk2, ek⟩ := hT _ z
        obtain ⟨T1, T2⟩ := tx_9 k (by omega)
        have T1b : 0 ≤ txO 2 (nI k) ↔ dgB (nI k) = true := by unfold dgB; rw [← dg_57]; exact T1
        rw [ek, e0]
        by_cases y : 0 ≤ txO 2 (nI k)
        · obtain ⟨T3, T4, T5⟩ := T2 y
          rw [if_pos ⟨z, T1b.mp y⟩, if_pos ⟨rfl, z, y⟩, s48 w hw]
          refine ⟨sk t n p + 1 + 1, w * 10 + tN (txO 2 (nI k)), by omega, z, ?_, rfl⟩
          rw [← two_dg w hw _ T3, ← T4]
        · rw [if_neg (fun x => y (T1b.mpr x.2)), if_neg (fun x => y x.2.2), s48 w hw]
          exact ⟨_, w, by omega, q2, rfl, rfl⟩
      · rw [if_neg (fun x => z x.1), if_neg (fun x => z x.2.1), e0, s48 w hw]
        exact ⟨_, w, by omega, q2, rfl, rfl⟩
    obtain ⟨P, x, hx, hP, e1, e2⟩ := key
    unfold rHa ph
    dsimp only
    rw [if_pos hd, q4, e2, e1]
    dsimp only
    by_cases z : x < 1 ∨ 19 < x
    · rw [if_neg (fun y => (in_19 x hx).mp y z), if_pos z, flS_f]
      exact Or.inr ⟨rfl, flt_sk hp⟩
    · rw [if_pos ((in_19 x hx).mpr z), if_neg z]
      by_cases y : (decide (P = n) || !dgB (t P)) = true
      · exact Or.inl ⟨y, P, x, hP, rfl, rfl⟩
      · refine Or.inr ⟨Bool.eq_false_iff.mpr y, hP, ?_, Or.inr ⟨rfl, ?_, ?_⟩⟩
        · intro _ e3
          dsimp only at e3
          rw [e3] at y
          exact y (by rw [Bool.eq_false_iff.mpr dg_32]; simp)
        · have : ¬ P = n := fun e3 => y (by rw [decide_eq_true e3]; rfl)
          dsimp only; omega
        · cases e3 : dgB (t P) with
          | true => rfl
          | false => exact absurd (by rw [e3]; simp) y
  · have hd : ¬ dgB (nx t n p) = true := fun y => Bool.false_ne_true (q1.symm.trans (hb.mp y))
    refine Or.inr ?_
    unfold rHa ph
    dsimp only
    have e : ph1 t n (0, (sk t n p, true)) = (0, (sk t n p, true)) := by unfold ph1; rw [if_neg (fun y => Bool.false_ne_true y.1.symm)]
    rw [if_neg hd, q3, e, if_pos (Or.inl Nat.zero_lt_one), flS_t]
    exact ⟨rfl, flt_sk hp⟩
