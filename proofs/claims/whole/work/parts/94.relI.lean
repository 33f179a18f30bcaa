/-! READ: a DOOR, a MAN -/
theorem sk_1 {t : Nat → Int32} {n p : Nat} (h : sk t n p < n) : sk t n p + 1 ≤ n := h
theorem rDg_sk {t : Nat → Int32} {n p h : Nat} {v : Int32} (hp : p ≤ n) : rDg t n h (sk t n p, v) = rDg t n h (p, v) := by
  unfold rDg nx
  dsimp only
  rw [sk_sk hp]
theorem pdS_t {t : Nat → Int32} {n F : Nat} {s : Nat × Bool} (h : pd2 t n s = (F, true)) : pdS t n s = (F, true) := by
  unfold pdS
  rw [h, pik_t, ph_t]
theorem do_rel {t : Nat → Int32} {n p : Nat} {v : Int32} (hT : lets t n) (hp : p ≤ n) : ((rDo t n (p, v)).1 = true ∧ ∃ P v2 c o s x, P ≤ n ∧ c < 8 ∧ o < 8 ∧ (rDo t n (p, v)).2 = (P, v2) ∧ pdS t n (p, false) = (P, false) ∧ (∀ a, pdR t n (p, false) a = adR a (nI c) (nI o) (nI s) (nI x)) ∧ ∀ g, rDoR t n (p, v) g = layDoorR g (nI c) (nI o) (nI s) (nI x)) ∨ ((rDo t n (p, v)).1 = false ∧ flt t n (rDo t n (p, v)).2.1 (pdS t n (p, false))) := by
  rcases dg_rel (v := v) (p := p) hT tx_7 with ⟨a1, a2, c, hc, ec, a3, a4⟩ | ⟨a1, a2, a3⟩
  · have hP1 := sk_1 a2
    have eD1 : rD1 t n (p, v) = (sk t n (sk t n p + 1), nI c) := by unfold rD1; rw [a3]
    have eDg : rDg t n 7 (rD1 t n (p, v)) = rDg t n 7 (sk t n p + 1, nI c) := by rw [eD1]; exact rDg_sk hP1
    have hd1 : ¬ (rDg t n 7 (p, v)).1 = false := by rw [a1]; exact fun y => Bool.false_ne_true y.symm
    rcases dg_rel (v := nI c) (p := sk t n p + 1) hT tx_7 with ⟨b1, b2, o, ho, eo, b3, b4⟩ | ⟨b1, b2, b3⟩
    · have heq : nx t n (rDg t n 7 (p, v)).2.1 = nI 48 + (rDg t n 7 (p, v)).2.2 ↔ o = c := by
        rw [a3]
        dsimp only
        rw [eo, nI_add]
        rw [nI_eq (by omega) (by omega)]
        omega
      by_cases z : o = c
      · refine Or.inr ?_
        have e2 : pd2 t n (p, false) = (sk t n (sk t n p + 1), true) := by
          unfold pd2
          rw [a4, b4]
          dsimp only
          rw [if_pos z, flS_f, Nat.add_sub_cancel]
        have e3 : rDo t n (p, v) = (false, rD1 t n (p, v)) := by unfold rDo; rw [if_neg hd1, if_pos (heq.mpr z)]
        rw [e3, eD1, pdS_t e2]
        exact ⟨rfl, flt_sk hP1⟩
      · have hP2 := sk_1 b2
        have e2 : pd2 t n (p, false) = (sk t n (sk t n p + 1) + 1, false) := by
          unfold pd2
          rw [a4, b4]
          dsimp only
          rw [if_neg z]
        have hd2 : ¬ (rDg t n 7 (rD1 t n (p, v))).1 = false := by rw [eDg, b1]; exact fun y => Bool.false_ne_true y.symm
        have e3 : ∀ X, rDo t n (p, v) = X ↔ (if (rSo t n (sk t n (sk t n p + 1) + 1, nI o)).1 = false then (false, (rSo t n (sk t n (sk t n p + 1) + 1, nI o)).2) else ((rHa t n (rSo t n (sk t n (sk t n p + 1) + 1, nI o)).2).1, (rHa t n (rSo t n (sk t n (sk t n p + 1) + 1, nI o)).2).2)) = X := fun X => by
          unfold rDo; rw [if_neg hd1, if_neg (fun y => z (heq.mp y)), if_neg hd2, eDg, b3]
        rcases so_rel (v := nI o) (p := sk t n (sk t n p + 1) + 1) hT with ⟨c1, c2, s, hs, c3, c4⟩ | ⟨c1, c2, c3⟩
        · have hP3 := sk_1 c2
          have hso : ¬ (rSo t n (sk t n (sk t n p + 1) + 1, nI o)).1 = false := by rw [c1]; exact fun y => Bool.false_ne_true y.symm
          have e4 : rDo t n (p, v) = rHa t n (sk t n (sk t n (sk t n p + 1) + 1) + 1, nI s) := (e3 _).mpr (by rw [if_neg hso, c3])
          have e5 : pdS t n (p, false) = (ph t n (sk t n (sk t n (sk t n p + 1) + 1) + 1, false)).2 := by unfold pdS; rw [e2, c4]
          rcases ha_rel (v := nI s) hT hP3 with ⟨d1, P, x, hP, d2, d3⟩ | ⟨d1, d2⟩
          · refine Or.inl ⟨by rw [e4]; exact d1, P, nI x, c, o, s, x, hP, hc, ho, by rw [e4]; exact d2, by rw [e5, d3], fun a => ?_, fun g => ?_⟩
            · unfold pdR
              rw [e2, a4, b4, c4, d3]
            · unfold rDoR
              rw [if_pos (by rw [e4]; exact d1), eDg, a3, b3]
              dsimp only
              rw [c3]
              dsimp only
              rw [d2]
          · exact Or.inr ⟨by rw [e4]; exact d1, by rw [e4, e5]; exact d2⟩
        · refine Or.inr ?_
          have e4 : rDo t n (p, v) = (false, (sk t n (sk t n (sk t n p + 1) + 1), -4)) := (e3 _).mpr (by rw [if_pos c1, c2])
          have e5 : pdS t n (p, false) = (sk t n (sk t n (sk t n p + 1) + 1), true) := by unfold pdS; rw [e2, c3, ph_t]
          rw [e4, e5]
          exact ⟨rfl, flt_sk hP2⟩
    · refine Or.inr ?_
      have e2 : pd2 t n (p, false) = (sk t n (sk t n p + 1), true) := by
        unfold pd2
        rw [a4, b3]
        dsimp only
        split
        · rw [flS_t]
        · rfl
      have e3 : (rDo t n (p, v)).1 = false ∧ (rDo t n (p, v)).2.1 = sk t n (sk t n p + 1) := by
        unfold rDo
        rw [if_neg hd1]
        split
        · exact ⟨rfl, by rw [eD1]⟩
        · rw [if_pos (by rw [eDg]; exact b1), eDg, b2]
          exact ⟨rfl, rfl⟩
      refine ⟨e3.1, ?_⟩
      rw [e3.2, pdS_t e2]
      exact flt_sk hP1
  · refine Or.inr ?_
    have e2 : pd2 t n (p, false) = (sk t n p, true) := by
      unfold pd2
      rw [a3]
      dsimp only
      rw [pik_t, if_pos rfl, flS_t]
    have e3 : rDo t n (p, v) = (false, (sk t n p, v)) := by unfold rDo; rw [if_pos a1, a2]
    rw [e3, pdS_t e2]
    exact ⟨rfl, flt_sk hp⟩
theorem gn_rel {t : Nat → Int32} {n p : Nat} {c v : Int32} (hc : ¬ c = -4) : ((rNx t n c (p, v)).1 = true ∧ sk t n p < n ∧ (rNx t n c (p, v)).2 = (sk t n p + 1, v) ∧ gn t n c (p, false) = (true, (sk t n p + 1, false))) ∨ ((rNx t n c (p, v)).1 = false ∧ (rNx t n c (p, v)).2 = (sk t n p, v) ∧ gn t n c (p, false) = (false, (sk t n p, false)) ∧ ¬ nx t n p = c) := by
  unfold rNx gn
  rw [skS_f]
  dsimp only
  by_cases h1 : sk t n p < n
  · rw [nx_in h1]
    by_cases h2 : t (sk t n p) = c
    · rw [if_pos h2, if_pos ⟨rfl, h1, h2⟩]
      exact Or.inl ⟨rfl, h1, rfl, rfl⟩
    · rw [if_neg h2, if_neg (fun y => h2 y.2.2)]
      exact Or.inr ⟨rfl, rfl, rfl, h2⟩
  · rw [nx_out h1, if_neg (fun y => hc y.symm), if_neg (fun y => h1 y.2.1)]
    exact Or.inr ⟨rfl, rfl, rfl, fun y => hc y.symm⟩
theorem gn_t {t : Nat → Int32} {n p : Nat} {c : Int32} : gn t n c (p, true) = (false, (p, true)) := by
  unfold gn; rw [skS_t, if_neg (fun y => Bool.false_ne_true y.1.symm)]
theorem pm_t {t : Nat → Int32} {n F : Nat} {s : Nat × Bool} (h : pm3 t n s = (F, true)) : pmS t n s = (F, true) := by
  unfold pmS pm4
  rw [h, gn_t, if_neg Bool.false_ne_true]
theorem ma_rel {t : Nat → Int32} {n p : Nat} {v : Int32} (hT : lets t n) (hp : p ≤ n) : ((rMa t n (p, v)).1 = true ∧ ∃ P v2 k w s c, P ≤ n ∧ c < 8 ∧ w ≤ 9 ∧ (rMa t n (p, v)).2 = (P, v2) ∧ pmS t n (p, false) = (P, false) ∧ (∀ a, pmR t n (p, false) a = amR a (nI k) (nI w) (nI s) (nI c)) ∧ ∀ g, rMaR t n (p, v) g = layManR g (nI k) (nI w) (nI s) (nI c)) ∨ ((rMa t n (p, v)).1 = false ∧ flt t n (rMa t n (p, v)).2.1 (pmS t n (p, false))) := by
  rcases kd_rel (p := p) hT with ⟨a1, a2, k, hk, ek, a4⟩ | ⟨a1, a3⟩
  · have hP1 := sk_1 a2
    have e1 : rM2 t n (p, v) = rDg t n 9 (sk t n p + 1, v) := rfl
    rcases dg_rel (v := v) (p := sk t n p + 1) hT tx_9 with ⟨b1, b2, w, hw, ew, b3, b4⟩ | ⟨b1, b2, b3⟩
    · have hP2 := sk_1 b2
      have e2 : rM3 t n (p, v) = rSo t n (sk t n (sk t n p + 1) + 1, nI w) := by unfold rM3; rw [e1, b3]
      have n2 : ¬ (rM2 t n (p, v)).1 = false := by rw [e1, b1]; exact fun y => Bool.false_ne_true y.symm
      rcases so_rel (v := nI w) (p := sk t n (sk t n p + 1) + 1) hT with ⟨c1, c2, s, hs, c3, c4⟩ | ⟨c1, c2, c3⟩
      · have hP3 := sk_1 c2
        have n3 : ¬ (rM3 t n (p, v)).1 = false := by rw [e2, c1]; exact fun y => Bool.false_ne_true y.symm
        have e3 : rM4 t n (p, v) = rNx t n (nI 64) (sk t n (sk t n (sk t n p + 1) + 1) + 1, nI s) := by unfold rM4; rw [e2, c3]
        have ep : pm3 t n (p, false) = (sk t n (sk t n (sk t n p + 1) + 1) + 1, false) := by unfold pm3; rw [a4, b4, c4]
        rcases gn_rel (t := t) (n := n) (p := sk t n (sk t n (sk t n p + 1) + 1) + 1) (c := nI 64) (v := nI s) (by decide) with ⟨d1, d2, d3, d4⟩ | ⟨d1, d2, d3, d4⟩
        · have hP4 := sk_1 d2
          have n4 : ¬ (rM4 t n (p, v)).1 = false := by rw [e3, d1]; exact fun y => Bool.false_ne_true y.symm
          have e4 : rM5 t n (p, v) = rDg t n 7 (sk t n (sk t n (sk t n (sk t n p + 1) + 1) + 1) + 1, nI s) := by unfold rM5; rw [e3, d3]
          have ep4 : pm4 t n (p, false) = pik t n 0 (sk t n (sk t n (sk t n (sk t n p + 1) + 1) + 1) + 1, false) := by unfold pm4; rw [ep, d4, if_pos rfl]
          rcases dg_rel (v := nI s) (p := sk t n (sk t n (sk t n (sk t n p + 1) + 1) + 1) + 1) hT tx_7 with ⟨f1, f2, c, hc, ec, f3, f4⟩ | ⟨f1, f2, f3⟩
          · have n5 : ¬ (rM5 t n (p, v)).1 = false := by rw [e4, f1]; exact fun y => Bool.false_ne_true y.symm
            have er : rMa t n (p, v) = (true, (rM5 t n (p, v)).2) := by unfold rMa; rw [if_neg a1, if_neg n2, if_neg n3, if_neg n4, if_neg n5]
            refine Or.inl ⟨by rw [er], _, nI c, k, w, s, c, sk_1 f2, hc, by omega, by rw [er, e4, f3], by unfold pmS; rw [ep4, f4], fun a => ?_, fun g => ?_⟩
            · unfold pmR
              rw [ep4, a4, b4, c4, f4]
            · unfold rMaR
              rw [if_pos (by rw [er]), if_neg n4, e4, e2, e1, b3, f3, c3]
              dsimp only
              rw [ek]
          · have er : rMa t n (p, v) = (false, (rM5 t n (p, v)).2) := by unfold rMa; rw [if_neg a1, if_neg n2, if_neg n3, if_neg n4, if_pos (by rw [e4]; exact f1)]
            refine Or.inr ⟨by rw [er], ?_⟩
            rw [er, e4, f2]
            unfold pmS
            rw [ep4, f3]
            exact flt_sk hP4
        · have er : rMa t n (p, v) = (true, (rM4 t n (p, v)).2) := by unfold rMa; rw [if_neg a1, if_neg n2, if_neg n3, if_pos (by rw [e3]; exact d1)]
          have ep4 : pm4 t n (p, false) = (0, (sk t n (sk t n (sk t n (sk t n p + 1) + 1) + 1), false)) := by unfold pm4; rw [ep, d3, if_neg Bool.false_ne_true]
          refine Or.inl ⟨by rw [er], _, nI s, k, w, s, 0, (sk_le hP3).2, by decide, by omega, by rw [er, e3, d2], by unfold pmS; rw [ep4], fun a => ?_, fun g => ?_⟩
          · unfold pmR
            rw [ep4, a4, b4, c4]
          · unfold rMaR
            rw [if_pos (by rw [er]), if_pos (by rw [e3]; exact d1), e2, e1, b3, c3]
            dsimp only
            rw [ek]
      · have er : rMa t n (p, v) = (false, (rM3 t n (p, v)).2) := by unfold rMa; rw [if_neg a1, if_neg n2, if_pos (by rw [e2]; exact c1)]
        have ep : pm3 t n (p, false) = (sk t n (sk t n (sk t n p + 1) + 1), true) := by unfold pm3; rw [a4, b4, c3]
        refine Or.inr ⟨by rw [er], ?_⟩
        rw [er, e2, c2, pm_t ep]
        exact flt_sk hP2
    · have er : rMa t n (p, v) = (false, (rM2 t n (p, v)).2) := by unfold rMa; rw [if_neg a1, if_pos (by rw [e1]; exact b1)]
      have ep : pm3 t n (p, false) = (sk t n (sk t n p + 1), true) := by unfold pm3; rw [a4, b3, pik_t]
      refine Or.inr ⟨by rw [er], ?_⟩
      rw [er, e1, b2, pm_t ep]
      exact flt_sk hP1
  · have er : rMa t n (p, v) = (false, (sk t n p, v)) := by unfold rMa; rw [if_pos a1]
    have ep : pm3 t n (p, false) = (sk t n p, true) := by unfold pm3; rw [a3, pik_t, pik_t]
    refine Or.inr ⟨by rw [er], ?_⟩
    rw [er, pm_t ep]
    exact flt_sk hp
