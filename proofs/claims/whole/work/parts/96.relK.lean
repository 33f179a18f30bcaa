/-! READ: the whole tape -/
theorem pr_mid {t : Nat → Int32} {n : Nat} {a g : Nat → Int32} {v : Int32} (hT : lets t n) (hr : rowR a g 0 0) : oR t n (prM t n a).1 (prM t n a).2 (rP2 t n (0, v) g) := by
  have h1 := ds_rel hT 9 0 rfl 0 v a g (Nat.zero_le n) hr
  have e1 : pds t n (0, false) a = itR (pdsS t n) 0 (9 + 1) (a, (0, false), true) := by
    unfold pds; exact (itR_it (pdsS t n) (a, (0, false), true) (9 + 1) 0).symm
  have e2 : rP1 t n (0, v) g = rDs t n 9 (rDoR t n (0, v) g, (rDo t n (0, v)).2, (rDo t n (0, v)).1) := by unfold rP1; rfl
  rw [← e1, ← e2] at h1
  unfold prM rP2
  generalize pds t n (0, false) a = D at h1 ⊢
  generalize rP1 t n (0, v) g = R at h1 ⊢
  rcases h1 with ⟨d1, P, v1, nd, hP, d2, d3, d4⟩ | ⟨d1, d2⟩
  · rw [if_pos d1, d2, d3]
    rcases gn_rel (t := t) (n := n) (p := P) (c := nI 59) (v := v1) (by decide) with ⟨g1, g2, g3, g4⟩ | ⟨g1, g2, g3, -⟩
    · rw [if_pos g1, g3, g4, if_pos rfl]
      dsimp only
      have h2 := ms_rel (nd := nd) hT 3 0 rfl (sk t n P + 1) v1 D.1 R.1 (sk_1 g2) d4
      have e3 : pms t n (sk t n P + 1, false) D.1 = itR (pmsS t n) 0 (3 + 1) (D.1, (sk t n P + 1, false), true) := by
        unfold pms; exact (itR_it (pmsS t n) (D.1, (sk t n P + 1, false), true) (3 + 1) 0).symm
      rw [← e3] at h2
      exact h2
    · rw [g3, if_neg Bool.false_ne_true, if_neg (by rw [g1]; exact Bool.false_ne_true), g2]
      exact Or.inl ⟨d1, _, v1, nd, 0, (sk_le hP).2, rfl, rfl, d4⟩
  · rw [gn_flt d2 (by decide), if_neg Bool.false_ne_true, if_neg (by rw [d1]; exact Bool.false_ne_true)]
    exact Or.inr ⟨d1, d2⟩
theorem let_n4 : ∀ k, k < 127 → ¬ nI k = -4 := by decide +kernel
theorem pr_rel {t : Nat → Int32} {n : Nat} {a g : Nat → Int32} {v : Int32} (hT : lets t n) (hr : rowR a g 0 0) : ((rP3 t n (0, v) g).1 = true ∧ (prS t n a).2 = false ∧ ∃ nd nm, rowR (prM t n a).1 (rP2 t n (0, v) g).1 nd nm) ∨ ((rP3 t n (0, v) g).1 = false ∧ ∃ F, F ≤ n ∧ (F < n → ¬ t F = nI 32) ∧ (rP3 t n (0, v) g).2.1 = F ∧ prS t n a = (F, true)) := by
  have h := pr_mid (v := v) hT hr
  unfold prS rP3
  rcases h with ⟨d1, P, v1, nd, nm, hP, d2, d3, d4⟩ | ⟨d1, d2⟩
  · rw [if_pos d1, d2, d3, skS_f]
    dsimp only
    by_cases z : sk t n P < n
    · obtain ⟨k, hk, hk2, ek⟩ := hT _ z
      rw [if_pos z, flS_f, nx_in z, ek, decide_eq_false (let_n4 k (by omega))]
      exact Or.inr ⟨rfl, _, (sk_le hP).2, sk_nb hP, rfl, rfl⟩
    · rw [if_neg z, nx_out z, decide_eq_true rfl]
      exact Or.inl ⟨rfl, rfl, nd, nm, d4⟩
  · rw [if_neg (by rw [d1]; exact Bool.false_ne_true)]
    refine Or.inr ⟨rfl, _, d2.1, d2.2.1, rfl, ?_⟩
    obtain ⟨h1, h2, h3⟩ := d2
    rcases h3 with e | ⟨e, h4, h5⟩
    · rw [e, skS_t]
      dsimp only
      split
      · rw [flS_t]
      · rfl
    · rw [e, skS_f, sk_end (h2 h4)]
      dsimp only
      rw [if_pos h4, flS_f]
/-! only the letters typed count -/
theorem skN_c {t t2 : Nat → Int32} {n : Nat} (h : ∀ j, j < n → t j = t2 j) : ∀ f p, p + f ≤ n → skN t f p = skN t2 f p
  | 0, _, _ => rfl
  | f + 1, p, hp => by rw [skN, skN, h p (by omega), skN_c h f (p + 1) (by omega)]
theorem sk_c {t t2 : Nat → Int32} {n p : Nat} (h : ∀ j, j < n → t j = t2 j) : sk t n p = sk t2 n p := by
  unfold sk
  by_cases q : p ≤ n
  · exact skN_c h _ _ (by omega)
  · rw [show n - p = 0 by omega]; rfl
theorem skS_c {t t2 : Nat → Int32} {n : Nat} {s : Nat × Bool} (h : ∀ j, j < n → t j = t2 j) : skS t n s = skS t2 n s := by unfold skS; rw [sk_c h]
theorem pik_c {t t2 : Nat → Int32} {n : Nat} (h : ∀ j, j < n → t j = t2 j) (i : Nat) (s : Nat × Bool) : pik t n i s = pik t2 n i s := by
  unfold pik
  rw [skS_c h]
  by_cases q : (skS t2 n s).1 < n
  · rw [h _ q]
  · rw [if_neg (fun y => q y.2.1), if_neg (fun y => q y.2.1)]
theorem gn_c {t t2 : Nat → Int32} {n : Nat} (h : ∀ j, j < n → t j = t2 j) (c : Int32) (s : Nat × Bool) : gn t n c s = gn t2 n c s := by
  unfold gn
  rw [skS_c h]
  by_cases q : (skS t2 n s).1 < n
  · rw [h _ q]
  · rw [if_neg (fun y => q y.2.1), if_neg (fun y => q y.2.1)]
theorem ph1_c {t t2 : Nat → Int32} {n : Nat} (h : ∀ j, j < n → t j = t2 j) (a : Nat × (Nat × Bool)) : ph1 t n a = ph1 t2 n a := by
  unfold ph1
  by_cases q : a.2.1 < n
  · rw [h _ q]
  · rw [if_neg (fun y => q y.2.1), if_neg (fun y => q y.2.1)]
theorem ph_c {t t2 : Nat → Int32} {n : Nat} (h : ∀ j, j < n → t j = t2 j) (s : Nat × Bool) : ph t n s = ph t2 n s := by
  unfold ph; simp only [pik_c h, ph1_c h]
theorem pd2_c {t t2 : Nat → Int32} {n : Nat} (h : ∀ j, j < n → t j = t2 j) (s : Nat × Bool) : pd2 t n s = pd2 t2 n s := by
  unfold pd2; simp only [pik_c h]
theorem pdS_c {t t2 : Nat → Int32} {n : Nat} (h : ∀ j, j < n → t j = t2 j) (s : Nat × Bool) : pdS t n s = pdS t2 n s := by
  unfold pdS; simp only [pik_c h, ph_c h, pd2_c h]
theorem pdR_c {t t2 : Nat → Int32} {n : Nat} (h : ∀ j, j < n → t j = t2 j) (s : Nat × Bool) (a : Nat → Int32) : pdR t n s a = pdR t2 n s a := by
  unfold pdR; simp only [pik_c h, ph_c h, pd2_c h]
theorem pm3_c {t t2 : Nat → Int32} {n : Nat} (h : ∀ j, j < n → t j = t2 j) (s : Nat × Bool) : pm3 t n s = pm3 t2 n s := by
  unfold pm3; simp only [pik_c h]
theorem pm4_c {t t2 : Nat → Int32} {n : Nat} (h : ∀ j, j < n → t j = t2 j) (s : Nat × Bool) : pm4 t n s = pm4 t2 n s := by
  unfold pm4; simp only [pik_c h, gn_c h, pm3_c h]
theorem pmS_c {t t2 : Nat → Int32} {n : Nat} (h : ∀ j, j < n → t j = t2 j) (s : Nat × Bool) : pmS t n s = pmS t2 n s := by
  unfold pmS; simp only [pm4_c h]
theorem pmR_c {t t2 : Nat → Int32} {n : Nat} (h : ∀ j, j < n → t j = t2 j) (s : Nat × Bool) (a : Nat → Int32) : pmR t n s a = pmR t2 n s a := by
  unfold pmR; simp only [pik_c h, pm4_c h]
theorem pdsS_c {t t2 : Nat → Int32} {n : Nat} (h : ∀ j, j < n → t j = t2 j) : pdsS t n = pdsS t2 n := by
  funext j s; unfold pdsS; simp only [pdS_c h, pdR_c h, gn_c h]
theorem pmsS_c {t t2 : Nat → Int32} {n : Nat} (h : ∀ j, j < n → t j = t2 j) : pmsS t n = pmsS t2 n := by
  funext j s; unfold pmsS; simp only [pmS_c h, pmR_c h, gn_c h]
theorem pds_c {t t2 : Nat → Int32} {n : Nat} (h : ∀ j, j < n → t j = t2 j) (s : Nat × Bool) (a : Nat → Int32) : pds t n s a = pds t2 n s a := by unfold pds; rw [pdsS_c h]
theorem pms_c {t t2 : Nat → Int32} {n : Nat} (h : ∀ j, j < n → t j = t2 j) (s : Nat × Bool) (a : Nat → Int32) : pms t n s a = pms t2 n s a := by unfold pms; rw [pmsS_c h]
theorem prM_c {t t2 : Nat → Int32} {n : Nat} (h : ∀ j, j < n → t j = t2 j) (a : Nat → Int32) : prM t n a = prM t2 n a := by
  unfold prM; simp only [pds_c h, pms_c h, gn_c h]
theorem prS_c {t t2 : Nat → Int32} {n : Nat} (h : ∀ j, j < n → t j = t2 j) (a : Nat → Int32) : prS t n a = prS t2 n a := by
  unfold prS; rw [prM_c h, skS_c h]
theorem prA_c {t t2 : Nat → Int32} {n : Nat} (h : ∀ j, j < n → t j = t2 j) (a : Nat → Int32) : prA t n a = prA t2 n a := by
  unfold prA; rw [prM_c h, prS_c h]
theorem uS_of {f : Nat → Int32} {n : Nat} (h2 : f 2 = nI n) : ∃ q : Nat × Int32, f = uS f n q := by
  obtain ⟨k, hk⟩ := of_any (f 3)
  refine ⟨(k, f 4), funext fun j => ?_⟩
  unfold uS
  by_cases e4 : j = 4
  · rw [e4, pk_us]
  · rw [pk_un e4]
    by_cases e3 : j = 3
    · rw [e3, pk_us, hk]
    · rw [pk_un e3]
      by_cases e2 : j = 2
      · rw [e2, pk_us, h2]
      · rw [pk_un e2]
theorem rowR_0 {a g : Nat → Int32} : rowR (a00 a) (a000 g) 0 0 := by
  have e0 : a000 g 0 = nI 0 := a000_0
  have e1 : a000 g 1 = nI 0 := a000_1
  refine ⟨⟨a000 g 67, ⟨by decide, by decide, fun d hd => absurd hd (Nat.not_lt_zero d), fun d hd => absurd hd (Nat.not_lt_zero d), fun d hd => absurd hd (Nat.not_lt_zero d), fun d hd => absurd hd (Nat.not_lt_zero d)⟩, ?_, ?_, ?_⟩, a00_0, a00_1, e0, e1, ?_⟩
  · rw [pk_un (by decide)]; exact a00_0
  · rw [pk_un (by decide)]; exact a00_1
  · rw [pk_us]
  · simp [a000, upd]
/-- behind READ -/
theorem row_fin {a b m g : Nat → Int32} {nd nm : Nat} {hi : Nat → Nat → Int32} (h : rowR m g nd nm) (e : a 67 = b 67) : wR (pcR a (upd m 67 (a 67)) nd nm) (cp67 g b 364) hi 0 nd nm := by
  obtain ⟨⟨x, hp⟩, h1, h2, h3, h4, h5⟩ := h
  have hc : ∀ j, j < 364 → j ≠ 67 → cp67 g b 364 j = g j := fun j hj hn => by unfold cp67; rw [if_pos ⟨hj, hn⟩]
  have hc67 : cp67 g b 364 67 = b 67 := by unfold cp67; rw [if_neg (fun y => y.2 rfl)]
  refine ⟨by rw [hc 0 (by decide) (by decide)]; exact h3, by rw [hc 1 (by decide) (by decide)]; exact h4, by rw [hc 2 (by decide) (by decide)]; exact h5, by decide, prR_pc ?_, fun j hj => absurd hj (Nat.not_lt_zero j)⟩
  refine prR_c (prR_draw (v := a 67) hp) ?_ ?_
  · intro i hi hn
    by_cases q : i = 67
    · rw [q, pk_us, pk_us]
    · rw [pk_un q, pk_un q, pk_un q]
  · intro i hi hn
    by_cases q : i = 67
    · rw [q, hc67, pk_us, e]
    · rw [hc i (by omega) q, pk_un q]

theorem t_read (l_ : Launch) (G : jG) (I : Nat → Nat → Int32) (J : Nat → Nat → Int64) (O : Nat → Nat → Nat) (hR : jRel (I, J, O)) : jMi l_ G yX7_read wsX7_read ({ frames := 9, cells := 0, slots := 0, locals := 209 }) [.ref (G.2.2.1 (0, 0, 0))] (I, J, O) (fun r u => jMi l_ G yX8_read wsX8_read ({ frames := 4, cells := 0, slots := 0, locals := 92 }) [.ref (G.2.2.1 (20, 0, 0))] u (fun r2 u2 => r2 = r ∧ jRel u2)) := by
  obtain ⟨nd, nm, z, hnd, hnm, hD, hM, hD2, hM2, hW, hW2, hWc, hWc2, hz, hZ, hH, hw⟩ := jR_now hR
  have hO : okO O := hR.1
  obtain ⟨-, a1, a2, ⟨n, hn, t1, t2, t3, t4⟩, a4⟩ := id hR
  obtain ⟨s, hs⟩ := tS_of t1 t3
  have hT : lets (I 48) n := fun j hj => by
    obtain ⟨q1, k, q2, q3, q4⟩ := t4 j hj
    exact ⟨k, q2, q3, by rw [← q4]; exact q1.symm⟩
  have hE : ∀ j, j < n → I 22 j = I 48 j := fun j hj => (t4 j hj).1
  refine jMi_mono (c_X7_read l_ G I J O hn hs) (fun r u h => ?_)
  obtain ⟨hr, x2, hu⟩ := h
  rw [prA_c hE] at hr hu
  obtain ⟨q, hq⟩ := uS_of t2
  have hok := prA_ok (t := I 48) (a := a00 (I 2)) hn a00_0 a00_1
  have h67 : I 0 67 = I 41 67 := hw.2.2.2.2.1.2.2.2
  have eu : u.1 40 = I 40 ∧ u.1 48 = I 48 ∧ u.1 49 = I 49 ∧ u.1 41 = I 41 := by
    rw [hu]; dsimp only
    split
    · exact ⟨by rw [sr_ne (by decide), sr_ne (by decide)], by rw [sr_ne (by decide), sr_ne (by decide)], by rw [sr_ne (by decide), sr_ne (by decide)], by rw [sr_ne (by decide), sr_ne (by decide)]⟩
    · exact ⟨by rw [sr_ne (by decide), sr_ne (by decide), sr_ne (by decide), sr_ne (by decide)], by rw [sr_ne (by decide), sr_ne (by decide), sr_ne (by decide), sr_ne (by decide)], by rw [sr_ne (by decide), sr_ne (by decide), sr_ne (by decide), sr_ne (by decide)], by rw [sr_ne (by decide), sr_ne (by decide), sr_ne (by decide), sr_ne (by decide)]⟩
  have h8 := c_X8_read l_ G u.1 u.2.1 u.2.2 (o := I 40) (q := q) hn (by rw [eu.1]; exact hq)
  rw [eu.2.1, eu.2.2.1, eu.2.2.2] at h8
  refine jMi_mono h8 (fun r2 u2 h2 => ?_)
  obtain ⟨h3, q2, x49, h4⟩ := h2
  have fin : ∀ V : Nat → Nat → Int32, (∀ r, r ≠ 0 ∧ r ≠ 2 ∧ r ≠ 21 ∧ r ≠ 23 ∧ r ≠ 40 ∧ r ≠ 41 ∧ r ≠ 49 → V r = I r) → noRel V O → V 21 1 = I 21 1 → V 23 = tS (I 23) 0 (prS (I 22) n (a00 (I 2))) → V 40 = uS (I 40) 0 q2 → jRel (V, J, O) := fun V hV hno h21 h23 h40 => by
    refine ⟨hO, hno, imRel_c a2 (hV _ (by decide)) (hV _ (by decide)) (congrFun (hV 24 (by decide)) 0) ?_ h21 (fun j hj => hV (O 1 j) (by have := (hO 1 (by decide)).1 j hj; omega)), ⟨0, by decide, ?_, ?_, ⟨(prS (I 22) n (a00 (I 2))).2, ?_⟩, fun j hj => absurd hj (Nat.not_lt_zero j)⟩, shRel_c a4 (hV _ (by decide)) (hV _ (by decide)) (hV _ (by decide)) (fun _ _ => rfl) rfl⟩
    · show V 40 0 = I 40 0
      rw [h40]; unfold uS; rw [pk_un (by decide), pk_un (by decide), pk_un (by decide)]
    · show V 23 0 = nI 0
      rw [h23, tS_0]
    · show V 40 2 = nI 0
      rw [h40, uS_2]
    · show V 23 2 = b2 (prS (I 22) n (a00 (I 2))).2
      rw [h23, tS_2]
  rcases pr_rel (v := q.2) (a := a00 (I 2)) (g := a000 (I 49)) hT rowR_0 with ⟨d1, d2, nd2, nm2, d3⟩ | ⟨d1, F, hF, hF2, d2, d3⟩
  · have hp : ¬ prA (I 48) n (a00 (I 2)) < 0 := Int32.not_lt.mpr (hok.mpr d2)
    rw [if_neg hp] at hu
    rw [if_pos d1] at h4
    refine ⟨?_, ?_⟩
    · rw [h3, hr]
      unfold rdAn prA
      rw [if_pos d1, if_neg (by rw [d2]; exact Bool.false_ne_true), d3.2.1]
      exact d3.2.2.2.1
    · rw [h4, hu]
      dsimp only
      refine fin _ (fun r hr => ?_) ⟨nd2, nm2, 0, ?_, ?_⟩ ?_ ?_ ?_
      · rw [sr_ne hr.2.2.2.2.2.1, sr_ne hr.2.2.2.2.2.2, sr_ne hr.2.2.2.2.1, sr_ne hr.2.2.1, sr_ne hr.1, sr_ne hr.2.1, sr_ne hr.2.2.2.1]
      · rw [sr_ne (by decide), sr_ne (by decide), sr_ne (by decide), sr_self, pk_us]
      · rw [sr_self, sr_ne (by decide), sr_ne (by decide), sr_ne (by decide), sr_ne (by decide), sr_self]
        unfold rdC0
        rw [prM_c hE, d3.2.1, d3.2.2.1]
        have p1 := d3.1
        obtain ⟨x, hx⟩ := p1
        rw [show tN (nI nd2) = nd2 from nIc (by have := hx.1.1; omega), show tN (nI nm2) = nm2 from nIc (by have := hx.1.2.1; omega)]
        exact row_fin d3 h67
      · rw [sr_ne (by decide), sr_ne (by decide), sr_ne (by decide), sr_self, pk_un (by decide)]
      · rw [sr_ne (by decide), sr_ne (by decide), sr_ne (by decide), sr_ne (by decide), sr_ne (by decide), sr_ne (by decide), sr_self]
      · rw [sr_ne (by decide), sr_ne (by decide), sr_self]
  · have hp : prA (I 48) n (a00 (I 2)) < 0 := Int32.not_le.mp (fun y => by have := hok.mp y; rw [d3] at this; exact Bool.false_ne_true this.symm)
    rw [if_pos hp] at hu
    rw [if_neg (by rw [d1]; exact Bool.false_ne_true)] at h4
    refine ⟨?_, ?_⟩
    · rw [h3, hr]
      unfold rdAn prA
      rw [if_neg (by rw [d1]; exact Bool.false_ne_true), d3, if_pos rfl]
      have eF : rdFt (I 48) n q.2 (I 49) = F := by
        unfold rdFt
        rw [d2]
        by_cases z : F < n
        · obtain ⟨k, hk, hk2, ek⟩ := hT _ z
          have e1 : sk (I 48) n F = F := sk_end (hF2 z)
          have e2 : nx (I 48) n F = nI k := by rw [nx_in (by rw [e1]; exact z), e1]; exact ek
          rw [e2, if_neg (let_n4 k (by omega)), e1]
        · have e1 : sk (I 48) n F = F := sk_ge (by omega)
          rw [nx_out (by rw [e1]; exact z), if_pos rfl]
          omega
      rw [eF]
    · rw [h4, hu]
      dsimp only
      refine fin _ (fun r hr => ?_) (noRel_c a1 ?_ ?_ ?_ (fun j hj => ?_)) ?_ ?_ ?_
      · rw [sr_ne hr.2.2.2.2.2.2, sr_ne hr.2.2.2.2.1, sr_ne hr.2.1, sr_ne hr.2.2.2.1]
      · rw [sr_ne (by decide), sr_ne (by decide), sr_ne (by decide), sr_ne (by decide)]
      · rw [sr_ne (by decide), sr_ne (by decide), sr_ne (by decide), sr_ne (by decide)]
      · rw [sr_ne (by decide), sr_ne (by decide), sr_ne (by decide), sr_ne (by decide)]
      · have h1 := (hO 0 (by decide)).1 j hj
        rw [sr_ne (by omega), sr_ne (by omega), sr_ne (by omega), sr_ne (by omega)]
      · rw [sr_ne (by decide), sr_ne (by decide), sr_ne (by decide), sr_ne (by decide)]
      · rw [sr_ne (by decide), sr_ne (by decide), sr_ne (by decide), sr_self]
      · rw [sr_ne (by decide), sr_self]
