/-! what was heard, what is filmed -/
theorem jRel_f {I I2 : Nat → Nat → Int32} {J J2 : Nat → Nat → Int64} {O : Nat → Nat → Nat} (h : jRel (I, J, O)) (hI : ∀ r, r ≤ 18 ∨ (21 ≤ r ∧ r ≤ 24) ∨ r = 33 ∨ r = 41 ∨ r = 42 ∨ r = 48 ∨ r = 50 ∨ r = 51 → I2 r = I r) (h0 : I2 40 0 = I 40 0) (h2 : I2 40 2 = I 40 2) (hs : ∀ s, s < 4 → shAt I2 J2 s) : jRel (I2, J2, O) := by
  obtain ⟨b1, b2, b3, b4, -⟩ := jRel_c (J2 := J) h hI h0 h2 (fun _ _ => rfl)
  exact ⟨b1, b2, b3, b4, hs⟩
theorem n18_in {n : Int32} : n18 n = inR n.toInt64 1 8 := by
  unfold n18 inR
  congr 1
  · congr 1
    rw [Bool.eq_iff_iff, decide_eq_true_iff, decide_eq_true_iff, Int64.lt_iff_toInt_lt, Int32.toInt_toInt64, Int32.lt_iff_toInt_lt, nI_toInt (by decide)]
    exact Iff.rfl
  · congr 1
    rw [Bool.eq_iff_iff, decide_eq_true_iff, decide_eq_true_iff, Int64.lt_iff_toInt_lt, Int32.toInt_toInt64, Int32.lt_iff_toInt_lt, nI_toInt (by decide)]
    exact Iff.rfl
theorem n18_k {n : Int32} (h : n18 n = true) : ∃ k, 1 ≤ k ∧ k ≤ 8 ∧ n = nI k := by
  unfold n18 at h
  rw [Bool.and_eq_true, Bool.not_eq_true', Bool.not_eq_true', decide_eq_false_iff_not, decide_eq_false_iff_not] at h
  exact n18_nat h.1 h.2
theorem cut_v : ∀ ln, ln < 4 → ∀ v, v < 8 → cutC (nI ln) (nI v).toInt64 = (nI v).toInt64 := by decide +kernel
theorem cut_4 : ∀ ln, ln < 4 → cutC (nI ln) (-4 : Int32).toInt64 = -4 := by decide +kernel
theorem mil_v : ∀ v, v < 8 → ¬ nI v = nI 1000000 := by decide +kernel
theorem cut_z {F : Option Nat} {ln : Nat} (hl : ln < 4) (hb : ∀ v, F = some v → v < 8) : cutC (nI ln) (zeC F).toInt64 = if zeR F = nI 1000000 then -4 else (zeR F).toInt64 := by
  cases F with
  | none => rw [show zeC none = -4 from rfl, show zeR none = nI 1000000 from rfl, if_pos rfl, cut_4 ln hl]
  | some v =>
    have := hb v rfl
    rw [show zeC (some v) = nI v from rfl, show zeR (some v) = nI v from rfl, if_neg (mil_v v this), cut_v ln hl v this]
theorem hp_c {y y2 : Nat → Int64} {b b2 nd : Nat} : ∀ n, (∀ j, j < 2 * n → y (b + j) = y2 (b2 + j)) → hpB y b nd n = hpB y2 b2 nd n
  | 0, _ => rfl
  | n + 1, h => by
    rw [hpB, hpB, hp_c n (fun j hj => h j (by omega)), h (2 * n) (by omega), show b + 2 * n + 1 = b + (2 * n + 1) from rfl, h (2 * n + 1) (by omega)]
    rfl
theorem hp_k {y : Nat → Int64} {b nd : Nat} : ∀ n, hpB y b nd n = true → ∀ k, k < n → inR (y (b + 2 * k)) 0 (nI nd - nI 1).toInt64 = true ∧ inR (y (b + 2 * k + 1)) 0 1 = true
  | 0, _, k, hk => absurd hk (Nat.not_lt_zero k)
  | n + 1, h, k, hk => by
    rw [hpB, Bool.and_eq_true, Bool.and_eq_true] at h
    by_cases e : k = n
    · rw [e]; exact h.2
    · exact hp_k n h.1 k (by omega)
theorem in01 {y : Int64} (h : inR y 0 1 = true) : y = 0 ∨ y = 1 := by
  unfold inR at h
  rw [Bool.and_eq_true, Bool.not_eq_true', Bool.not_eq_true', decide_eq_false_iff_not, decide_eq_false_iff_not, Int64.lt_iff_toInt_lt, Int64.lt_iff_toInt_lt, show (0 : Int64).toInt = 0 from rfl, show (1 : Int64).toInt = 1 from rfl] at h
  have : y.toInt = 0 ∨ y.toInt = 1 := by omega
  exact this.imp (fun q => Int64.toInt_inj.mp q) (fun q => Int64.toInt_inj.mp q)
def heR (g : Nat → Int32) (m : Nat) (kind wit : Int32) (s : (Nat → Int32) × Bool) (t : Int32 × Int32 × Bool) : Prop := s.2 = t.2.2 ∧ s.1 3 = kind ∧ s.1 63 = wit ∧ s.1 7 = g (7 + m) ∧ s.1 55 = g (55 + m) ∧ s.1 51 = t.1 ∧ s.1 59 = t.2.1 ∧ ∃ x, x ≤ 99 ∧ t.2.1 = nI x
theorem he_step {a g hd hp : Nat → Int32} {y : Nat → Int64} {b m nd nm k d : Nat} {kind wit : Int32} {s : (Nat → Int32) × Bool} {t : Int32 × Int32 × Bool} (h : pRel a g nd nm) (hd1 : d < nd) (e1 : (y (b + 2 * k)).toInt32 = nI d) (e2 : hd k = nI d) (e3 : decide (y (b + 2 * k + 1) = 1) = decide (hp k = nI 1)) (hr : heR g m kind wit s t) : heR g m kind wit (tgS a y b k s) (heS g hd hp m kind wit k t) := by
  obtain ⟨u, ok⟩ := s
  obtain ⟨c, f, ok2⟩ := t
  obtain ⟨r0, r3, r63, r7, r55, r51, r59, x, hx, ex⟩ := id hr
  dsimp only at r0 r3 r63 r7 r55 r51 r59 ex
  unfold tgS heS
  dsimp only
  subst r0
  by_cases q : ok = true
  · rw [if_pos q, if_pos q, e1, e2, show tN (nI d) = d from nIc (by have := h.1; omega), e3]
    obtain ⟨-, -, d3, d4⟩ := h.2.2.1 d hd1
    have a1 : atB a d (u (51 + 0)) = decide (¬ bhF g d c = -4) := by rw [Nat.add_zero, r51]; exact zb_at h.2.2.1 h.2.2.2.2.1 hd1
    have a2 : paB a u 0 d d = (hasB (g (55 + m)) d || !decide (pwF kind wit (g (7 + m)) c f (g (31 + d)) < g (41 + d))) := by
      unfold paB pwM
      simp only [Nat.add_zero]
      rw [r3, r63, r7, r51, r59, r55, d3, d4]
    have a3 : opB a u 0 d = (decide (¬ bhF g d c = -4) && (hasB (g (55 + m)) d || !decide (pwF kind wit (g (7 + m)) c f (g (31 + d)) < g (41 + d)))) := by unfold opB; rw [a1, a2]
    rw [a3]
    unfold ltR
    rw [a1, a2, Nat.add_zero, Nat.add_zero]
    by_cases z : bhF g d c = -4
    · rw [decide_eq_false (fun y => y z), if_pos rfl, Bool.false_and, if_neg Bool.false_ne_true, if_pos z]
      exact ⟨by dsimp only; cases decide (hp k = nI 1) <;> rfl, r3, r63, r7, r55, r51, by rw [nI_0, Int32.add_zero]; exact r59, x, hx, by rw [nI_0, Int32.add_zero]; exact ex⟩
    · rw [decide_eq_true z, if_neg (fun y => Bool.false_ne_true y.symm), Bool.true_and]
      by_cases p : (hasB (g (55 + m)) d || !decide (pwF kind wit (g (7 + m)) c f (g (31 + d)) < g (41 + d))) = true
      · rw [p, if_neg (fun y => Bool.false_ne_true y.symm), if_pos rfl, r51, zb_be h.2.2.1 hd1 z]
        refine ⟨by dsimp only; cases decide (hp k = nI 1) <;> rfl, ?_, ?_, ?_, ?_, ?_, ?_, x, hx, by rw [nI_0, Int32.add_zero]; exact ex⟩
        · dsimp only; rw [pk_un (by decide)]; exact r3
        · dsimp only; rw [pk_un (by decide)]; exact r63
        · dsimp only; rw [pk_un (by decide)]; exact r7
        · dsimp only; rw [pk_un (by decide)]; exact r55
        · dsimp only; rw [pk_us]
        · dsimp only; rw [nI_0, Int32.add_zero, pk_un (by decide)]; exact r59
      · rw [Bool.eq_false_iff.mpr p, if_pos rfl, if_neg Bool.false_ne_true, if_neg z]
        obtain ⟨k2, hk2, f1, f2⟩ := fa_eq hx
        rw [r59, ex, f1, f2]
        refine ⟨by dsimp only; cases decide (hp k = nI 1) <;> rfl, ?_, ?_, ?_, ?_, ?_, ?_, k2, hk2, rfl⟩
        · dsimp only; rw [pk_un (by decide)]; exact r3
        · dsimp only; rw [pk_un (by decide)]; exact r63
        · dsimp only; rw [pk_un (by decide)]; exact r7
        · dsimp only; rw [pk_un (by decide)]; exact r55
        · dsimp only; rw [pk_un (by decide)]; exact r51
        · dsimp only; rw [pk_us]
  · rw [if_neg q, if_neg q]
    exact hr
theorem tg_he {a g : Nat → Int32} {y y2 : Nat → Int64} {b b2 m nd nm n : Nat} {kind wit : Int32} (h : pRel a g nd nm) (hm : m < nm) (hy : ∀ j, j < 2 * n → y (b + j) = y2 (b2 + j)) (hp : hpB y b nd n = true) : (tgR a y b n (tmR a m kind wit)).2 = heB g (hdF y2 b2 (fun _ => nI 0) n) (hqF y2 b2 (fun _ => nI 0) n) m kind wit n := by
  unfold tgR heB
  obtain ⟨q1, q2, q3, q4, q5, q6⟩ := h.2.2.2.1 m hm
  obtain ⟨-, ⟨x, hx, ex⟩, -⟩ := h.2.2.2.2.2 m hm
  refine (it_rel (heR g m kind wit) n (fun k s t hk hr => ?_) ?_).1
  · obtain ⟨i1, i2⟩ := hp_k n hp k hk
    obtain ⟨d, hd, ed⟩ := dn_nat h.1 i1
    refine he_step h hd ed ?_ ?_ hr
    · unfold hdF; rw [if_pos hk, ← hy (2 * k) (by omega)]; exact ed
    · unfold hqF
      rw [if_pos hk, show b2 + 2 * k + 1 = b2 + (2 * k + 1) from rfl, ← hy (2 * k + 1) (by omega)]
      rcases in01 i2 with e | e
      · rw [show b + (2 * k + 1) = b + 2 * k + 1 from rfl, e]; decide
      · rw [show b + (2 * k + 1) = b + 2 * k + 1 from rfl, e]; decide
  · refine ⟨rfl, rfl, rfl, ?_, ?_, ?_, ?_, x, hx, ex⟩
    · simp [tmR]; exact q2
    · simp [tmR]; exact q4
    · simp [tmR]; exact q3
    · simp [tmR]; exact q5
theorem hg_he {a g : Nat → Int32} {y y2 : Nat → Int64} {b b2 m nd nm n what : Nat} (h : pRel a g nd nm) (hm : m < nm) (hy : ∀ j, j < 2 * n → y (b + j) = y2 (b2 + j)) (hp : hpB y b nd n = true) : hgF a y m b n what = heaF g y2 m b2 n what := by
  unfold hgF heaF
  obtain ⟨q1, q2, q3, q4, q5, q6⟩ := h.2.2.2.1 m hm
  refine it_congr _ (fun v s hv => ?_) _
  unfold hgS heAs hgB
  rw [or_if]
  congr 1
  by_cases w : what = 0
  · rw [if_pos w, if_pos w, tg_he h hm hy hp, q6]
  · rw [if_neg w, if_neg w, tg_he h hm hy hp, q1]
theorem zs_heard {I : Nat → Nat → Int32} {J : Nat → Nat → Int64} {nd nm : Nat} (h : pRel (I 0) (I 41) nd nm) (hs : ∀ s, s < 4 → shAt I J s) (man sheet lane i n what : Int32) : heaC (I 0) (I 33) J nd nm man sheet lane i n what = heaA (I 41) (I 50) (I 51) (J 12) nd nm man sheet lane i n what := by
  unfold heaC heaA
  have e : (isB man nm && ((isB sheet 4 && isB lane 4) && (n18 n && isB what 2))) = (isB man nm && (isB sheet 4 && (isB lane 4 && (inR n.toInt64 1 8 && isB what 2)))) := by rw [n18_in]; congr 1; rw [Bool.and_assoc]
  rw [e]
  by_cases q : (isB man nm && (isB sheet 4 && (isB lane 4 && (inR n.toInt64 1 8 && isB what 2)))) = true
  · rw [if_pos q, if_pos q]
    rw [Bool.and_eq_true, Bool.and_eq_true, Bool.and_eq_true, Bool.and_eq_true] at q
    have hnm := h.2.1
    obtain ⟨mm, hmm, rfl⟩ := isB_nat q.1 (by omega)
    obtain ⟨t, ht, rfl⟩ := isB_nat q.2.1 (by decide)
    obtain ⟨k, hk1, hk8, rfl⟩ := n18_k (n := n) (by rw [n18_in]; exact q.2.2.2.1)
    rw [show tN (nI mm) = mm from nIc (by omega), show tN (nI t) = t from nIc (by omega), show tN (nI k) = k from nIc (by omega)]
    have fr := fl_rf (lane := lane) (i := i) (hs t ht) (show 2 * k < 2147483648 by omega)
    have f0 := fl_00 (f := I 33) (s := t) (hold := holdB (I 33) t) (lane := lane) (i := i) (n := nI (2 * k))
    by_cases q2 : rfF (I 50) (I 51) t lane i (nI (2 * k)) = 0
    · have q3 := f0.mpr (fr.trans q2)
      rw [if_pos q3, if_pos q2]
      obtain ⟨hold, sz, e1, e2, e3, e4, e5, e6⟩ := hs t ht
      obtain ⟨hh, el, jj, kk, hjk, rfl, ek⟩ := flC_nat e3 e1 q3
      have hkk : kk = 2 * k := ((nI_eq (by omega) (by omega)).mp ek).symm
      rw [holdB_eq e2] at hh
      obtain ⟨ln, g1, g2, g3, g4⟩ := e6 hh
      rw [show tN (nI jj) = jj from nIc (by omega)]
      have hy : ∀ j, j < 2 * k → J (2 + t) (jj + j) = J 12 (24 * t + jj + j) := fun j hj => by rw [g4 (jj + j) (by omega), Nat.add_assoc]
      rw [← hp_c k hy]
      by_cases q4 : hpB (J (2 + t)) jj nd k = true
      · rw [if_pos q4, if_pos q4, hg_he h hmm hy q4]
      · rw [if_neg q4, if_neg q4]
    · have q3 : ¬ 0 ≤ flC (I 33) t (holdB (I 33) t) lane i (nI (2 * k)) := fun y => q2 (fr.symm.trans (f0.mp y))
      rw [if_neg q3, if_neg q2, fr]
  · rw [if_neg q, if_neg q]

theorem rf_13 {ln sz : Nat → Int32} {s l : Nat} {lane i n : Int32} (h : ln s = lane) (h2 : ln s = nI l) (h3 : l < 4) (h4 : ¬ rfF ln sz s lane i n = 0) : rfF ln sz s lane i n = -13 := by
  unfold rfF at h4 ⊢
  rw [if_neg (by rw [h2]; exact nI_n4 (by omega)), if_pos h] at h4 ⊢
  by_cases q : i < 0
  · rw [if_pos q]
  · rw [if_neg q] at h4 ⊢
    by_cases z : inR (i.toInt64 + n.toInt64) 0 (sz s).toInt64 = true
    · rw [if_pos z] at h4; exact absurd rfl h4
    · rw [if_neg z]
theorem fl_12 {f : Nat → Int32} {s : Nat} {hold : Bool} {lane i n : Int32} (h : hold = true) (h2 : ¬ f (3 * s + 1) = lane) : flC f s hold lane i n = -12 := by
  unfold flC
  rw [if_neg (by rw [h]; exact fun y => Bool.false_ne_true y.symm), if_neg h2]
theorem fl_neg {f : Nat → Int32} {s : Nat} {hold : Bool} {lane i n : Int32} (h : hold = true) (h2 : f (3 * s + 1) = lane) (h3 : n < 0) : flC f s hold lane i n = -13 := by
  unfold flC
  rw [if_neg (by rw [h]; exact fun y => Bool.false_ne_true y.symm), if_pos h2, if_pos h3]
  split <;> rfl

theorem t_heard (l_ : Launch) (G : jG) (I : Nat → Nat → Int32) (J : Nat → Nat → Int64) (O : Nat → Nat → Nat) (man : Int32) (sheet : Int32) (lane : Int32) (i : Int32) (n : Int32) (what : Int32) (hR : jRel (I, J, O)) : jMi l_ G yX7_heard wsX7_heard ({ frames := 5, cells := 0, slots := 0, locals := 124 }) [.ref (G.2.2.1 (0, 0, 0)), .int man, .int sheet, .int lane, .int i, .int n, .int what] (I, J, O) (fun r u => jMi l_ G yX8_heard wsX8_heard ({ frames := 2, cells := 0, slots := 0, locals := 58 }) [.ref (G.2.2.1 (20, 0, 0)), .int man, .int sheet, .int lane, .int i, .int n, .int what] u (fun r2 u2 => r2 = r ∧ jRel u2)) := by
  obtain ⟨nd, nm, z, hnd, hnm, hD, hM, hD2, hM2, hW, hW2, hWc, hWc2, hz, hZ, hH, hw⟩ := jR_now hR
  obtain ⟨hHo, hSz, hSzR⟩ := sh_ho hR
  refine fore_i hR (zs_heard hw.2.2.2.2.1.1 hR.2.2.2.2 man sheet lane i n what) (c_X7_heard l_ G I J O man sheet lane i n what hnd hD hnm hM hHo hSz) (fun u hu => ?_)
  have e : u.1 41 = I 41 := SC_ref hu (by decide)
  have e50 : u.1 50 = I 50 := SC_ref hu (by decide)
  have e51 : u.1 51 = I 51 := SC_ref hu (by decide)
  have e12 : u.2.1 12 = J 12 := hu.2.1 12 (by decide) (by decide)
  have h := c_X8_heard l_ G u.1 u.2.1 u.2.2 man sheet lane i n what (nd := nd) (nm := nm) hnd (by rw [e]; exact hD2) hnm (by rw [e]; exact hM2) (by rw [e51]; exact hSzR)
  rw [e, e50, e51, e12] at h
  exact h

theorem t_copy (l_ : Launch) (G : jG) (I : Nat → Nat → Int32) (J : Nat → Nat → Int64) (O : Nat → Nat → Nat) (fr : Int32) (i : Int32) (to_ : Int32) (j : Int32) (n : Int32) (hR : jRel (I, J, O)) : jMi l_ G yX7_copy wsX7_copy ({ frames := 1, cells := 0, slots := 0, locals := 60 }) [.ref (G.2.2.1 (0, 0, 0)), .int fr, .int i, .int to_, .int j, .int n] (I, J, O) (fun r u => jMi l_ G yX8_copy wsX8_copy ({ frames := 2, cells := 0, slots := 0, locals := 49 }) [.ref (G.2.2.1 (20, 0, 0)), .int fr, .int i, .int to_, .int j, .int n] u (fun r2 u2 => r2 = r ∧ jRel u2)) := by
  obtain ⟨hHo, hSz, hSzR⟩ := sh_ho hR
  have a4 : ∀ s, s < 4 → shAt I J s := hR.2.2.2.2
  refine jMi_mono (c_X7_copy l_ G I J O fr i to_ j n hHo hSz) (fun r u h => ?_)
  obtain ⟨hr, hu⟩ := h
  subst hu
  refine jMi_mono (c_X8_copy l_ G I _ O fr i to_ j n hSzR) (fun r2 u2 h2 => ?_)
  obtain ⟨h3, h4⟩ := h2
  by_cases q : (isB fr 4 && isB to_ 4) = true
  · have qq := q
    rw [Bool.and_eq_true] at qq
    obtain ⟨p, hp, rfl⟩ := isB_nat qq.1 (by decide)
    obtain ⟨t, ht, rfl⟩ := isB_nat qq.2 (by decide)
    have ep : tN (nI p) = p := nIc (by omega)
    have et : tN (nI t) = t := nIc (by omega)
    unfold cpyA at hr
    unfold cpRA cpRf at h3
    unfold cpRok cpyJ at h4
    rw [ep, et] at hr h3 h4
    rw [if_pos q] at hr h3
    rw [q, Bool.true_and] at h4
    have kp := (sh_h (a4 p hp)).1
    have kt := (sh_h (a4 t ht)).1
    by_cases c1 : I 50 p = -4 ∨ I 50 t = -4
    · have c2 : ¬ (holdB (I 33) p && holdB (I 33) t) = true := by
        unfold holdB
        rw [Bool.and_eq_true, decide_eq_true_iff, decide_eq_true_iff]
        exact fun y => c1.elim (fun z => y.1 (kp.mpr z)) (fun z => y.2 (kt.mpr z))
      rw [if_pos c1] at h3
      rw [if_neg c2] at hr
      rw [if_neg (by rw [decide_eq_true_iff]; exact fun y => y.1 c1), if_neg (fun y => c2 y.2.1)] at h4
      exact ⟨by rw [h3, hr], by rw [h4]; exact hR⟩
    · have c2 : (holdB (I 33) p && holdB (I 33) t) = true := by
        unfold holdB
        rw [Bool.and_eq_true, decide_eq_true_iff, decide_eq_true_iff]
        exact ⟨fun y => c1 (Or.inl (kp.mp y)), fun y => c1 (Or.inr (kt.mp y))⟩
      have c3 := c2
      rw [Bool.and_eq_true] at c3
      rw [if_neg c1] at h3
      rw [if_pos c2] at hr
      obtain ⟨hold, sz, e1, e2, e3, e4, e5, e6⟩ := id (a4 p hp)
      have ho : hold = true := by rw [← holdB_eq e2]; exact c3.1
      obtain ⟨ln, g1, g2, g3, g4⟩ := e6 ho
      obtain ⟨hold2, sz2, x1, x2, x3, x4, x5, x6⟩ := id (a4 t ht)
      have ho2 : hold2 = true := by rw [← holdB_eq x2]; exact c3.2
      obtain ⟨ln2, y1, y2, y3, y4⟩ := x6 ho2
      rw [g3, y3] at h3
      by_cases c4 : nI ln = nI ln2
      · rw [if_pos c4] at h3
        by_cases c5 : 0 ≤ n
        · obtain ⟨k, hk, rfl⟩ := nI_of (Int32.not_lt.mpr c5)
          have fp := fl_rf (lane := nI ln) (i := i) (a4 p hp) hk
          have ft := fl_rf (lane := nI ln) (i := j) (a4 t ht) hk
          have fp0 := fl_00 (f := I 33) (s := p) (hold := holdB (I 33) p) (lane := nI ln) (i := i) (n := nI k)
          have ft0 := fl_00 (f := I 33) (s := t) (hold := holdB (I 33) t) (lane := nI ln) (i := j) (n := nI k)
          by_cases c6 : rfF (I 50) (I 51) p (nI ln) i (nI k) = 0 ∧ rfF (I 50) (I 51) t (nI ln) j (nI k) = 0
          · have c7 : cpyF (I 33) p t i j (nI k) = 0 := by unfold cpyF; rw [g2, if_pos (ft.trans c6.2)]; exact fp.trans c6.1
            have c8 : 0 ≤ cpyF (I 33) p t i j (nI k) := by rw [c7]; decide
            rw [if_pos ⟨c5, c6.1, by rw [← c4]; exact c6.2⟩] at h3
            rw [if_pos c8] at hr
            rw [if_pos (by rw [decide_eq_true_iff]; exact ⟨c1, by rw [g3, y3]; exact c4, c5, by rw [g3]; exact c6.1, by rw [y3, ← c4]; exact c6.2⟩), if_pos ⟨rfl, c2, c8⟩] at h4
            refine ⟨by rw [h3, hr], ?_⟩
            rw [h4]
            obtain ⟨-, -, ii, kk, hik, rfl, ek⟩ := flC_nat e3 e1 (fp0.mpr (fp.trans c6.1))
            obtain ⟨-, -, jj, kk2, hjk, rfl, ek2⟩ := flC_nat x3 x1 (ft0.mpr (ft.trans c6.2))
            have hk1 : k = kk := (nI_eq hk (by omega)).mp ek
            have hk2 : k = kk2 := (nI_eq hk (by omega)).mp ek2
            rw [show tN (nI ii) = ii from nIc (by omega), show tN (nI jj) = jj from nIc (by omega), show tN (nI k) = k from nIc (by omega)]
            refine jRel_sh hR (fun r hr => rfl) (fun s hs => ?_)
            unfold cpRJ
            by_cases e : s = t
            · subst e
              refine ⟨hold2, sz2, x1, x2, x3, x4, x5, fun _ => ⟨ln2, y1, y2, y3, fun w hw => ?_⟩⟩
              rw [srJ_ne (by omega), srJ_ne (by omega), srJ_self, srJ_self, srJ_ne (show 12 ≠ 2 + s by omega), srJ_ne (show 13 ≠ 2 + s by omega)]
              by_cases z : jj ≤ w ∧ w < jj + k
              · rw [pk_cpy_in z.1 z.2, pk_cpy_in (by omega) (by omega), pk_cpy_in (by omega) (by omega), g4 _ (by omega)]
                congr 1; omega
              · rw [pk_cpy_out (by omega), pk_cpy_out (by omega)]
                exact y4 w hw
            · refine shAt_c (a4 s hs) rfl rfl rfl rfl rfl ?_ (fun w hw => ?_)
              · rw [srJ_ne (by omega), srJ_ne (by omega), srJ_ne (by omega)]
              · rw [srJ_self, srJ_ne (show 12 ≠ 2 + t by omega), pk_cpy_out (by omega)]
          · have c7 : cpyF (I 33) p t i j (nI k) = -13 := by
              unfold cpyF
              rw [g2, fp, ft]
              by_cases z : rfF (I 50) (I 51) t (nI ln) j (nI k) = 0
              · rw [if_pos z]
                have z2 : ¬ rfF (I 50) (I 51) p (nI ln) i (nI k) = 0 := fun y => c6 ⟨y, z⟩
                exact rf_13 (g3.symm ▸ rfl) g3 g1 z2
              · rw [if_neg z]
                exact rf_13 (y3.symm ▸ c4.symm) y3 y1 z
            have c8 : ¬ 0 ≤ cpyF (I 33) p t i j (nI k) := by rw [c7]; decide
            rw [if_neg (fun y => c6 ⟨y.2.1, by rw [c4]; exact y.2.2⟩)] at h3
            rw [if_neg c8, c7] at hr
            rw [if_neg (by rw [decide_eq_true_iff, g3, y3]; exact fun y => c6 ⟨y.2.2.2.1, by rw [c4]; exact y.2.2.2.2⟩), if_neg (fun y => c8 y.2.2)] at h4
            exact ⟨by rw [h3, hr], by rw [h4]; exact hR⟩
        · have hn : n < 0 := Int32.not_le.mp c5
          have c7 : cpyF (I 33) p t i j n = -13 := by
            unfold cpyF
            rw [g2, fl_neg (holdB_eq x2 ▸ ho2) (y2.trans c4.symm) hn, if_neg (by decide)]
          have c8 : ¬ 0 ≤ cpyF (I 33) p t i j n := by rw [c7]; decide
          rw [if_neg (fun y => c5 y.1)] at h3
          rw [if_neg c8, c7] at hr
          rw [if_neg (by rw [decide_eq_true_iff]; exact fun y => c5 y.2.2.1), if_neg (fun y => c8 y.2.2)] at h4
          exact ⟨by rw [h3, hr], by rw [h4]; exact hR⟩
      · have c7 : cpyF (I 33) p t i j n = -12 := by
          unfold cpyF
          rw [g2, fl_12 c3.2 (fun y => c4 (y.symm.trans y2)), if_neg (by decide)]
        have c8 : ¬ 0 ≤ cpyF (I 33) p t i j n := by rw [c7]; decide
        rw [if_neg c4] at h3
        rw [if_neg c8, c7] at hr
        rw [if_neg (by rw [decide_eq_true_iff, g3, y3]; exact fun y => c4 y.2.1), if_neg (fun y => c8 y.2.2)] at h4
        exact ⟨by rw [h3, hr], by rw [h4]; exact hR⟩
  · unfold cpyA at hr
    unfold cpRA at h3
    unfold cpRok cpyJ at h4
    rw [if_neg q] at hr h3
    have qf := Bool.eq_false_iff.mpr q
    rw [qf, Bool.false_and, if_neg Bool.false_ne_true, if_neg (fun y => Bool.false_ne_true y.1)] at h4
    exact ⟨by rw [h3, hr], by rw [h4]; exact hR⟩

theorem t_film (l_ : Launch) (G : jG) (I : Nat → Nat → Int32) (J : Nat → Nat → Int64) (O : Nat → Nat → Nat) (man : Int32) (n : Int32) (sheet : Int32) (lane : Int32) (i : Int32) (hR : jRel (I, J, O)) : jMi l_ G yX7_film wsX7_film ({ frames := 7, cells := 0, slots := 0, locals := 165 }) [.ref (G.2.2.1 (0, 0, 0)), .int man, .int n, .int sheet, .int lane, .int i] (I, J, O) (fun r u => jMi l_ G yX8_film wsX8_film ({ frames := 5, cells := 0, slots := 0, locals := 120 }) [.ref (G.2.2.1 (20, 0, 0)), .int man, .int n, .int sheet, .int lane, .int i] u (fun r2 u2 => r2 = r ∧ jRel u2)) := by
  obtain ⟨nd, nm, z, hnd, hnm, hD, hM, hD2, hM2, hW, hW2, hWc, hWc2, hz, hZ, hH, hw⟩ := jR_now hR
  obtain ⟨hHo, hSz, hSzR⟩ := sh_ho hR
  have a4 : ∀ s, s < 4 → shAt I J s := hR.2.2.2.2
  have hp := hw.2.2.2.2.1.1
  refine jMi_mono (c_X7_film l_ G I J O man n sheet lane i hnd hD hnm hM hW hWc hHo hSz) (fun r u h => ?_)
  obtain ⟨hr, hu1, hu2, hu3⟩ := h
  obtain ⟨I1, J1, O1⟩ := u
  dsimp only at hu1 hu2 hu3 ⊢
  have eI : ∀ r, ¬ scc r → I1 r = I r := hu1
  have e : I1 41 = I 41 := eI _ (by unfold scc; omega)
  have e50 : I1 50 = I 50 := eI _ (by unfold scc; omega)
  have e51 : I1 51 = I 51 := eI _ (by unfold scc; omega)
  have h8 := c_X8_film l_ G I1 J1 O1 man n sheet lane i (nd := nd) (nm := nm) hnd (by rw [e]; exact hD2) hnm (by rw [e]; exact hM2) (by rw [e]; exact hW2) (by rw [e]; exact hWc2) (by rw [e51]; exact hSzR)
  rw [e, e50, e51] at h8
  refine jMi_mono h8 (fun r2 u2 h2 => ?_)
  obtain ⟨h3, h4, h5, h6⟩ := h2
  obtain ⟨I2, J2, O2⟩ := u2
  dsimp only at h4 h5 h6
  subst h6
  subst hu3
  have eI2 : ∀ r, r ≤ 18 ∨ (21 ≤ r ∧ r ≤ 24) ∨ r = 33 ∨ r = 41 ∨ r = 42 ∨ r = 48 ∨ r = 50 ∨ r = 51 → I2 r = I r := fun r hr => by rw [h4.1 r (by omega) (by unfold scr; omega), eI r (by unfold scc; omega)]
  have e40 : I1 40 = I 40 := eI _ (by unfold scc; omega)
  have eok : fmOk nm man n sheet lane = flOk nm man n sheet lane := by unfold fmOk flOk; rw [n18_in]
  unfold fmA at hr
  unfold fmJ at hu2
  unfold filA at h3
  unfold filJR at h5
  rw [eok] at hr hu2
  have fin : (∀ s, s < 4 → shAt I2 J2 s) → jRel (I2, J2, O2) := fun hs => jRel_f hR eI2 (by rw [h4.2.1, e40]) (by rw [h4.2.2, e40]) hs
  have old : J2 = J → ∀ s, s < 4 → shAt I2 J2 s := fun eJ s hs => by
    rw [eJ]
    exact shAt_c (a4 s hs) (by rw [eI2 33 (by omega)]) (by rw [eI2 33 (by omega)]) (by rw [eI2 33 (by omega)]) (by rw [eI2 50 (by omega)]) (by rw [eI2 51 (by omega)]) rfl (fun _ _ => rfl)
  by_cases q : flOk nm man n sheet lane = true
  · rw [if_pos q] at hr h3
    have qq := q
    unfold flOk at qq
    rw [Bool.and_eq_true, Bool.and_eq_true, Bool.and_eq_true] at qq
    obtain ⟨mm, hmm, rfl⟩ := isB_nat qq.1 (by omega)
    obtain ⟨t, ht, rfl⟩ := isB_nat qq.2.2.1 (by decide)
    obtain ⟨k, hk1, hk8, rfl⟩ := n18_k (n := n) (by rw [n18_in]; exact qq.2.1)
    have em : tN (nI mm) = mm := nIc (by omega)
    have et : tN (nI t) = t := nIc (by omega)
    have ek0 : tN (nI k) = k := nIc (by omega)
    rw [et] at hr h3
    rw [em, et, ek0] at hu2 h5
    have fr := fl_rf (lane := lane) (i := i) (a4 t ht) (show k < 2147483648 by omega)
    have f0 := fl_00 (f := I 33) (s := t) (hold := holdB (I 33) t) (lane := lane) (i := i) (n := nI k)
    by_cases q2 : rfF (I 50) (I 51) t lane i (nI k) = 0
    · have q3 := f0.mpr (fr.trans q2)
      rw [if_pos q3] at hr
      rw [if_pos q2] at h3
      rw [if_pos ⟨q, q3⟩] at hu2
      rw [if_pos ⟨q, q2⟩] at h5
      refine ⟨by rw [h3, hr], fin (fun s hs => ?_)⟩
      obtain ⟨hold, sz, e1, e2, e3, e4, e5, e6⟩ := id (a4 t ht)
      obtain ⟨hh, el, jj, kk, hjk, rfl, ek⟩ := flC_nat e3 e1 q3
      have hkk : k = kk := (nI_eq (by omega) (by omega)).mp ek
      rw [holdB_eq e2] at hh
      rw [show tN (nI jj) = jj from nIc (by omega)] at hu2 h5
      obtain ⟨ln, g1, g2, g3, g4⟩ := e6 hh
      obtain ⟨F, H, -, hb, hj⟩ := zb_both (nI 0) hnd hp.2.2.1 hp.2.2.2.2.1 (hp.one hmm) (hp.cell hmm).2.1
      have J12 : J1 12 = J 12 := by rw [hu2, srJ_ne (by omega)]
      rw [J12] at h5
      by_cases es : s = t
      · subst es
        refine ⟨hold, sz, e1, by rw [eI2 33 (by omega)]; exact e2, by rw [eI2 33 (by omega)]; exact e3, by rw [eI2 51 (by omega)]; exact e4, fun y => by rw [eI2 50 (by omega)]; exact e5 y, fun _ => ⟨ln, g1, by rw [eI2 33 (by omega)]; exact g2, by rw [eI2 50 (by omega)]; exact g3, fun w hw2 => ?_⟩⟩
        rw [h5, srJ_ne (by omega), srJ_self, hu2, srJ_self]
        unfold fcR flR
        by_cases z : jj ≤ w ∧ w < jj + k
        · rw [if_pos z, if_pos (by omega), show 24 * s + w - (24 * s + jj) = w - jj by omega, g2]
          unfold spM opM
          rw [(hp.cell hmm).1, (hj (w - jj) (by omega)).1, (hj (w - jj) (by omega)).2.2.1]
          exact cut_z g1 (fun v hv => hb _ v hv)
        · rw [if_neg z, if_neg (by omega)]
          exact g4 w hw2
      · refine shAt_c (a4 s hs) (by rw [eI2 33 (by omega)]) (by rw [eI2 33 (by omega)]) (by rw [eI2 33 (by omega)]) (by rw [eI2 50 (by omega)]) (by rw [eI2 51 (by omega)]) ?_ (fun w hw2 => ?_)
        · rw [h5, srJ_ne (by omega), hu2, srJ_ne (by omega)]
        · rw [h5, srJ_self]
          unfold flR
          rw [if_neg (by omega)]
    · have q3 : ¬ 0 ≤ flC (I 33) t (holdB (I 33) t) lane i (nI k) := fun y => q2 (fr.symm.trans (f0.mp y))
      rw [if_neg q3] at hr
      rw [if_neg q2] at h3
      rw [if_neg (fun y => q3 y.2)] at hu2
      rw [if_neg (fun y => q2 y.2)] at h5
      exact ⟨by rw [h3, hr, fr], fin (old (by rw [h5, hu2]))⟩
  · rw [if_neg q] at hr h3
    rw [if_neg (fun y => q y.1)] at hu2 h5
    exact ⟨by rw [h3, hr], fin (old (by rw [h5, hu2]))⟩
