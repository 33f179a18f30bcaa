/-! READ: DOORS, men, the whole tape -/
def itR {α : Type} (F : Nat → α → α) : Nat → Nat → α → α
  | _, 0, s => s
  | k, f + 1, s => itR F (k + 1) f (F k s)
theorem itR_it {α : Type} (F : Nat → α → α) (s0 : α) : ∀ f k, itR F k f (it F k s0) = it F (k + f) s0
  | 0, _ => rfl
  | f + 1, k => by rw [itR, ← it_s F k s0, itR_it F s0 f (k + 1), show k + 1 + f = k + (f + 1) by omega]
theorem upd_sw {f : Nat → Int32} {i j : Nat} {x y : Int32} (h : i ≠ j) : upd (upd f i x) j y = upd (upd f j y) i x := by
  funext k
  by_cases e : k = j
  · rw [e, pk_us, pk_un (fun q => h q.symm), pk_us]
  · rw [pk_un e]
    by_cases e2 : k = i
    · rw [e2, pk_us, pk_us]
    · rw [pk_un e2, pk_un e2, pk_un e]
theorem adR_67 {a : Nat → Int32} {c o s h x : Int32} {d : Nat} (hd : d < 10) (e : a 0 = nI d) : adR (upd a 67 x) c o s h = upd (adR a c o s h) 67 x := by
  unfold adR
  rw [pk_un (show 0 ≠ 67 by decide), e, show tN (nI d) = d from nIc (by omega)]
  rw [upd_sw (i := 67) (j := 11 + d) (by omega), upd_sw (i := 67) (j := 21 + d) (by omega), upd_sw (i := 67) (j := 31 + d) (by omega), upd_sw (i := 67) (j := 41 + d) (by omega), upd_sw (i := 67) (j := 0) (by omega)]
theorem amR_67 {a : Nat → Int32} {k w s c x : Int32} {m : Nat} (hm : m < 4) (e : a 1 = nI m) : amR (upd a 67 x) k w s c = upd (amR a k w s c) 67 x := by
  unfold amR
  rw [pk_un (show 1 ≠ 67 by decide), e, show tN (nI m) = m from nIc (by omega)]
  rw [upd_sw (i := 67) (j := 3 + m) (by omega), upd_sw (i := 67) (j := 63 + m) (by omega), upd_sw (i := 67) (j := 7 + m) (by omega), upd_sw (i := 67) (j := 51 + m) (by omega), upd_sw (i := 67) (j := 55 + m) (by omega), upd_sw (i := 67) (j := 59 + m) (by omega), upd_sw (i := 67) (j := 1) (by omega)]
def rowR (a g : Nat → Int32) (nd nm : Nat) : Prop := (∃ x, prR (upd a 67 x) g nd nm) ∧ a 0 = nI nd ∧ a 1 = nI nm ∧ g 0 = nI nd ∧ g 1 = nI nm ∧ g 2 = nI 0
theorem rowR_d {a g : Nat → Int32} {nd nm c o : Nat} {s x : Int32} (h : rowR a g nd nm) (hd : nd < 10) (hc : c < 8) (ho : o < 8) : rowR (adR a (nI c) (nI o) s x) (layDoorR g (nI c) (nI o) s x) (nd + 1) nm := by
  obtain ⟨⟨y, hp⟩, h1, h2, h3, h4, h5⟩ := h
  refine ⟨⟨y, by rw [← adR_67 hd h1]; exact prR_door hp h3 hd hc ho⟩, (adR_0 hd h1).1, (adR_0 hd h1).2.trans h2, layDoorR_0 hd h3, ?_, by unfold layDoorR; rw [pk_us]⟩
  unfold layDoorR
  rw [pk_un (by omega), pk_un (by omega), pk_un (by omega), pk_un (by omega), pk_un (by omega), pk_un (by omega)]
  exact h4
theorem rowR_m {a g : Nat → Int32} {nd nm c w : Nat} {k s : Int32} (h : rowR a g nd nm) (hm : nm < 4) (hc : c < 8) (hw : w ≤ 9) : rowR (amR a k (nI w) s (nI c)) (layManR g k (nI w) s (nI c)) nd (nm + 1) := by
  obtain ⟨⟨y, hp⟩, h1, h2, h3, h4, h5⟩ := h
  refine ⟨⟨y, by rw [← amR_67 hm h2]; exact prR_newman hp h4 hm hc hw⟩, (amR_1 hm h2).2.trans h1, (amR_1 hm h2).1, ?_, layManR_1 hm h4, by unfold layManR; rw [pk_us]⟩
  unfold layManR
  rw [pk_un (by omega), pk_un (by omega), pk_un (by omega), pk_un (by omega), pk_un (by omega), pk_un (by omega), pk_un (by omega), pk_un (by omega)]
  exact h3
theorem gn_flt {t : Nat → Int32} {n F : Nat} {c : Int32} {s : Nat × Bool} (h : flt t n F s) (hc : ¬ dgB c = true) : gn t n c s = (false, s) := by
  obtain ⟨h1, h2, h3⟩ := h
  rcases h3 with e | ⟨e, h4, h5⟩
  · rw [e]; exact gn_t
  · rw [e]
    unfold gn
    rw [skS_f, sk_end (h2 h4)]
    exact if_neg (fun y => hc (by rw [← y.2.2]; exact h5))
/-- how both stand behind a piece of the tape -/
def oR (t : Nat → Int32) (n : Nat) (a : Nat → Int32) (s : Nat × Bool) (R : rPt) : Prop := (R.2.2 = true ∧ ∃ P v nd nm, P ≤ n ∧ R.2.1 = (P, v) ∧ s = (P, false) ∧ rowR a R.1 nd nm) ∨ (R.2.2 = false ∧ flt t n R.2.1.1 s)
def oD (t : Nat → Int32) (n : Nat) (a : Nat → Int32) (s : Nat × Bool) (R : rPt) : Prop := (R.2.2 = true ∧ ∃ P v nd, P ≤ n ∧ R.2.1 = (P, v) ∧ s = (P, false) ∧ rowR a R.1 nd 0) ∨ (R.2.2 = false ∧ flt t n R.2.1.1 s)
theorem pds_id {t : Nat → Int32} {n : Nat} {a : Nat → Int32} {s : Nat × Bool} : ∀ f k, itR (pdsS t n) k f (a, s, false) = (a, s, false)
  | 0, _ => rfl
  | f + 1, k => by
    rw [itR, show pdsS t n k (a, s, false) = (a, s, false) from if_neg Bool.false_ne_true]
    exact pds_id f (k + 1)
theorem pms_id {t : Nat → Int32} {n : Nat} {a : Nat → Int32} {s : Nat × Bool} : ∀ f k, itR (pmsS t n) k f (a, s, false) = (a, s, false)
  | 0, _ => rfl
  | f + 1, k => by
    rw [itR, show pmsS t n k (a, s, false) = (a, s, false) from if_neg Bool.false_ne_true]
    exact pms_id f (k + 1)
theorem ds_rel {t : Nat → Int32} {n : Nat} (hT : lets t n) : ∀ f nd, nd + f = 9 → ∀ (p : Nat) (v : Int32) (a g : Nat → Int32), p ≤ n → rowR a g nd 0 → oD t n (itR (pdsS t n) nd (f + 1) (a, (p, false), true)).1 (itR (pdsS t n) nd (f + 1) (a, (p, false), true)).2.1 (rDs t n f (rDoR t n (p, v) g, (rDo t n (p, v)).2, (rDo t n (p, v)).1))
  | 0, nd, hnd, p, v, a, g, hp, hr => by
    have e : itR (pdsS t n) nd (0 + 1) (a, (p, false), true) = (pdR t n (p, false) a, pdS t n (p, false), false) := by
      rw [itR, itR]
      unfold pdsS
      rw [if_pos rfl, if_neg (by omega)]
    rw [e, rDs]
    rcases do_rel (v := v) hT hp with ⟨d1, P, v2, c, o, s, x, hP, hc, ho, d2, d3, d4, d5⟩ | ⟨d1, d2⟩
    · refine Or.inl ⟨d1, P, v2, nd + 1, hP, d2, d3, ?_⟩
      dsimp only
      rw [d4, d5]
      exact rowR_d hr (by omega) hc ho
    · exact Or.inr ⟨d1, d2⟩
  | f + 1, nd, hnd, p, v, a, g, hp, hr => by
    have e : itR (pdsS t n) nd (f + 1 + 1) (a, (p, false), true) = itR (pdsS t n) (nd + 1) (f + 1) (pdR t n (p, false) a, (gn t n (nI 44) (pdS t n (p, false))).2, (gn t n (nI 44) (pdS t n (p, false))).1) := by
      rw [itR]
      congr 1
      unfold pdsS
      rw [if_pos rfl, if_pos (by omega)]
    rw [e, rDs]
    rcases do_rel (v := v) hT hp with ⟨d1, P, v2, c, o, s, x, hP, hc, ho, d2, d3, d4, d5⟩ | ⟨d1, d2⟩
    · dsimp only
      rw [if_pos d1, d2, d3, d4, d5, d1]
      have hr2 := rowR_d (s := nI s) (x := nI x) hr (by omega) hc ho
      rcases gn_rel (t := t) (n := n) (p := P) (c := nI 44) (v := v2) (by decide) with ⟨g1, g2, g3, g4⟩ | ⟨g1, g2, g3, -⟩
      · rw [if_pos g1, g3, g4]
        exact ds_rel hT f (nd + 1) (by omega) _ _ _ _ (sk_1 g2) hr2
      · rw [if_neg (by rw [g1]; exact Bool.false_ne_true), g2, g3]
        dsimp only
        rw [pds_id]
        exact Or.inl ⟨rfl, _, v2, nd + 1, (sk_le hP).2, rfl, rfl, hr2⟩
    · dsimp only
      rw [if_neg (by rw [d1]; exact Bool.false_ne_true), gn_flt d2 (by decide), pds_id]
      exact Or.inr ⟨d1, d2⟩
theorem ms_rel {t : Nat → Int32} {n nd : Nat} (hT : lets t n) : ∀ f nm, nm + f = 3 → ∀ (p : Nat) (v : Int32) (a g : Nat → Int32), p ≤ n → rowR a g nd nm → oR t n (itR (pmsS t n) nm (f + 1) (a, (p, false), true)).1 (itR (pmsS t n) nm (f + 1) (a, (p, false), true)).2.1 (rMs t n f (rMaR t n (p, v) g, (rMa t n (p, v)).2, (rMa t n (p, v)).1))
  | 0, nm, hnm, p, v, a, g, hp, hr => by
    have e : itR (pmsS t n) nm (0 + 1) (a, (p, false), true) = (pmR t n (p, false) a, pmS t n (p, false), false) := by
      rw [itR, itR]
      unfold pmsS
      rw [if_pos rfl, if_neg (by omega)]
    rw [e, rMs]
    rcases ma_rel (v := v) hT hp with ⟨d1, P, v2, k, w, s, c, hP, hc, hw, d2, d3, d4, d5⟩ | ⟨d1, d2⟩
    · refine Or.inl ⟨d1, P, v2, nd, nm + 1, hP, d2, d3, ?_⟩
      dsimp only
      rw [d4, d5]
      exact rowR_m hr (by omega) hc hw
    · exact Or.inr ⟨d1, d2⟩
  | f + 1, nm, hnm, p, v, a, g, hp, hr => by
    have e : itR (pmsS t n) nm (f + 1 + 1) (a, (p, false), true) = itR (pmsS t n) (nm + 1) (f + 1) (pmR t n (p, false) a, (gn t n (nI 44) (pmS t n (p, false))).2, (gn t n (nI 44) (pmS t n (p, false))).1) := by
      rw [itR]
      congr 1
      unfold pmsS
      rw [if_pos rfl, if_pos (by omega)]
    rw [e, rMs]
    rcases ma_rel (v := v) hT hp with ⟨d1, P, v2, k, w, s, c, hP, hc, hw, d2, d3, d4, d5⟩ | ⟨d1, d2⟩
    · dsimp only
      rw [if_pos d1, d2, d3, d4, d5, d1]
      have hr2 := rowR_m (k := nI k) (s := nI s) hr (by omega) hc hw
      rcases gn_rel (t := t) (n := n) (p := P) (c := nI 44) (v := v2) (by decide) with ⟨g1, g2, g3, g4⟩ | ⟨g1, g2, g3, -⟩
      · rw [if_pos g1, g3, g4]
        exact ms_rel hT f (nm + 1) (by omega) _ _ _ _ (sk_1 g2) hr2
      · rw [if_neg (by rw [g1]; exact Bool.false_ne_true), g2, g3]
        dsimp only
        rw [pms_id]
        exact Or.inl ⟨rfl, _, v2, nd, nm + 1, (sk_le hP).2, rfl, rfl, hr2⟩
    · dsimp only
      rw [if_neg (by rw [d1]; exact Bool.false_ne_true), gn_flt d2 (by decide), pms_id]
      exact Or.inr ⟨d1, d2⟩
