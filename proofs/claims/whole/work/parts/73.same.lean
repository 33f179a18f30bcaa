/-! what is foretold: class and reference answer alike -/
/-- a prison of the class's and the reference's row agree -/
def pRel (a g : Nat → Int32) (nd nm : Nat) : Prop := nd ≤ 10 ∧ nm ≤ 4 ∧ pDo a g nd ∧ pMa a g nm ∧ wfD g nd ∧ pOk g nm
theorem pRel.one {a g : Nat → Int32} {nd nm m : Nat} (h : pRel a g nd nm) (hm : m < nm) : pOne a g m (a (63 + m)) (a (7 + m)) := by
  obtain ⟨h1, h2, h3, h4, h5, h6⟩ := h.2.2.2.1 m hm
  exact ⟨h1, h4, h5, h6.symm, h2.symm⟩
theorem pRel.cell {a g : Nat → Int32} {nd nm m : Nat} (h : pRel a g nd nm) (hm : m < nm) : ceF a m = ceF g m ∧ ceF g m < 8 ∧ g (51 + m) = nI (ceF g m) := by
  obtain ⟨c, hc, e⟩ := (h.2.2.2.2.2 m hm).1
  have e2 : ceF g m = c := by unfold ceF; rw [e]; exact nIc (by omega)
  refine ⟨?_, by omega, by rw [e2]; exact e⟩
  unfold ceF
  rw [(h.2.2.2.1 m hm).2.2.1]
theorem zs_ways {a g : Nat → Int32} {nd nm : Nat} (h : pRel a g nd nm) (man cell : Int32) : waysC a nd nm man cell = waysA g nd nm man cell := by
  have hnd := h.1
  have hnm := h.2.1
  unfold waysC waysA
  by_cases q : (isB man nm && isB cell 8) = true
  · rw [if_pos q, if_pos q]
    rw [Bool.and_eq_true] at q
    obtain ⟨mm, hmm, rfl⟩ := isB_nat q.1 (by omega)
    obtain ⟨xx, hxx, rfl⟩ := isB_nat q.2 (by omega)
    rw [show tN (nI mm) = mm from nIc (by omega), show tN (nI xx) = xx from nIc (by omega)]
    obtain ⟨F, H, -, hb, hj⟩ := zb_both (nI 0) hnd h.2.2.1 h.2.2.2.2.1 (h.one hmm) (h.cell hmm).2.1
    unfold spM opM
    rw [(h.cell hmm).1, (hj xx hxx).2.1, (hj xx hxx).2.2.2]
  · rw [if_neg q, if_neg q]
theorem zs_reach {a g : Nat → Int32} {nd nm : Nat} (h : pRel a g nd nm) (man : Int32) : reachC a nd nm man = reachA g nd nm man := by
  have hnd := h.1
  have hnm := h.2.1
  unfold reachC reachA
  by_cases q : isB man nm = true
  · rw [if_pos q, if_pos q]
    obtain ⟨mm, hmm, rfl⟩ := isB_nat q (by omega)
    rw [show tN (nI mm) = mm from nIc (by omega)]
    obtain ⟨F, H, -, hb, hj⟩ := zb_both (nI 0) hnd h.2.2.1 h.2.2.2.2.1 (h.one hmm) (h.cell hmm).2.1
    unfold spM opM
    rw [(h.cell hmm).1]
    exact zb_rch hb 8 (fun j hj2 => ⟨(hj j hj2).1, (hj j hj2).2.2.1⟩)
  · rw [if_neg q, if_neg q]
/-! the fewest doors to be shut -/
theorem zp_1 : ∀ s, s < 1024 → bcJ (nI s) = bitsF (nI s) := by decide +kernel
theorem zp_2 : ∀ n, n ≤ 10 → ∀ s, s < 2 ^ n → bitsF (nI s) = nI (tN (bitsF (nI s))) ∧ tN (bitsF (nI s)) ≤ n := by decide +kernel
theorem zp_3 : ∀ n, n ≤ 10 → ∀ d, d < n → hasB (nI (2 ^ n - 1)) d = true := by decide +kernel
def zpp (s : Nat) : Nat := tN (bitsF (nI s))
theorem zpp_eq {n s : Nat} (hn : n ≤ 10) (hs : s < 2 ^ n) : bitsF (nI s) = nI (zpp s) ∧ zpp s ≤ n := zp_2 n hn s hs
def isLex (Q : Nat → Bool) (N s : Nat) : Prop := s < N ∧ Q s = true ∧ ∀ t, t < N → Q t = true → zpp s < zpp t ∨ (zpp s = zpp t ∧ s ≤ t)
theorem lex_eq {Q : Nat → Bool} {N s t : Nat} (h : isLex Q N s) (h2 : isLex Q N t) : s = t := by
  have h3 := h.2.2 t h2.1 h2.2.1
  have h4 := h2.2.2 s h.1 h.2.1
  omega
theorem zs_cutR {g : Nat → Int32} {m fr nd cell : Nat} (hnd : nd ≤ 10) : ∀ N, N ≤ 2 ^ nd → (it (cutS g m fr nd cell) N (-4) = -4 ∧ ∀ t, t < N → rbB g m (nI t) fr nd cell = true) ∨ ∃ s, it (cutS g m fr nd cell) N (-4) = nI s ∧ isLex (fun t => !rbB g m (nI t) fr nd cell) N s
  | 0, _ => Or.inl ⟨rfl, fun t ht => absurd ht (Nat.not_lt_zero _)⟩
  | N + 1, hN => by
    have h1024 : 2 ^ nd ≤ 1024 := two_le nd hnd
    have eN := zpp_eq hnd (show N < 2 ^ nd by omega)
    rw [it_s]
    rcases zs_cutR (g := g) (m := m) (fr := fr) (cell := cell) hnd N (by omega) with ⟨h1, h2⟩ | ⟨s, h1, h2, h3, h4⟩
    · rw [h1]
      unfold cutS
      by_cases hr : rbB g m (nI N) fr nd cell = false
      · rw [if_pos ⟨Or.inl rfl, hr⟩]
        refine Or.inr ⟨N, rfl, by omega, by simp [hr], fun t ht hQ => ?_⟩
        by_cases e : t = N
        · subst e; exact Or.inr ⟨rfl, Nat.le_refl _⟩
        · have hQ2 : (!rbB g m (nI t) fr nd cell) = true := hQ
          rw [h2 t (by omega)] at hQ2; exact absurd hQ2 (by decide)
      · rw [if_neg (fun z => hr z.2)]
        refine Or.inl ⟨rfl, fun t ht => ?_⟩
        by_cases e : t = N
        · subst e; simpa using hr
        · exact h2 t (by omega)
    · rw [h1]
      have es := zpp_eq hnd (show s < 2 ^ nd by omega)
      unfold cutS
      by_cases hq : (nI s = -4 ∨ ¬ bitsF (nI s) ≤ bitsF (nI N)) ∧ rbB g m (nI N) fr nd cell = false
      · rw [if_pos hq]
        have hlt : zpp N < zpp s := by
          rcases hq.1 with z | z
          · exact absurd z (nI_n4 (by omega))
          · rw [es.1, eN.1, nI_leI (by omega) (by omega)] at z; omega
        refine Or.inr ⟨N, rfl, by omega, by simp [hq.2], fun t ht hQ => ?_⟩
        by_cases e : t = N
        · subst e; exact Or.inr ⟨rfl, Nat.le_refl _⟩
        · have := h4 t (by omega) hQ
          omega
      · rw [if_neg hq]
        refine Or.inr ⟨s, rfl, by omega, h3, fun t ht hQ => ?_⟩
        by_cases e : t = N
        · subst e
          have hQ2 : rbB g m (nI t) fr nd cell = false := by simpa using hQ
          have hle : zpp s ≤ zpp t := by
            apply Decidable.byContradiction
            intro z
            apply hq
            refine ⟨Or.inr ?_, hQ2⟩
            rw [es.1, eN.1, nI_leI (by omega) (by omega)]
            omega
          omega
        · exact h4 t (by omega) hQ
theorem zs_cutC {a op : Nat → Int32} {nd st cell : Nat} {Q : Nat → Bool} (hnd : nd ≤ 10) (hQ : ∀ t, t < 2 ^ nd → Q t = decide ((spZ a op (nI t) st nd).1 cell < 0)) : ∀ n size, size + n ≤ 11 → (∀ t, t < 2 ^ nd → Q t = true → size ≤ zpp t) → (lcO a op nd st cell n size = -4 ∧ ∀ t, t < 2 ^ nd → Q t = true → size + n ≤ zpp t) ∨ ∃ s, lcO a op nd st cell n size = nI s ∧ isLex Q (2 ^ nd) s
  | 0, size, _, h => Or.inl ⟨rfl, h⟩
  | n + 1, size, hsz, h => by
    have h1024 : 2 ^ nd ≤ 1024 := two_le nd hnd
    have hP : ∀ t, t < 2 ^ nd → (lcP a op nd st cell size t = true ↔ zpp t = size ∧ Q t = true) := by
      intro t ht
      have et := zpp_eq hnd ht
      unfold lcP
      rw [zp_1 t (by omega), et.1, Bool.and_eq_true, decide_eq_true_iff, nI_eq (by omega) (by omega), hQ t ht]
    rw [lcO]
    rcases seI_or (P := lcP a op nd st cell size) (2 ^ nd) 0 with ⟨h1, h2⟩ | ⟨s, -, hs, h1, h2, h3⟩
    · rw [if_pos h1]
      have h4 : ∀ t, t < 2 ^ nd → Q t = true → size + 1 ≤ zpp t := fun t ht hq => by
        have h5 := h t ht hq
        have h6 : ¬ zpp t = size := fun z => by
          have h7 := (hP t ht).mpr ⟨z, hq⟩
          rw [h2 t (Nat.zero_le _) (by omega)] at h7
          exact absurd h7 (by decide)
        omega
      rcases zs_cutC (n := n) (size := size + 1) hnd hQ (by omega) h4 with ⟨h5, h6⟩ | h5
      · exact Or.inl ⟨h5, fun t ht hq => by have := h6 t ht hq; omega⟩
      · exact Or.inr h5
    · rw [if_neg (by rw [h1]; exact nI_n4 (by omega)), h1]
      have h4 := (hP s (by omega)).mp h2
      refine Or.inr ⟨s, rfl, by omega, h4.2, fun t ht hq => ?_⟩
      have h5 := h t ht hq
      by_cases e : zpp t = size
      · refine Or.inr ⟨by omega, ?_⟩
        apply Decidable.byContradiction
        intro z
        have h6 := h3 t (Nat.zero_le _) (by omega)
        rw [(hP t ht).mpr ⟨e, hq⟩] at h6
        exact absurd h6 (by decide)
      · omega
theorem zs_all {g : Nat → Int32} {m nd fr cell : Nat} (hnd : nd ≤ 10) (hW : wfD g nd) (hfr : fr < 8) (hc : cell < 8) (hne : ¬ cell = fr) : rbB g m (nI (2 ^ nd - 1)) fr nd cell = false := by
  obtain ⟨F, H, h1, h2⟩ := zb_ref (m := m) (sh := nI (2 ^ nd - 1)) hW hfr
  have hn : F cell = none := by
    cases e : F cell with
    | none => rfl
    | some n =>
      rcases h1.1.2.2 cell n e with ⟨-, z⟩ | ⟨c, d, k, hd, z, -⟩
      · exact absurd z hne
      · unfold zbEr at z
        rw [if_neg (fun y => by rw [zp_3 nd hnd d hd] at y; exact absurd y.2.2.1 (by decide))] at z
        cases z
  unfold rbB
  rw [(h2 cell hc).1, hn]
  simp [zeR]
theorem zs_cut {a g : Nat → Int32} {nd nm : Nat} (h : pRel a g nd nm) (man cell what : Int32) : cuC a nd nm man cell what = cutA g nd nm man cell what := by
  have hnd := h.1
  have hnm := h.2.1
  have h1024 : 2 ^ nd ≤ 1024 := two_le nd hnd
  unfold cuC cutA
  by_cases q : (isB man nm && (isB cell 8 && isB what 2)) = true
  · rw [if_pos q, if_pos q]
    rw [Bool.and_eq_true, Bool.and_eq_true] at q
    obtain ⟨mm, hmm, rfl⟩ := isB_nat q.1 (by omega)
    obtain ⟨xx, hxx, rfl⟩ := isB_nat q.2.1 (by omega)
    obtain ⟨ww, hww, rfl⟩ := isB_nat q.2.2 (by omega)
    rw [show tN (nI mm) = mm from nIc (by omega), show tN (nI xx) = xx from nIc (by omega)]
    obtain ⟨hc1, hc2, hc3⟩ := h.cell hmm
    rw [hc1, hc3]
    unfold lcC opM
    by_cases e : xx = ceF g mm
    · rw [if_pos e, if_pos (Or.inl (by decide)), if_pos (by rw [e])]
    · rw [if_neg e, if_neg (fun z => e ((nI_eq (by omega) (by omega)).mp z).symm)]
      have hQ : ∀ t, t < 2 ^ nd → (!rbB g mm (nI t) (ceF g mm) nd xx) = decide ((spZ a (opN a a mm (a (63 + mm)) (a (7 + mm)) nd) (nI t) (ceF g mm) nd).1 xx < 0) := fun t _ => by
        rw [zb_rb (nI t) hnd h.2.2.1 h.2.2.2.2.1 (h.one hmm) hc2 hxx, Bool.not_not]
      have hpos : 0 < 2 ^ nd := Nat.pow_pos (by decide)
      have hall := zs_all (m := mm) hnd h.2.2.2.2.1 hc2 hxx e
      have hC : ∃ s, lcO a (opN a a mm (a (63 + mm)) (a (7 + mm)) nd) nd (ceF g mm) xx (nd + 1) 0 = nI s ∧ isLex (fun t => !rbB g mm (nI t) (ceF g mm) nd xx) (2 ^ nd) s := by
        rcases zs_cutC (Q := fun t => !rbB g mm (nI t) (ceF g mm) nd xx) hnd hQ (nd + 1) 0 (by omega) (fun t _ _ => Nat.zero_le _) with ⟨-, z⟩ | z
        · have h1 := z (2 ^ nd - 1) (by omega) (by simp [hall])
          have h2 := (zpp_eq hnd (show 2 ^ nd - 1 < 2 ^ nd by omega)).2
          omega
        · exact z
      have hR : ∃ s, cutF g mm (ceF g mm) nd xx = nI s ∧ isLex (fun t => !rbB g mm (nI t) (ceF g mm) nd xx) (2 ^ nd) s := by
        rcases zs_cutR (g := g) (m := mm) (fr := ceF g mm) (cell := xx) hnd (2 ^ nd) (Nat.le_refl _) with ⟨-, z⟩ | z
        · have h1 := z (2 ^ nd - 1) (by omega)
          rw [hall] at h1
          exact absurd h1 (by decide)
        · exact z
      obtain ⟨s, es, hs⟩ := hC
      obtain ⟨t, et, ht⟩ := hR
      have e3 := lex_eq hs ht
      subst e3
      have hs1 : s < 1024 := by have := hs.1; omega
      rw [es, et, zp_1 s hs1]
      rcases (show ww = 0 ∨ ww = 1 by omega) with rfl | rfl
      · rw [if_neg (fun z => z.elim (nI_pos (by omega)) (by decide)), if_pos rfl]
      · rw [if_pos (Or.inr rfl), if_neg (by decide)]
  · rw [if_neg q, if_neg q]
theorem zs_bridges {a g : Nat → Int32} {nd nm : Nat} (h : pRel a g nd nm) (man cell : Int32) : brgC a nd nm man cell = briA g nd nm man cell := by
  have hnd := h.1
  have hnm := h.2.1
  unfold brgC briA
  by_cases q : (isB man nm && isB cell 8) = true
  · rw [if_pos q, if_pos q]
    rw [Bool.and_eq_true] at q
    obtain ⟨mm, hmm, rfl⟩ := isB_nat q.1 (by omega)
    obtain ⟨xx, hxx, rfl⟩ := isB_nat q.2 (by omega)
    rw [show tN (nI mm) = mm from nIc (by omega), show tN (nI xx) = xx from nIc (by omega)]
    obtain ⟨hc1, hc2, hc3⟩ := h.cell hmm
    unfold brC spM opM
    rw [hc1, hc3]
    have hrb : ∀ sh, rbB g mm sh (ceF g mm) nd xx = !decide ((spZ a (opN a a mm (a (63 + mm)) (a (7 + mm)) nd) sh (ceF g mm) nd).1 xx < 0) := fun sh => zb_rb sh hnd h.2.2.1 h.2.2.2.2.1 (h.one hmm) hc2 hxx
    have hst : ∀ n, it (brS a (opN a a mm (a (63 + mm)) (a (7 + mm)) nd) nd (ceF g mm) xx) n (nI 0) = it (briS g mm (ceF g mm) nd xx) n (nI 0) := fun n => it_congr n (fun k s _ => by
      unfold brS briS
      rw [hrb]
      by_cases z : (spZ a (opN a a mm (a (63 + mm)) (a (7 + mm)) nd) (bitI k) (ceF g mm) nd).1 xx < 0
      · rw [if_neg (Int32.not_le.mpr z), decide_eq_true z, if_neg (by decide)]
      · rw [if_pos (Int32.not_lt.mp z), decide_eq_false z, if_pos (show (!false) = true from rfl), nI_0, Int32.or_zero]) _
    by_cases e : ceF g mm = xx
    · rw [if_pos (show nI (ceF g mm) = nI xx by rw [e])]
      have h0 : ∀ n, it (brS a (opN a a mm (a (63 + mm)) (a (7 + mm)) nd) nd (ceF g mm) xx) n (nI 0) = nI 0 := by
        intro n
        induction n with
        | zero => rfl
        | succ n ih =>
          rw [it_s, ih]
          obtain ⟨F, H, hz, hb, hj⟩ := zb_both (bitI n) hnd h.2.2.1 h.2.2.2.2.1 (h.one hmm) hc2
          unfold brS
          rw [(hj xx hxx).1, ← e, hz.1.1]
          rw [if_pos (show 0 ≤ zeC (some 0) by decide)]
      rw [h0]
      split <;> rfl
    · rw [if_neg (fun z => e ((nI_eq (by omega) (by omega)).mp z)), hrb, hst]
      by_cases z : (spZ a (opN a a mm (a (63 + mm)) (a (7 + mm)) nd) (nI 0) (ceF g mm) nd).1 xx < 0
      · rw [if_neg (Int32.not_le.mpr z), decide_eq_true z, if_neg (by decide)]
      · rw [if_pos (Int32.not_lt.mp z), decide_eq_false z, if_pos (show (!false) = true from rfl)]
  · rw [if_neg q, if_neg q]
theorem pOne_wit {a g : Nat → Int32} {nd nm m : Nat} {v : Int32} (h : pRel a g nd nm) (hm : m < nm) : pOne a (upd g (63 + m) v) m v (a (7 + m)) := by
  have hnm := h.2.1
  obtain ⟨h1, h2, h3, h4, h5, h6⟩ := h.2.2.2.1 m hm
  refine ⟨?_, ?_, ?_, pk_us, ?_⟩
  · rw [pk_un (by omega)]; exact h1
  · rw [pk_un (by omega)]; exact h4
  · rw [pk_un (by omega)]; exact h5
  · rw [pk_un (by omega)]; exact h2.symm
theorem pOne_own {a g : Nat → Int32} {nd nm m : Nat} {v : Int32} (h : pRel a g nd nm) (hm : m < nm) : pOne a (upd g (7 + m) v) m (a (63 + m)) v := by
  have hnm := h.2.1
  obtain ⟨h1, h2, h3, h4, h5, h6⟩ := h.2.2.2.1 m hm
  refine ⟨?_, ?_, ?_, ?_, pk_us⟩
  · rw [pk_un (by omega)]; exact h1
  · rw [pk_un (by omega)]; exact h4
  · rw [pk_un (by omega)]; exact h5
  · rw [pk_un (by omega)]; exact h6.symm
theorem pDo_upd {a g : Nat → Int32} {nd j : Nat} {v : Int32} (hnd : nd ≤ 10) (h : pDo a g nd) (hj : j < 11 ∨ 51 ≤ j) : pDo a (upd g j v) nd := fun d hd => by
  rw [pk_un (by omega), pk_un (by omega), pk_un (by omega), pk_un (by omega)]
  exact h d hd
theorem zs_wit {a g : Nat → Int32} {nd nm : Nat} (h : pRel a g nd nm) (man cell : Int32) : witC a nd nm man cell = witA g nd nm man cell := by
  have hnd := h.1
  have hnm := h.2.1
  unfold witC witA
  by_cases q : (isB man nm && isB cell 8) = true
  · rw [if_pos q, if_pos q]
    rw [Bool.and_eq_true] at q
    obtain ⟨mm, hmm, rfl⟩ := isB_nat q.1 (by omega)
    obtain ⟨xx, hxx, rfl⟩ := isB_nat q.2 (by omega)
    rw [show tN (nI mm) = mm from nIc (by omega), show tN (nI xx) = xx from nIc (by omega)]
    obtain ⟨hc1, hc2, hc3⟩ := h.cell hmm
    have hP : ∀ i b, witS g mm (ceF g mm) nd xx i b = if witP a mm nd xx (9 - i) = true then nI (9 - i) else b := by
      intro i b
      unfold witS witP
      rw [zb_rb (nI 0) hnd (pDo_upd hnd h.2.2.1 (by omega)) (wfD_upd h.2.2.2.2.1 hnd (by omega)) (pOne_wit h hmm) hc2 hxx, hc1]
    simp only [it, hP, seI]
  · rw [if_neg q, if_neg q]
theorem rchF_nat (f : Nat → Int32) : ∀ n, n ≤ 10 → ∃ s, s < 2 ^ n ∧ rchF f n = nI s
  | 0, _ => ⟨0, by decide, rfl⟩
  | n + 1, hn => by
    obtain ⟨s, hs, e⟩ := rchF_nat f n (by omega)
    have h2 : 2 ^ (n + 1) = 2 ^ n + 2 ^ n := by rw [Nat.pow_succ]; omega
    rw [rchF, e]
    split
    · exact ⟨s, by omega, by rw [nI_0, Int32.or_zero]⟩
    · refine ⟨s ||| 2 ^ n, Nat.or_lt_two_pow (n := n + 1) (by omega) (by omega), ?_⟩
      show nI s ||| (nI 1 <<< (nI n &&& 31)) = _
      rw [shl1 n (by omega)]
      apply Int32.toBitVec_inj.1
      show BitVec.ofNat 32 s ||| BitVec.ofNat 32 (2 ^ n) = BitVec.ofNat 32 (s ||| 2 ^ n)
      apply BitVec.eq_of_getLsbD_eq
      intro i hi
      simp [hi]
theorem zs_lesson {a g : Nat → Int32} {nd nm : Nat} (h : pRel a g nd nm) (man what : Int32) : lesC a nd nm man what = lesA g nd nm man what := by
  have hnd := h.1
  have hnm := h.2.1
  unfold lesC lesA
  by_cases q : (isB man nm && isB what 2) = true
  · rw [if_pos q, if_pos q]
    rw [Bool.and_eq_true] at q
    obtain ⟨mm, hmm, rfl⟩ := isB_nat q.1 (by omega)
    rw [show tN (nI mm) = mm from nIc (by omega)]
    obtain ⟨hc1, hc2, hc3⟩ := h.cell hmm
    have hQ : ∀ s, lesQC a mm nd s = lesQ g mm (ceF g mm) nd s := by
      intro s
      unfold lesQC lesQ
      obtain ⟨F, H, -, hb, hj⟩ := zb_both (nI 0) hnd (pDo_upd hnd h.2.2.1 (show 7 + mm < 11 ∨ 51 ≤ 7 + mm by omega)) (wfD_upd7 h.2.2.2.2.1 hnd hmm hnm) (pOne_own (v := nI s) h hmm) hc2
      rw [hc1, zb_rch hb 8 (fun j hj2 => ⟨(hj j hj2).1, (hj j hj2).2.2.1⟩)]
      obtain ⟨z, hz, e⟩ := rchF_nat (lsZ (upd g (7 + mm) (nI s)) mm (nI 0) (ceF g mm) nd).1 8 (by decide)
      rw [e]
      exact zp_1 z (by have : (2 : Nat) ^ 8 = 256 := by decide
                       omega)
    have hS : it (lesSC a mm nd) 4 (nI 0, nI 0) = lesF g mm (ceF g mm) nd := it_congr 4 (fun k s _ => by
      unfold lesSC lesS
      rw [hQ]
      split <;> rfl) _
    rw [hS]
  · rw [if_neg q, if_neg q]
/-! where two meet -/
theorem zm_lw {F G : Nat → Option Nat} {f g f2 g2 : Nat → Int32} {c : Nat} (hbF : ∀ j v, F j = some v → v < 8) (hbG : ∀ j v, G j = some v → v < 8) (hf : f c = zeC (F c)) (hg : g c = zeC (G c)) (hf2 : f2 c = zeR (F c)) (hg2 : g2 c = zeR (G c)) : (lwF f g c = -4 ∧ mxI (f2 c) (g2 c) = nI 1000000) ∨ ∃ v, v < 8 ∧ lwF f g c = nI v ∧ mxI (f2 c) (g2 c) = nI v := by
  cases eF : F c with
  | none =>
    have a1 : f c = -4 := by rw [hf, eF]; rfl
    have a2 : f2 c = nI 1000000 := by rw [hf2, eF]; rfl
    refine Or.inl ⟨by unfold lwF; rw [a1]; exact if_pos (by decide), ?_⟩
    unfold mxI
    rw [a2]
    cases eG : G c with
    | none =>
      have b2 : g2 c = nI 1000000 := by rw [hg2, eG]; rfl
      rw [b2]; split <;> rfl
    | some w =>
      have hw := hbG c w eG
      have b2 : g2 c = nI w := by rw [hg2, eG]; rfl
      rw [b2]
      exact if_neg (by rw [nI_leI (by decide) (by omega)]; omega)
  | some v =>
    have hv := hbF c v eF
    have a1 : f c = nI v := by rw [hf, eF]; rfl
    have a2 : f2 c = nI v := by rw [hf2, eF]; rfl
    unfold lwF mxI
    rw [a1, a2, if_neg (nI_pos (by omega))]
    cases eG : G c with
    | none =>
      have b1 : g c = -4 := by rw [hg, eG]; rfl
      have b2 : g2 c = nI 1000000 := by rw [hg2, eG]; rfl
      rw [b1, b2]
      exact Or.inl ⟨if_neg (by decide), if_pos (by rw [nI_leI (by omega) (by decide)]; omega)⟩
    | some w =>
      have hw := hbG c w eG
      have b1 : g c = nI w := by rw [hg, eG]; rfl
      have b2 : g2 c = nI w := by rw [hg2, eG]; rfl
      rw [b1, b2, if_pos (nI_pos' (by omega))]
      refine Or.inr ?_
      by_cases e : v ≤ w
      · by_cases e2 : v < w
        · exact ⟨w, hw, if_pos (by rw [nI_ltI (by omega) (by omega)]; exact e2), if_pos (by rw [nI_leI (by omega) (by omega)]; exact e)⟩
        · exact ⟨w, hw, by rw [if_neg (by rw [nI_ltI (by omega) (by omega)]; exact e2), show v = w by omega], if_pos (by rw [nI_leI (by omega) (by omega)]; exact e)⟩
      · exact ⟨v, hv, if_neg (by rw [nI_ltI (by omega) (by omega)]; omega), if_neg (by rw [nI_leI (by omega) (by omega)]; exact e)⟩
theorem zm_all {F G : Nat → Option Nat} {f g f2 g2 : Nat → Int32} (hbF : ∀ j v, F j = some v → v < 8) (hbG : ∀ j v, G j = some v → v < 8) (hf : ∀ j, j < 8 → f j = zeC (F j)) (hg : ∀ j, j < 8 → g j = zeC (G j)) (hf2 : ∀ j, j < 8 → f2 j = zeR (F j)) (hg2 : ∀ j, j < 8 → g2 j = zeR (G j)) : ∀ n, n ≤ 8 →
    (it (mcS f g) n (-4, nI 8) = (-4, nI 8) ∧ it (meeS f2 g2) n (-4, nI 1000000) = (-4, nI 1000000)) ∨ ∃ c v, c < 8 ∧ v < 8 ∧ it (mcS f g) n (-4, nI 8) = (nI c, nI v) ∧ it (meeS f2 g2) n (-4, nI 1000000) = (nI c, nI v) ∧ lwF f g c = nI v
  | 0, _ => Or.inl ⟨rfl, rfl⟩
  | n + 1, hn => by
    rw [it_s, it_s]
    have hl := zm_lw hbF hbG (hf n (by omega)) (hg n (by omega)) (hf2 n (by omega)) (hg2 n (by omega))
    rcases zm_all hbF hbG hf hg hf2 hg2 n (by omega) with ⟨h1, h2⟩ | ⟨c, v, hc, hv, h1, h2, h3⟩
    · rw [h1, h2]
      unfold mcS meeS
      rcases hl with ⟨h4, h5⟩ | ⟨w, hw, h4, h5⟩
      · rw [h4, h5, if_pos (by decide)]
        simp
      · rw [h4, h5, if_neg (nI_pos (by omega)), if_neg (by show ¬ nI 8 ≤ nI w; rw [nI_leI (by decide) (by omega)]; omega)]
        have h6 : ¬ nI 1000000 ≤ nI w := by rw [nI_leI (by decide) (by omega)]; omega
        simp only [if_neg h6]
        exact Or.inr ⟨n, w, by omega, hw, rfl, rfl, h4⟩
    · rw [h1, h2]
      unfold mcS meeS
      rcases hl with ⟨h4, h5⟩ | ⟨w, hw, h4, h5⟩
      · rw [h4, h5, if_pos (by decide)]
        have h6 : nI v ≤ nI 1000000 := by rw [nI_leI (by omega) (by decide)]; omega
        simp only [if_pos h6]
        exact Or.inr ⟨c, v, hc, hv, rfl, rfl, h3⟩
      · rw [h4, h5, if_neg (nI_pos (by omega))]
        by_cases e : nI v ≤ nI w
        · simp only [if_pos e]
          exact Or.inr ⟨c, v, hc, hv, rfl, rfl, h3⟩
        · simp only [if_neg e]
          exact Or.inr ⟨n, w, by omega, hw, rfl, rfl, h4⟩
theorem zs_meet {a g : Nat → Int32} {nd nm : Nat} (h : pRel a g nd nm) (man other what : Int32) : meeC a nd nm man other what = meeA g nd nm man other what := by
  have hnd := h.1
  have hnm := h.2.1
  unfold meeC meeA
  by_cases q : (isB man nm && (isB other nm && (!decide (man = other) && isB what 2))) = true
  · rw [if_pos q, if_pos q]
    rw [Bool.and_eq_true, Bool.and_eq_true] at q
    obtain ⟨mm, hmm, rfl⟩ := isB_nat q.1 (by omega)
    obtain ⟨oo, hoo, rfl⟩ := isB_nat q.2.1 (by omega)
    rw [show tN (nI mm) = mm from nIc (by omega), show tN (nI oo) = oo from nIc (by omega)]
    obtain ⟨F, H, -, hb, hj⟩ := zb_both (nI 0) hnd h.2.2.1 h.2.2.2.2.1 (h.one hmm) (h.cell hmm).2.1
    obtain ⟨F2, H2, -, hb2, hj2⟩ := zb_both (nI 0) hnd h.2.2.1 h.2.2.2.2.1 (h.one hoo) (h.cell hoo).2.1
    unfold spM opM
    rw [(h.cell hmm).1, (h.cell hoo).1]
    unfold mcF meeF
    rcases zm_all hb hb2 (fun j z => (hj j z).1) (fun j z => (hj2 j z).1) (fun j z => (hj j z).2.2.1) (fun j z => (hj2 j z).2.2.1) 8 (Nat.le_refl _) with ⟨h1, h2⟩ | ⟨c, v, hc, hv, h1, h2, h3⟩
    · rw [h1, h2, if_pos (Or.inl (by decide)), if_pos (Or.inl rfl)]
    · rw [h1, h2]
      by_cases e : what = nI 0
      · rw [if_pos (Or.inr e), if_pos (Or.inr e)]
      · rw [if_neg (fun z => z.elim (nI_pos (by omega)) e), if_neg (fun z => z.elim (nI_n4 (by omega)) e)]
        show lwF _ _ (tN (nI c)) = nI v
        rw [show tN (nI c) = c from nIc (by omega)]
        exact h3
  · rw [if_neg q, if_neg q]
/-! hunted -/
theorem zh_any {p q : Nat → Bool} : ∀ n, (∀ d, d < n → p d = q d) → it (anyS p) n false = it (anyS q) n false := fun n h => it_congr n (fun k s hk => by unfold anyS; rw [h k hk]) _
theorem zh_all {p q : Nat → Bool} : ∀ n, (∀ d, d < n → p d = q d) → it (allS p) n true = it (allS q) n true := fun n h => it_congr n (fun k s hk => by unfold allS; rw [h k hk]) _
theorem zh_1 {a g : Nat → Int32} {m nd here cell : Nat} {wit own sh : Int32} (hnd : nd ≤ 10) (hD : pDo a g nd) (hW : wfD g nd) (hM : pOne a g m wit own) (hc : cell < 8) : gtB a (opN a a m wit own nd) nd cell 1 here sh = (decide (here = cell) || oneB g m here cell sh nd) := by
  rw [gtB_s]
  unfold oneB
  rw [zh_any nd (fun d hd => ?_)]
  unfold gsB oneP
  rw [zb_io hnd hD hW hM hd]
  by_cases z : psB g m d (nI here) = true
  · obtain ⟨h1, h2⟩ := ps_ok hW hd z
    rw [z, zb_bn hD hd z, h1]
    have e : decide (nI (btF g d here) = nI cell) = decide (btF g d here = cell) := by rw [Bool.eq_iff_iff, decide_eq_true_iff, decide_eq_true_iff, nI_eq (by omega) (by omega)]
    rw [e]
    simp
  · rw [Bool.eq_false_iff.mpr z]; simp
theorem zh_2 {a g : Nat → Int32} {m nd here cell : Nat} {wit own sh : Int32} (hnd : nd ≤ 10) (hD : pDo a g nd) (hW : wfD g nd) (hM : pOne a g m wit own) (hc : cell < 8) : gtB a (opN a a m wit own nd) nd cell 2 here sh = (decide (here = cell) || twoB g m here cell sh nd) := by
  rw [gtB_s]
  unfold twoB
  rw [zh_any nd (fun d hd => ?_)]
  unfold gsB twoP
  rw [zb_io hnd hD hW hM hd]
  by_cases z : psB g m d (nI here) = true
  · rw [z, zb_bn hD hd z]
    by_cases e : btF g d here = cell
    · rw [decide_eq_true e]; simp
    · rw [decide_eq_false e, Bool.false_or, Bool.false_or, zh_all nd (fun k _ => zh_1 hnd hD hW hM hc), decide_eq_false e]
      simp
  · rw [Bool.eq_false_iff.mpr z]; simp
theorem zh_or0 (x : Int32) : nI 0 ||| x = x := by rw [nI_0]; exact Int32.zero_or
theorem zh_has0 {d : Nat} (hd : d < 32) : hasB (nI 0) d = false := by rw [hasB_bt hd, nI_0, b_0]
theorem zh_3 {a g : Nat → Int32} {m nd here cell : Nat} {wit own : Int32} (hnd : nd ≤ 10) (hD : pDo a g nd) (hW : wfD g nd) (hM : pOne a g m wit own) (hc : cell < 8) : gtB a (opN a a m wit own nd) nd cell 3 here (nI 0) = (decide (here = cell) || thrB g m here cell nd) := by
  rw [gtB_s]
  unfold thrB
  rw [zh_any nd (fun d hd => ?_)]
  unfold gsB thrP
  rw [zb_io hnd hD hW hM hd, zh_has0 (by omega)]
  by_cases z : psB g m d (nI here) = true
  · rw [z, zb_bn hD hd z]
    by_cases e : btF g d here = cell
    · rw [decide_eq_true e]; simp
    · rw [decide_eq_false e, Bool.false_or, Bool.false_or, zh_all nd (fun k _ => zh_2 hnd hD hW hM hc), decide_eq_false e]
      simp [zh_or0]
  · rw [Bool.eq_false_iff.mpr z]; simp
theorem zs_hunt {a g : Nat → Int32} {nd nm : Nat} (h : pRel a g nd nm) (man cell n : Int32) : hunC a nd nm man cell n = hunA g nd nm man cell n := by
  have hnd := h.1
  have hnm := h.2.1
  unfold hunC hunA
  by_cases q : (isB man nm && (isB cell 8 && isB n 4)) = true
  · rw [if_pos q, if_pos q]
    rw [Bool.and_eq_true, Bool.and_eq_true] at q
    obtain ⟨mm, hmm, rfl⟩ := isB_nat q.1 (by omega)
    obtain ⟨xx, hxx, rfl⟩ := isB_nat q.2.1 (by omega)
    obtain ⟨nn, hnn, rfl⟩ := isB_nat q.2.2 (by omega)
    rw [show tN (nI mm) = mm from nIc (by omega), show tN (nI xx) = xx from nIc (by omega), show tN (nI nn) = nn from nIc (by omega)]
    obtain ⟨hc1, hc2, hc3⟩ := h.cell hmm
    rw [hc1]
    have e0 : hsP a (opM a mm nd) nd xx (ceF g mm) 0 = decide (ceF g mm = xx) := rfl
    have e1 : hsP a (opM a mm nd) nd xx (ceF g mm) 1 = (decide (ceF g mm = xx) || oneB g mm (ceF g mm) xx (nI 0) nd) := zh_1 hnd h.2.2.1 h.2.2.2.2.1 (h.one hmm) hxx
    have e2 : hsP a (opM a mm nd) nd xx (ceF g mm) 2 = (decide (ceF g mm = xx) || twoB g mm (ceF g mm) xx (nI 0) nd) := zh_2 hnd h.2.2.1 h.2.2.2.2.1 (h.one hmm) hxx
    have e3 : hsP a (opM a mm nd) nd xx (ceF g mm) 3 = (decide (ceF g mm = xx) || thrB g mm (ceF g mm) xx nd) := zh_3 hnd h.2.2.1 h.2.2.2.2.1 (h.one hmm) hxx
    unfold hsC hunF
    by_cases e : ceF g mm = xx
    · rw [if_pos e, seI, e0, if_pos (decide_eq_true e)]
    · rw [if_neg e]
      rw [decide_eq_false e] at e0 e1 e2 e3
      rw [Bool.false_or] at e1 e2 e3
      rcases (show nn = 0 ∨ nn = 1 ∨ nn = 2 ∨ nn = 3 by omega) with rfl | rfl | rfl | rfl
      · simp [seI, e0]
      · simp [seI, e0, e1]
      · simp [seI, e0, e1, e2]
      · simp [seI, e0, e1, e2, e3]
  · rw [if_neg q, if_neg q]
