/-! WAY: both say the same -/
theorem zr_some {F : Nat → Option Nat} {t v : Nat} (hb : ∀ k, F t = some k → k < 8) (hv : v < 8) : zeR (F t) = nI v ↔ F t = some v := zr_eq hv hb
theorem zs_sp {a g : Nat → Int32} {m nd cell c : Nat} {wit own : Int32} {F : Nat → Option Nat} (hnd : nd ≤ 10) (hD : pDo a g nd) (hW : wfD g nd) (hM : pOne a g m wit own) (hc : c < 8) (hcell : cell < 8) (hB : zbB (zbEr g m (nI 0) nd) nd cell F) : (spZ a (opN a a m wit own nd) (nI 0) c nd).1 cell = zeC (F c) := by
  obtain ⟨D, H, h1, -, h2⟩ := zb_both (nI 0) hnd hD hW hM hc
  rw [(h2 cell hcell).1, zbB_D h1.1 hB]
theorem zs_fd {a g : Nat → Int32} {m nd cell here n : Nat} {wit own : Int32} {F : Nat → Option Nat} (hnd : nd ≤ 10) (hD : pDo a g nd) (hW : wfD g nd) (hM : pOne a g m wit own) (hh : here < 8) (hcell : cell < 8) (hB : zbB (zbEr g m (nI 0) nd) nd cell F) (hb : ∀ t k, F t = some k → k < 8) (hL : ∀ j, j < 8 → llZ g m cell nd j = zeR (F j)) (hn : n < 8) (hF : F here = some (n + 1)) : fdC a (opN a a m wit own nd) nd here cell (nI (n + 1)) = wyD g (llZ g m cell nd) m nd here := by
  unfold fdC wyD
  refine seI_cong nd 0 (fun d _ hd => ?_)
  have hd2 : d < nd := by omega
  unfold fdP wyP
  rw [zb_io hnd hD hW hM hd2, zh_has0 (by omega)]
  by_cases z : psB g m d (nI here) = true
  · have ht := (ps_ok hW hd2 z).2
    rw [z, zb_bn hD hd2 z, zs_sp hnd hD hW hM ht hcell hB, hL _ ht, hL here hh, hF]
    have e1 : nI (n + 1) - nI 1 = nI n := pk_sub (by omega)
    have e2 : zeR (some (n + 1)) - nI 1 = nI n := e1
    rw [e1, e2, Bool.eq_iff_iff]
    simp only [Bool.not_false, Bool.true_and, decide_eq_true_iff]
    rw [zc_some (hb _) hn, zr_some (hb _) hn]
  · rw [Bool.eq_false_iff.mpr z, Bool.and_false, Bool.false_and, Bool.false_and]
theorem zs_dw {a g : Nat → Int32} {m nd cell cc n kk : Nat} {wit own : Int32} {F : Nat → Option Nat} (hnd : nd ≤ 10) (hD : pDo a g nd) (hW : wfD g nd) (hM : pOne a g m wit own) (hcell : cell < 8) (hB : zbB (zbEr g m (nI 0) nd) nd cell F) (hb : ∀ t k, F t = some k → k < 8) (hN : ∀ t, F t ≠ none → t < 8) (hL : ∀ j, j < 8 → llZ g m cell nd j = zeR (F j)) (hn : n < 8) (hkk : kk < 2147483648) : ∀ f done here, f + done = n → done ≤ kk → F here = some f → (∃ dr, (here, dr) = it (wyS g (llZ g m cell nd) m nd) done (cc, nI n)) → dwC a (opN a a m wit own nd) nd cell (nI n) (nI kk) f done here = if n ≤ kk then -4 else (it (wyS g (llZ g m cell nd) m nd) (kk + 1) (cc, nI n)).2
  | 0, done, here, h1, h2, _, _ => by rw [if_pos (show n ≤ kk by omega)]; rfl
  | f + 1, done, here, h1, h2, h3, h4 => by
    have hh : here < 8 := hN here (by rw [h3]; simp)
    have e0 : nI n - nI done = nI (f + 1) := by rw [show nI n - nI done = nI (n - done) from pk_sub (by omega)]; congr 1; omega
    have hLh : llZ g m cell nd here = nI (f + 1) := by rw [hL here hh, h3]; rfl
    obtain ⟨d0, hd0, hw0⟩ := wy_on hW hnd hcell hh (by omega) hLh
    rw [dwC, e0, zs_fd hnd hD hW hM hh hcell hB hb hL (by omega) h3]
    obtain ⟨dr, hdr⟩ := h4
    rcases seI_or (P := wyP g (llZ g m cell nd) m here) nd 0 with ⟨-, z⟩ | ⟨d, -, hd, ed, hwd, -⟩
    · rw [z d0 (Nat.zero_le _) (by omega)] at hw0
      exact absurd hw0 (by decide)
    · have ed2 : wyD g (llZ g m cell nd) m nd here = nI d := ed
      have hd2 : d < nd := by omega
      have hs : it (wyS g (llZ g m cell nd) m nd) (done + 1) (cc, nI n) = (btF g d here, nI d) := by
        rw [it_s, ← hdr]
        show (btF g (tN (wyD g (llZ g m cell nd) m nd here)) here, wyD g (llZ g m cell nd) m nd here) = _
        rw [ed2, show tN (nI d) = d from nIc (by omega)]
      rw [ed2]
      by_cases e : done = kk
      · rw [if_pos (Or.inr (by rw [e])), if_neg (show ¬ n ≤ kk by omega), ← e, hs]
      · rw [if_neg (fun z => z.elim (nI_pos (by omega)) (fun y => e ((nI_eq (by omega) hkk).mp y))), show tN (nI d) = d from nIc (by omega)]
        have hps : psB g m d (nI here) = true := by unfold wyP at hwd; rw [Bool.and_eq_true] at hwd; exact hwd.1
        rw [zb_bn hD hd2 hps]
        have hwa := wyP_at hW hd2 hwd hLh
        exact zs_dw hnd hD hW hM hcell hB hb hN hL hn hkk f (done + 1) (btF g d here) (by omega) (by omega) (by
          have h5 := hL _ hwa.1
          rw [hwa.2] at h5
          exact (zr_some (hb _) (by omega)).mp h5.symm) ⟨nI d, hs.symm⟩
theorem zs_way {a g : Nat → Int32} {nd nm : Nat} (h : pRel a g nd nm) (man cell k : Int32) : wayC a nd nm man cell k = wayA g nd nm man cell k := by
  have hnd := h.1
  have hnm := h.2.1
  unfold wayC wayA
  by_cases q : (isB man nm && (isB cell 8 && !decide (k < -1))) = true
  · rw [if_pos q, if_pos q]
    rw [Bool.and_eq_true, Bool.and_eq_true] at q
    obtain ⟨mm, hmm, rfl⟩ := isB_nat q.1 (by omega)
    obtain ⟨xx, hxx, rfl⟩ := isB_nat q.2.1 (by omega)
    have hk1 : ¬ k < -1 := by simpa using q.2.2
    rw [show tN (nI mm) = mm from nIc (by omega), show tN (nI xx) = xx from nIc (by omega)]
    obtain ⟨hc1, hc2, hc3⟩ := h.cell hmm
    obtain ⟨F, hB, hb, hN, hL0⟩ := zl_ref (f := fun _ => nI 0) (m := mm) h.2.2.2.2.1 hnd hxx
    have hL : ∀ j, j < 8 → llZ g mm xx nd j = zeR (F j) := hL0
    have hsp : (spM a mm nd).1 xx = zeC (F (ceF g mm)) := by
      unfold spM opM
      rw [hc1]
      exact zs_sp hnd h.2.2.1 h.2.2.2.2.1 (h.one hmm) hc2 hxx hB
    rw [hsp, hL _ hc2, hc1]
    cases e : F (ceF g mm) with
    | none =>
      rw [if_pos (show zeR none = nI 1000000 ∨ zeR none ≤ k from Or.inl rfl)]
      split
      · rfl
      · rfl
    | some n =>
      have hn := hb _ n e
      have hne : ¬ zeR (some n) = nI 1000000 := fun z => absurd ((nI_eq (show n < 2147483648 by omega) (by decide)).mp z) (by omega)
      by_cases e2 : k = -1
      · subst e2
        have hnl : ¬ zeR (some n) ≤ -1 := fun z => by
          have h1 : nI n ≤ -1 := z
          rw [Int32.le_iff_toInt_le, nI_toInt (by omega), show (-1 : Int32).toInt = -1 from rfl] at h1
          omega
        rw [if_pos rfl, if_neg (fun z => z.elim hne hnl)]
        rfl
      · have hk0 : ¬ k < 0 := by
          intro z
          rw [Int32.lt_iff_toInt_lt, show (-1 : Int32).toInt = -1 from rfl] at hk1
          rw [Int32.lt_iff_toInt_lt, show (0 : Int32).toInt = 0 from rfl] at z
          exact e2 (Int32.toInt_inj.mp (by rw [show (-1 : Int32).toInt = -1 from rfl]; omega))
        obtain ⟨kk, hkk, rfl⟩ := nI_of hk0
        rw [if_neg e2]
        show dwC a (opN a a mm (a (63 + mm)) (a (7 + mm)) nd) nd xx (nI n) (nI kk) (tN (nI n)) 0 (ceF g mm) = _
        rw [show tN (nI n) = n from nIc (by omega), zs_dw (cc := ceF g mm) hnd h.2.2.1 h.2.2.2.2.1 (h.one hmm) hxx hB hb hN hL hn hkk n 0 (ceF g mm) rfl (Nat.zero_le _) e ⟨nI n, rfl⟩]
        by_cases e3 : n ≤ kk
        · rw [if_pos e3, if_pos (show zeR (some n) = nI 1000000 ∨ zeR (some n) ≤ nI kk from Or.inr (show nI n ≤ nI kk by rw [nI_leI (by omega) hkk]; exact e3))]
        · rw [if_neg e3, if_neg (fun z => z.elim hne (fun y => e3 ((nI_leI (by omega) hkk).mp y))), nI_toInt hkk, show ((kk : Int) + 1).toNat = kk + 1 by omega]
          rfl
  · rw [if_neg q, if_neg q]
/-! the shortest round: the class's search finds it, too -/
/-- what holds of the class's search: as zvJ, with the class's way to write what is not reached -/
def zwJ (g : Nat → Int32) (m cs nd fr n k : Nat) (b : Bool) (r : Nat → Int32) : Prop := ∃ P F, (∀ j, j < 2048 → r j = zeC (F j)) ∧ zbM (zbEv g m cs nd) 2048 nd fr n k 0 P F ∧ (∀ x j, F x = some j → (j < n ∨ (j = n ∧ x < k)) → ¬ x % 256 = cs) ∧ (b = true ↔ ∃ x, x < k ∧ F x = some n)
theorem zw_eq {F : Nat → Option Nat} {c n : Nat} (hn : n ≤ 2048) (hb : ∀ k, F c = some k → k < 2048) : zeC (F c) = nI n ↔ F c = some n := by
  cases e : F c with
  | none =>
    simp only [zeC, reduceCtorEq, iff_false]
    exact fun z => nI_n4 (show n < 2147483648 by omega) z.symm
  | some v =>
    have := hb v e
    simp only [zeC, Option.some.injEq]
    exact nI_eq (by omega) (by omega)
theorem zwJ_no {g r : Nat → Int32} {m cs nd fr n k : Nat} {b : Bool} (hk : k < 2048) (hn : n ≤ 2048) (h : zwJ g m cs nd fr n k b r) (hne : ¬ r k = nI n) : zwJ g m cs nd fr n (k + 1) b r := by
  obtain ⟨P, F, h1, h2, h3, h4⟩ := h
  have hb : ∀ j, F k = some j → j < 2048 := fun j hj => zbF_lt h2.1 hj
  have hF : ¬ F k = some n := fun z => hne (by rw [h1 k hk]; exact (zw_eq hn hb).mpr z)
  refine ⟨P, F, h1, ⟨h2.1, h2.2.1, fun a e => ?_⟩, fun x j hx hq => ?_, ?_⟩
  · rw [h2.2.2]
    constructor
    · rintro ⟨a1, j, a2, a3⟩
      exact ⟨a1, j, a2, by omega⟩
    · rintro ⟨a1, j, a2, a3⟩
      refine ⟨a1, j, a2, ?_⟩
      have : ¬ (a = k ∧ j = n) := fun z => hF (by rw [← z.1, ← z.2]; exact a2)
      omega
  · have : ¬ (x = k ∧ j = n) := fun z => hF (by rw [← z.1, ← z.2]; exact hx)
    exact h3 x j hx (by omega)
  · rw [h4]
    constructor
    · rintro ⟨x, hx, hF2⟩; exact ⟨x, by omega, hF2⟩
    · rintro ⟨x, hx, hF2⟩
      have : ¬ x = k := fun z => hF (by rw [← z]; exact hF2)
      exact ⟨x, by omega, hF2⟩
theorem zwJ_hit {g r : Nat → Int32} {m cs nd fr n k : Nat} {b : Bool} (hk : k < 2048) (hn : n ≤ 2048) (h : zwJ g m cs nd fr n k b r) (he : r k = nI n) (ht : k % 256 = cs) : isRd (zbEv g m cs nd) nd fr cs (nI n) := by
  obtain ⟨P, F, h1, h2, h3, h4⟩ := h
  have hb : ∀ j, F k = some j → j < 2048 := fun j hj => zbF_lt h2.1 hj
  have hF : F k = some n := (zw_eq hn hb).mp (by rw [← h1 k hk]; exact he)
  refine Or.inl ⟨n, k, hb n hF, rfl, zbF_to h2.1 n k hF, ht, fun j y hj hw => ?_⟩
  obtain ⟨i, hi, hFy⟩ := zbF_near (n := n) h2.1 (fun c d v hv hvn hd => (h2.2.2 c d).mpr ⟨hd, v, hv, Or.inl hvn⟩) j y (by omega) hw
  exact h3 y i hFy (by omega)
theorem rdN_eq {a g : Nat → Int32} {m nd cs x d : Nat} (hD : pDo a g nd) (hd : d < nd) (h : psB g m d (nI (x / 256)) = true) : rdN a cs x d = grN g cs x d := by
  unfold rdN stN grN
  rw [zb_bn hD hd h, Nat.mul_comm, Nat.and_comm]
theorem rd_D {a g : Nat → Int32} {m nd cs x d n : Nat} {wit own : Int32} {r : Nat → Int32} {F : Nat → Option Nat} (hnd : nd ≤ 10) (hD : pDo a g nd) (hW : wfD g nd) (hM : pOne a g m wit own) (hcs : cs < 256) (hx : x < 2048) (hd : d < nd) (hr : ∀ j, j < 2048 → r j = zeC (F j)) (hF : F x = some n) (hb : ∀ t k, F t = some k → k < 2048) : ∀ j, j < 2048 → rdD a (opN a a m wit own nd) cs x d r j = zeC (zbT (zbEv g m cs nd) n x d F j) := by
  unfold rdD
  rw [zb_io hnd hD hW hM hd, zh_has0 (by omega)]
  by_cases z : psB g m d (nI (x / 256)) = true
  · have hE : zbEv g m cs nd x d = some (grN g cs x d) := if_pos ⟨hx, hd, z⟩
    have ht := grN_lt hW hd hcs z
    rw [z, if_pos (show (!false && true) = true from rfl), rdN_eq hD hd z]
    generalize grN g cs x d = t at ht hE
    have hsx : r x = nI n := by rw [hr x hx, hF]; rfl
    cases eF : F t with
    | none =>
      have hst : r t = -4 := by rw [hr t ht, eF]; rfl
      rw [hst, if_neg (show ¬ (0 : Int32) ≤ -4 by decide), zbT_new hE eF]
      intro j hj
      show upd r t (r x + nI 1) j = zeC (if j = t then some (n + 1) else F j)
      by_cases e : j = t
      · rw [e, pk_us, if_pos rfl, hsx, nI_add]; rfl
      · rw [pk_un e, if_neg e]; exact hr j hj
    | some v =>
      have hv := hb t v eF
      have hst : r t = nI v := by rw [hr t ht, eF]; rfl
      rw [hst, if_pos (nI_pos' (by omega)), zbT_old hE (by rw [eF]; simp)]
      exact hr
  · have hE : zbEv g m cs nd x d = none := if_neg (fun y => z y.2.2)
    rw [Bool.eq_false_iff.mpr z, if_neg (show ¬ (!false && false) = true by decide), zbT_none hE]
    exact hr
theorem zwJ_go {a g r : Nat → Int32} {m cs nd fr n k : Nat} {wit own : Int32} {b : Bool} (hnd : nd ≤ 10) (hD : pDo a g nd) (hW : wfD g nd) (hM : pOne a g m wit own) (hcs : cs < 256) (hk : k < 2048) (hn : n ≤ 2048) (h : zwJ g m cs nd fr n k b r) (he : r k = nI n) (ht : ¬ k % 256 = cs) : zwJ g m cs nd fr n (k + 1) true (it (rdD a (opN a a m wit own nd) cs k) nd r) := by
  obtain ⟨P, F, h1, h2, h3, h4⟩ := h
  have hb : ∀ j, F k = some j → j < 2048 := fun j hj => zbF_lt h2.1 hj
  have hF : F k = some n := (zw_eq hn hb).mp (by rw [← h1 k hk]; exact he)
  have hi := zb_it (F := rdD a (opN a a m wit own nd) cs k) (s := r) (fun d s => ∃ P F, (∀ j, j < 2048 → s j = zeC (F j)) ∧ zbM (zbEv g m cs nd) 2048 nd fr n k d P F ∧ F k = some n ∧ ∀ x j, F x = some j → (j < n ∨ (j = n ∧ x < k)) → ¬ x % 256 = cs) nd (fun d s hd hs => by
    obtain ⟨P, F, h1, h2, h5, h3⟩ := hs
    refine ⟨_, _, rd_D hnd hD hW hM hcs hk hd h1 h5 (fun t j hj => zbF_lt h2.1 hj), zbM_step h2 (zbEv_lt hW hcs) h5 hd, zbT_keep h5, fun x j hx hq => ?_⟩
    rcases zbT_or hx with z | ⟨z, -, -⟩
    · exact h3 x j z hq
    · omega) ⟨P, F, h1, h2, hF, h3⟩
  obtain ⟨P2, F2, q1, q2, q3, q4⟩ := hi
  refine ⟨P2, F2, q1, zbM_c q2, fun x j hx hq => ?_, ⟨fun _ => ⟨k, by omega, q3⟩, fun _ => rfl⟩⟩
  by_cases e : x = k
  · subst e; exact ht
  · exact q4 x j hx (by omega)
theorem zwJ_next {g r : Nat → Int32} {m cs nd fr n : Nat} (h : zwJ g m cs nd fr n 2048 true r) : n < 2048 ∧ zwJ g m cs nd fr (n + 1) 0 false r := by
  obtain ⟨P, F, h1, h2, h3, h4⟩ := h
  obtain ⟨x, hx, hF⟩ := h4.mp rfl
  refine ⟨zbF_lt h2.1 hF, P, F, h1, zbM_n h2, fun y j hy hq => ?_, ⟨fun z => absurd z Bool.false_ne_true, fun ⟨y, hy, _⟩ => by omega⟩⟩
  have := h2.1.2.1 y (by rw [hy]; simp)
  exact h3 y j hy (by omega)
theorem zwJ_end {g r : Nat → Int32} {m cs nd fr n : Nat} (h : zwJ g m cs nd fr n 2048 false r) : isRd (zbEv g m cs nd) nd fr cs (-4) := by
  obtain ⟨P, F, h1, h2, h3, h4⟩ := h
  have hno : ∀ x, ¬ F x = some n := fun x hx => absurd (h4.mpr ⟨x, h2.1.2.1 x (by rw [hx]; simp), hx⟩) Bool.false_ne_true
  have hlt : ∀ c k, F c = some k → k < n := fun c k hc => by
    have h5 := h2.2.1.1 c k hc
    have h6 : ¬ k = n := fun z => hno c (by rw [← z]; exact hc)
    have h7 : ¬ k = n + 1 := fun z => by
      rcases h2.1.2.2.2 c k hc with ⟨e, -⟩ | ⟨a, d, j, -, -, -, h8, h9⟩
      · omega
      · exact hno a (by rw [h8, show j = n by omega])
    omega
  have hD : zbD (zbEv g m cs nd) nd fr F := zbD_all h2.1 (fun c d hc hd => by
    cases e : F c with
    | none => exact absurd e hc
    | some k => exact (h2.2.2 c d).mpr ⟨hd, k, e, Or.inl (hlt c k e)⟩)
  refine Or.inr ⟨rfl, fun k y hw => ?_⟩
  obtain ⟨j, -, hy⟩ := zbD_of hD k y hw
  exact h3 y j hy (Or.inl (hlt y j hy))
/-- there is no state 2048 far -/
theorem zwJ_far {g r : Nat → Int32} {m cs nd fr : Nat} (h : zwJ g m cs nd fr 2048 0 false r) : isRd (zbEv g m cs nd) nd fr cs (-4) := by
  obtain ⟨P, F, h1, h2, h3, h4⟩ := h
  have hlt : ∀ c k, F c = some k → k < 2048 := fun c k hc => zbF_lt h2.1 hc
  have hD : zbD (zbEv g m cs nd) nd fr F := zbD_all h2.1 (zbM_all h2)
  refine Or.inr ⟨rfl, fun k y hw => ?_⟩
  obtain ⟨j, -, hy⟩ := zbD_of hD k y hw
  exact h3 y j hy (Or.inl (hlt y j hy))
theorem rd_E {a g : Nat → Int32} {m nd cs fr n : Nat} {wit own : Int32} (hnd : nd ≤ 10) (hD : pDo a g nd) (hW : wfD g nd) (hM : pOne a g m wit own) (hcs : cs < 256) (hn : n ≤ 2048) : ∀ j k b f, k + j = 2048 → zwJ g m cs nd fr n k b f → (rdE a (opN a a m wit own nd) cs nd n j k b f = none ∧ isRd (zbEv g m cs nd) nd fr cs (nI n)) ∨ ∃ b2 f2, rdE a (opN a a m wit own nd) cs nd n j k b f = some (b2, f2) ∧ zwJ g m cs nd fr n 2048 b2 f2 := by
  intro j
  induction j with
  | zero => intro k b f hk h; exact Or.inr ⟨b, f, rfl, by rw [show 2048 = k by omega]; exact h⟩
  | succ j ih =>
    intro k b f hk h
    rw [rdE]
    by_cases he : f k = nI n
    · rw [if_pos he]
      by_cases ht : k % 256 = cs
      · rw [if_pos ht]; exact Or.inl ⟨rfl, zwJ_hit (by omega) hn h he ht⟩
      · rw [if_neg ht]; exact ih (k + 1) true _ (by omega) (zwJ_go hnd hD hW hM hcs (by omega) hn h he ht)
    · rw [if_neg he]; exact ih (k + 1) b f (by omega) (zwJ_no (by omega) hn h he)
theorem rd_run {a g : Nat → Int32} {m nd cs fr : Nat} {wit own : Int32} (hnd : nd ≤ 10) (hD : pDo a g nd) (hW : wfD g nd) (hM : pOne a g m wit own) (hcs : cs < 256) : ∀ j n f, j + n = 2048 → zwJ g m cs nd fr n 0 false f → isRd (zbEv g m cs nd) nd fr cs (rdR a (opN a a m wit own nd) cs nd j n true f) := by
  intro j
  induction j with
  | zero =>
    intro n f hn h
    have e : n = 2048 := by omega
    subst e
    exact zwJ_far h
  | succ j ih =>
    intro n f hn h
    rw [rdR, if_neg (by decide)]
    rcases rd_E (fr := fr) hnd hD hW hM hcs (show n ≤ 2048 by omega) 2048 0 false f rfl h with ⟨h1, h2⟩ | ⟨b2, f2, h1, h2⟩
    · rw [h1]; exact h2
    · rw [h1]
      cases b2 with
      | false =>
        show isRd (zbEv g m cs nd) nd fr cs (rdR a (opN a a m wit own nd) cs nd j (n + 1) false f2)
        rw [rdR_stop rfl]
        exact zwJ_end h2
      | true => exact ih (n + 1) f2 (by omega) (zwJ_next h2).2
theorem zs_round {a g : Nat → Int32} {nd nm : Nat} (h : pRel a g nd nm) (man cells : Int32) : rdA1 g nd nm man cells (roundC a nd nm man cells) := by
  have hnd := h.1
  have hnm := h.2.1
  unfold rdA1 roundC
  by_cases q : (isB man nm && isB cells 256) = true
  · rw [if_pos q, if_pos q]
    rw [Bool.and_eq_true] at q
    obtain ⟨mm, hmm, rfl⟩ := isB_nat q.1 (by omega)
    obtain ⟨cs, hcs, rfl⟩ := isB_nat q.2 (by omega)
    rw [show tN (nI mm) = mm from nIc (by omega), show tN (nI cs) = cs from nIc (by omega)]
    obtain ⟨hc1, hc2, hc3⟩ := h.cell hmm
    rw [hc1]
    have hfr := rdS_lt hcs hc2
    have e : rdF cs (ceF g mm) = rdS cs (ceF g mm) := by unfold rdF stN rdS; rw [Nat.zero_or, Nat.mul_comm, Nat.and_comm]
    unfold rdC opM
    refine rd_run hnd h.2.2.1 h.2.2.2.2.1 (h.one hmm) hcs 2048 0 _ rfl ⟨_, _, fun j hj => ?_, zbM_0 hfr, fun x j _ h => by omega, ⟨fun z => absurd z Bool.false_ne_true, fun ⟨x, hx, _⟩ => by omega⟩⟩
    show upd (filI (fun _ => nI 0) (-4) 2048) (rdF cs (ceF g mm)) (nI 0) j = zeC (zbF0 (rdS cs (ceF g mm)) j)
    rw [e]
    unfold zbF0
    by_cases z : j = rdS cs (ceF g mm)
    · rw [z, pk_us, if_pos rfl]; rfl
    · rw [pk_un z, if_neg z]; exact if_pos hj
  · rw [if_neg q, if_neg q]
