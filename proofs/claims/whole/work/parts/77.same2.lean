/-! WAY: both say the same -/
theorem zr_some {F : Nat → Option Nat} {t v : Nat} (hb : ∀ k, F t = some k → k < 8) (hv : v < 8) : zeR (F t) = nI v ↔ F t = some v := zr_eq hv hb
theorem zc_some {F : Nat → Option Nat} {t v : Nat} (hb : ∀ k, F t = some k → k < 8) (hv : v < 8) : zeC (F t) = nI v ↔ F t = some v := by
  cases e : F t with
  | none =>
    simp only [zeC, reduceCtorEq, iff_false]
    exact fun z => nI_n4 (show v < 2147483648 by omega) z.symm
  | some w =>
    have := hb w e
    simp only [zeC, Option.some.injEq]
    exact nI_eq (by omega) (by omega)
theorem zs_sp {a g : Nat → Int32} {m nd cell c : Nat} {wit own : Int32} {F : Nat → Option Nat} (hnd : nd ≤ 10) (hD : pDo a g nd) (hW : wfD g nd) (hM : pOne a g m wit own) (hc : c < 8) (hcell : cell < 8) (hB : zbB (zbEr g m (nI 0) nd) nd cell F) : (spZ a (opN a a m wit own nd) (nI 0) c nd).1 cell = zeC (F c) := by
  obtain ⟨D, H, h1, -, h2⟩ := zb_both (nI 0) hnd hD hW hM hc
  rw [(h2 cell hcell).1, zbB_D h1.1 hB]
theorem zs_fd {a g : Nat → Int32} {m nd cell here n : Nat} {wit own : Int32} {F : Nat → Option Nat} (hnd : nd ≤ 10) (hD : pDo a g nd) (hW : wfD g nd) (hM : pOne a g m wit own) (hh : here < 8) (hcell : cell < 8) (hB : zbB (zbEr g m (nI 0) nd) nd cell F) (hb : ∀ t k, F t = some k → k < 8) (hL : ∀ j, j < 8 → llZ g m cell nd j = zeR (F j)) (hn : n < 8) (hF : F here = some (n + 1)) : fdC a (opN a a m wit own nd) nd here cell (nI (n + 1)) = wyD g (llZ g m cell nd) m nd here := by
  unfold fdC wyD
  refine seI_cong nd 0 (fun d _ hd => ?_)
  have hd2 : d < nd := by omega
  unfold fdP wyP
  rw [zb_io hnd hD hW hM hd2, zh_has0 (by omega)]
  by_cases z : psB g m d (nI here) = true
  · have ht := (ps_ok hW hd2 z).2
    rw [z, zb_bn hD hd2 z, zs_sp hnd hD hW hM ht hcell hB, hL _ ht, hL here hh, hF]
    have e1 : nI (n + 1) - nI 1 = nI n := pk_sub (by omega)
    have e2 : zeR (some (n + 1)) - nI 1 = nI n := e1
    rw [e1, e2, Bool.eq_iff_iff]
    simp only [Bool.not_false, Bool.true_and, decide_eq_true_iff]
    rw [zc_some (hb _) hn, zr_some (hb _) hn]
  · rw [Bool.eq_false_iff.mpr z, Bool.and_false, Bool.false_and, Bool.false_and]
theorem zs_dw {a g : Nat → Int32} {m nd cell cc n kk : Nat} {wit own : Int32} {F : Nat → Option Nat} (hnd : nd ≤ 10) (hD : pDo a g nd) (hW : wfD g nd) (hM : pOne a g m wit own) (hcell : cell < 8) (hB : zbB (zbEr g m (nI 0) nd) nd cell F) (hb : ∀ t k, F t = some k → k < 8) (hN : ∀ t, F t ≠ none → t < 8) (hL : ∀ j, j < 8 → llZ g m cell nd j = zeR (F j)) (hn : n < 8) (hkk : kk < 2147483648) : ∀ f done here, f + done = n → done ≤ kk → F here = some f → (∃ dr, (here, dr) = it (wyS g (llZ g m cell nd) m nd) done (cc, nI n)) → dwC a (opN a a m wit own nd) nd cell (nI n) (nI kk) f done here = if n ≤ kk then -4 else (it (wyS g (llZ g m cell nd) m nd) (kk + 1) (cc, nI n)).2
  | 0, done, here, h1, h2, _, _ => by rw [if_pos (show n ≤ kk by omega)]; rfl
  | f + 1, done, here, h1, h2, h3, h4 => by
    have hh : here < 8 := hN here (by rw [h3]; simp)
    have e0 : nI n - nI done = nI (f + 1) := by rw [show nI n - nI done = nI (n - done) from pk_sub (by omega)]; congr 1; omega
    have hLh : llZ g m cell nd here = nI (f + 1) := by rw [hL here hh, h3]; rfl
    obtain ⟨d0, hd0, hw0⟩ := wy_on hW hnd hcell hh (by omega) hLh
    rw [dwC, e0, zs_fd hnd hD hW hM hh hcell hB hb hL (by omega) h3]
    obtain ⟨dr, hdr⟩ := h4
    rcases seI_or (P := wyP g (llZ g m cell nd) m here) nd 0 with ⟨-, z⟩ | ⟨d, -, hd, ed, hwd, -⟩
    · rw [z d0 (Nat.zero_le _) (by omega)] at hw0
      exact absurd hw0 (by decide)
    · have ed2 : wyD g (llZ g m cell nd) m nd here = nI d := ed
      have hd2 : d < nd := by omega
      have hs : it (wyS g (llZ g m cell nd) m nd) (done + 1) (cc, nI n) = (btF g d here, nI d) := by
        rw [it_s, ← hdr]
        show (btF g (tN (wyD g (llZ g m cell nd) m nd here)) here, wyD g (llZ g m cell nd) m nd here) = _
        rw [ed2, show tN (nI d) = d from nIc (by omega)]
      rw [ed2]
      by_cases e : done = kk
      · rw [if_pos (Or.inr (by rw [e])), if_neg (show ¬ n ≤ kk by omega), ← e, hs]
      · rw [if_neg (fun z => z.elim (nI_pos (by omega)) (fun y => e ((nI_eq (by omega) hkk).mp y))), show tN (nI d) = d from nIc (by omega)]
        have hps : psB g m d (nI here) = true := by unfold wyP at hwd; rw [Bool.and_eq_true] at hwd; exact hwd.1
        rw [zb_bn hD hd2 hps]
        have hwa := wyP_at hW hd2 hwd hLh
        exact zs_dw hnd hD hW hM hcell hB hb hN hL hn hkk f (done + 1) (btF g d here) (by omega) (by omega) (by
          have h5 := hL _ hwa.1
          rw [hwa.2] at h5
          exact (zr_some (hb _) (by omega)).mp h5.symm) ⟨nI d, hs.symm⟩
theorem zs_way {a g : Nat → Int32} {nd nm : Nat} (h : pRel a g nd nm) (man cell k : Int32) : wayC a nd nm man cell k = wayA g nd nm man cell k := by
  have hnd := h.1
  have hnm := h.2.1
  unfold wayC wayA
  by_cases q : (isB man nm && (isB cell 8 && !decide (k < -1))) = true
  · rw [if_pos q, if_pos q]
    rw [Bool.and_eq_true, Bool.and_eq_true] at q
    obtain ⟨mm, hmm, rfl⟩ := isB_nat q.1 (by omega)
    obtain ⟨xx, hxx, rfl⟩ := isB_nat q.2.1 (by omega)
    have hk1 : ¬ k < -1 := by simpa using q.2.2
    rw [show tN (nI mm) = mm from nIc (by omega), show tN (nI xx) = xx from nIc (by omega)]
    obtain ⟨hc1, hc2, hc3⟩ := h.cell hmm
    obtain ⟨F, hB, hb, hN, hL0⟩ := zl_ref (f := fun _ => nI 0) (m := mm) h.2.2.2.2.1 hnd hxx
    have hL : ∀ j, j < 8 → llZ g mm xx nd j = zeR (F j) := hL0
    have hsp : (spM a mm nd).1 xx = zeC (F (ceF g mm)) := by
      unfold spM opM
      rw [hc1]
      exact zs_sp hnd h.2.2.1 h.2.2.2.2.1 (h.one hmm) hc2 hxx hB
    rw [hsp, hL _ hc2, hc1]
    cases e : F (ceF g mm) with
    | none =>
      rw [if_pos (show zeR none = nI 1000000 ∨ zeR none ≤ k from Or.inl rfl)]
      split
      · rfl
      · rfl
    | some n =>
      have hn := hb _ n e
      have hne : ¬ zeR (some n) = nI 1000000 := fun z => absurd ((nI_eq (show n < 2147483648 by omega) (by decide)).mp z) (by omega)
      by_cases e2 : k = -1
      · subst e2
        have hnl : ¬ zeR (some n) ≤ -1 := fun z => by
          have h1 : nI n ≤ -1 := z
          rw [Int32.le_iff_toInt_le, nI_toInt (by omega), show (-1 : Int32).toInt = -1 from rfl] at h1
          omega
        rw [if_pos rfl, if_neg (fun z => z.elim hne hnl)]
        rfl
      · have hk0 : ¬ k < 0 := by
          intro z
          rw [Int32.lt_iff_toInt_lt, show (-1 : Int32).toInt = -1 from rfl] at hk1
          rw [Int32.lt_iff_toInt_lt, show (0 : Int32).toInt = 0 from rfl] at z
          exact e2 (Int32.toInt_inj.mp (by rw [show (-1 : Int32).toInt = -1 from rfl]; omega))
        obtain ⟨kk, hkk, rfl⟩ := nI_of hk0
        rw [if_neg e2]
        show dwC a (opN a a mm (a (63 + mm)) (a (7 + mm)) nd) nd xx (nI n) (nI kk) (tN (nI n)) 0 (ceF g mm) = _
        rw [show tN (nI n) = n from nIc (by omega), zs_dw (cc := ceF g mm) hnd h.2.2.1 h.2.2.2.2.1 (h.one hmm) hxx hB hb hN hL hn hkk n 0 (ceF g mm) rfl (Nat.zero_le _) e ⟨nI n, rfl⟩]
        by_cases e3 : n ≤ kk
        · rw [if_pos e3, if_pos (show zeR (some n) = nI 1000000 ∨ zeR (some n) ≤ nI kk from Or.inr (show nI n ≤ nI kk by rw [nI_leI (by omega) hkk]; exact e3))]
        · rw [if_neg e3, if_neg (fun z => z.elim hne (fun y => e3 ((nI_leI (by omega) hkk).mp y))), nI_toInt hkk, show ((kk : Int) + 1).toNat = kk + 1 by omega]
          rfl
  · rw [if_neg q, if_neg q]
/-! the shortest round: the class's search finds it, too -/
def rdP (s : rd3) (F : Nat → Option Nat) (q : (Nat → Nat) × Nat) : Prop := (∀ j, j < 2048 → s.1 j = zeC (F j)) ∧ s.2.2 = q.2 ∧ ∀ i, i < q.2 → s.2.1 i = nI (q.1 i)
theorem rdN_eq {a g : Nat → Int32} {m nd cs x d : Nat} (hD : pDo a g nd) (hd : d < nd) (h : psB g m d (nI (x / 256)) = true) : rdN a cs x d = grN g cs x d := by
  unfold rdN grN
  rw [zb_bn hD hd h, Nat.mul_comm, Nat.and_comm]
theorem rd_D {a g : Nat → Int32} {m nd cs x d n : Nat} {wit own : Int32} {s : rd3} {F : Nat → Option Nat} {q : (Nat → Nat) × Nat} (hnd : nd ≤ 10) (hD : pDo a g nd) (hW : wfD g nd) (hM : pOne a g m wit own) (hcs : cs < 256) (hx : x < 2048) (hd : d < nd) (hr : rdP s F q) (hF : F x = some n) (hb : ∀ t k, F t = some k → k < 2048) : rdP (rdD a (opN a a m wit own nd) cs x d s) (zbT (zbEv g m cs nd) n x d F) (zbX (zbEv g m cs nd) x d F q) := by
  obtain ⟨r1, r2, r3⟩ := hr
  unfold rdD
  rw [zb_io hnd hD hW hM hd, zh_has0 (by omega)]
  by_cases z : psB g m d (nI (x / 256)) = true
  · have hE : zbEv g m cs nd x d = some (grN g cs x d) := if_pos ⟨hx, hd, z⟩
    have ht := grN_lt hW hd hcs z
    rw [z, if_pos (show (!false && true) = true from rfl), rdN_eq hD hd z]
    generalize grN g cs x d = t at ht hE
    have hsx : s.1 x = nI n := by rw [r1 x hx, hF]; rfl
    cases eF : F t with
    | none =>
      have hst : s.1 t = -4 := by rw [r1 t ht, eF]; rfl
      rw [hst, if_neg (show ¬ (0 : Int32) ≤ -4 by decide), zbT_new hE eF, zbX_new hE eF]
      refine ⟨fun j hj => ?_, ?_, fun i hi => ?_⟩
      · show upd s.1 t (s.1 x + nI 1) j = zeC (if j = t then some (n + 1) else F j)
        by_cases e : j = t
        · rw [e, pk_us, if_pos rfl, hsx, nI_add]; rfl
        · rw [pk_un e, if_neg e]; exact r1 j hj
      · show s.2.2 + 1 = q.2 + 1
        rw [r2]
      · show upd s.2.1 s.2.2 (nI t) i = nI (if i = q.2 then t else q.1 i)
        rw [r2]
        have hi3 : i < q.2 + 1 := hi
        by_cases e : i = q.2
        · rw [e, pk_us, if_pos rfl]
        · rw [pk_un e, if_neg e]; exact r3 i (by omega)
    | some v =>
      have hv := hb t v eF
      have hst : s.1 t = nI v := by rw [r1 t ht, eF]; rfl
      rw [hst, if_pos (nI_pos' (by omega)), zbT_old hE (by rw [eF]; simp), zbX_old hE (by rw [eF]; simp)]
      exact ⟨r1, r2, r3⟩
  · have hE : zbEv g m cs nd x d = none := if_neg (fun y => z y.2.2)
    rw [Bool.eq_false_iff.mpr z, if_neg (show ¬ (!false && false) = true by decide), zbT_none hE, zbX_none hE]
    exact ⟨r1, r2, r3⟩
theorem rd_K {a g : Nat → Int32} {m nd cs fr k : Nat} {wit own : Int32} {s : rd3} {P : Nat → Nat → Bool} {F : Nat → Option Nat} {q : (Nat → Nat) × Nat} (hnd : nd ≤ 10) (hD : pDo a g nd) (hW : wfD g nd) (hM : pOne a g m wit own) (hcs : cs < 256) (hr : rdP s F q) (hK : zbK (zbEv g m cs nd) 2048 nd fr k 0 P F q) (hk : k < q.2) : ∃ P2 F2 q2, rdP (it (rdD a (opN a a m wit own nd) cs (q.1 k)) nd s) F2 q2 ∧ zbK (zbEv g m cs nd) 2048 nd fr (k + 1) 0 P2 F2 q2 ∧ ∀ i, i < k + 1 → q2.1 i = q.1 i := by
  have hi := zb_it (F := rdD a (opN a a m wit own nd) cs (q.1 k)) (s := s) (fun d s => ∃ P2 F2 q2, rdP s F2 q2 ∧ zbK (zbEv g m cs nd) 2048 nd fr k d P2 F2 q2 ∧ k < q2.2 ∧ ∀ i, i < k + 1 → q2.1 i = q.1 i) nd (fun d s hd hs => by
    obtain ⟨P2, F2, q2, h1, h2, h3, h4⟩ := hs
    obtain ⟨n, hn, hO⟩ := h2.2.2.1 h3
    have e : q2.1 k = q.1 k := h4 k (by omega)
    have hx : q.1 k < 2048 := by rw [← e]; exact h2.1.2.1 _ (by rw [hn]; simp)
    have hst := zbK_step h2 (zbEv_lt hW hcs) h3 hn hd
    rw [e] at hst hn
    obtain ⟨hx1, hx2⟩ := zbX_le (E := zbEv g m cs nd) (c := q.1 k) (d := d) (F := F2) (q := q2)
    exact ⟨_, _, _, rd_D hnd hD hW hM hcs hx hd h1 hn (fun t j hj => zbF_lt h2.1 hj), hst, by omega, fun i hi => by rw [hx2 i (by omega)]; exact h4 i hi⟩) ⟨P, F, q, hr, hK, hk, fun _ _ => rfl⟩
  obtain ⟨P2, F2, q2, h1, h2, h3, h4⟩ := hi
  exact ⟨P2, F2, q2, h1, zbK_next h2 h3, h4⟩
theorem rd_end {g : Nat → Int32} {m nd cs fr k : Nat} {P : Nat → Nat → Bool} {F : Nat → Option Nat} {q : (Nat → Nat) × Nat} (hK : zbK (zbEv g m cs nd) 2048 nd fr k 0 P F q) (hk : q.2 ≤ k) (hno : ∀ i, i < k → i < q.2 → ¬ q.1 i % 256 = cs) : isRd (zbEv g m cs nd) nd fr cs (-4) := by
  have hD : zbD (zbEv g m cs nd) nd fr F := zbD_all hK.1 (zbK_all hK hk)
  refine Or.inr ⟨rfl, fun j y hw => ?_⟩
  obtain ⟨v, -, hy⟩ := zbD_of hD j y hw
  obtain ⟨i, hi, e⟩ := hK.2.1.2.2.1 y (by rw [hy]; simp)
  rw [← e]
  exact hno i (by omega) hi
theorem rd_hit {g : Nat → Int32} {m nd cs fr k n : Nat} {P : Nat → Nat → Bool} {F : Nat → Option Nat} {q : (Nat → Nat) × Nat} (hK : zbK (zbEv g m cs nd) 2048 nd fr k 0 P F q) (hk : k < q.2) (hn : F (q.1 k) = some n) (ht : q.1 k % 256 = cs) (hno : ∀ i, i < k → i < q.2 → ¬ q.1 i % 256 = cs) : isRd (zbEv g m cs nd) nd fr cs (nI n) := by
  have hidx : ∀ c v, F c = some v → v < n → ∃ i, i < k ∧ i < q.2 ∧ q.1 i = c := fun c v hc hv => by
    obtain ⟨i, hi, e⟩ := hK.2.1.2.2.1 c (by rw [hc]; simp)
    refine ⟨i, ?_, hi, e⟩
    apply Decidable.byContradiction
    intro z
    have := hK.2.1.2.2.2 k i n v (by omega) hi hn (by rw [e]; exact hc)
    omega
  refine Or.inl ⟨n, q.1 k, zbF_lt hK.1 hn, rfl, zbF_to hK.1 n _ hn, ht, fun j y hj hw => ?_⟩
  obtain ⟨v, hv, hy⟩ := zbF_near (n := n) hK.1 (fun c d v hc hvn hd => by
    obtain ⟨i, h1, h2, h3⟩ := hidx c v hc hvn
    exact (hK.2.2.2 c d).mpr (Or.inl ⟨hd, i, h1, h2, h3⟩)) j y (by omega) hw
  obtain ⟨i, h1, h2, h3⟩ := hidx y v hy (by omega)
  rw [← h3]
  exact hno i h1 h2
theorem rd_run {a g : Nat → Int32} {m nd cs fr : Nat} {wit own : Int32} (hnd : nd ≤ 10) (hD : pDo a g nd) (hW : wfD g nd) (hM : pOne a g m wit own) (hcs : cs < 256) : ∀ f k s P F q, f + k = 2048 → rdP s F q → zbK (zbEv g m cs nd) 2048 nd fr k 0 P F q → (∀ i, i < k → i < q.2 → ¬ q.1 i % 256 = cs) → isRd (zbEv g m cs nd) nd fr cs (rdR a (opN a a m wit own nd) cs nd f k s)
  | 0, k, s, P, F, q, hk, hr, hK, hno => rd_end hK (by have := zbQ_le hK.1 hK.2.1; omega) hno
  | f + 1, k, s, P, F, q, hk, hr, hK, hno => by
    rw [rdR]
    by_cases h : s.2.2 ≤ k
    · rw [if_pos h]
      exact rd_end hK (by rw [← hr.2.1]; exact h) hno
    · rw [if_neg h]
      have hk2 : k < q.2 := by rw [← hr.2.1]; omega
      obtain ⟨n, hn, hO⟩ := hK.2.2.1 hk2
      have hx : q.1 k < 2048 := hK.1.2.1 _ (by rw [hn]; simp)
      rw [hr.2.2 k hk2, show tN (nI (q.1 k)) = q.1 k from nIc (by omega)]
      by_cases ht : q.1 k % 256 = cs
      · rw [if_pos ht, hr.1 _ hx, hn]
        exact rd_hit hK hk2 hn ht hno
      · rw [if_neg ht]
        obtain ⟨P2, F2, q2, h1, h2, h3⟩ := rd_K hnd hD hW hM hcs hr hK hk2
        refine rd_run hnd hD hW hM hcs f (k + 1) _ P2 F2 q2 (by omega) h1 h2 (fun i hi _ => ?_)
        rw [h3 i hi]
        by_cases e : i = k
        · rw [e]; exact ht
        · exact hno i (by omega) (by omega)
theorem zs_round {a g : Nat → Int32} {nd nm : Nat} (h : pRel a g nd nm) (man cells : Int32) : rdA1 g nd nm man cells (roundC a nd nm man cells) := by
  have hnd := h.1
  have hnm := h.2.1
  unfold rdA1 roundC
  by_cases q : (isB man nm && isB cells 256) = true
  · rw [if_pos q, if_pos q]
    rw [Bool.and_eq_true] at q
    obtain ⟨mm, hmm, rfl⟩ := isB_nat q.1 (by omega)
    obtain ⟨cs, hcs, rfl⟩ := isB_nat q.2 (by omega)
    rw [show tN (nI mm) = mm from nIc (by omega), show tN (nI cs) = cs from nIc (by omega)]
    obtain ⟨hc1, hc2, hc3⟩ := h.cell hmm
    rw [hc1]
    have hfr := rdS_lt hcs hc2
    have e : rdF cs (ceF g mm) = rdS cs (ceF g mm) := by unfold rdF rdS; rw [Nat.mul_comm, Nat.and_comm]
    unfold rdC opM
    refine rd_run hnd h.2.2.1 h.2.2.2.2.1 (h.one hmm) hcs 2048 0 _ _ _ _ rfl ⟨fun j hj => ?_, rfl, fun i hi => ?_⟩ (zbK_0 hfr) (fun i hi => absurd hi (Nat.not_lt_zero _))
    · show upd (filI (fun _ => nI 0) (-4) 2048) (rdF cs (ceF g mm)) (nI 0) j = zeC (zbF0 (rdS cs (ceF g mm)) j)
      rw [e]
      unfold zbF0
      by_cases z : j = rdS cs (ceF g mm)
      · rw [z, pk_us, if_pos rfl]; rfl
      · rw [pk_un z, if_neg z]; exact if_pos hj
    · have z : i = 0 := Nat.lt_one_iff.mp hi
      rw [z]
      show upd (fun _ => nI 0) 0 (nI (rdF cs (ceF g mm))) 0 = nI (rdS cs (ceF g mm))
      rw [e, pk_us]
  · rw [if_neg q, if_neg q]
