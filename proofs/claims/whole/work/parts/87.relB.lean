/-! what is asked of a prison as it is: alike -/
theorem ps_op {a g : Nat → Int32} {nd nm m d : Nat} (h : pRel a g nd nm) (hm : m < nm) (hd : d < nd) : opB a a m d = psB g m d (g (51 + m)) ∧ atB a d (a (51 + m)) = decide (¬ bhF g d (g (51 + m)) = -4) ∧ pwM a a m d = paF g m d (g (51 + m)) ∧ paB a a m d d = (hasB (g (55 + m)) d || !decide (paF g m d (g (51 + m)) < g (41 + d))) := by
  obtain ⟨q1, q2, q3, q4, q5, q6⟩ := h.2.2.2.1 m hm
  obtain ⟨-, -, d3, d4⟩ := h.2.2.1 d hd
  have e1 : atB a d (a (51 + m)) = decide (¬ bhF g d (g (51 + m)) = -4) := by rw [q3]; exact zb_at h.2.2.1 h.2.2.2.2.1 hd
  have e2 : pwM a a m d = paF g m d (g (51 + m)) := by unfold pwM paF; rw [q1, q2, q3, q5, q6, d3]
  have e3 : paB a a m d d = (hasB (g (55 + m)) d || !decide (paF g m d (g (51 + m)) < g (41 + d))) := by unfold paB; rw [e2, q4, d4]
  exact ⟨by unfold opB psB; rw [e1, e3], e1, e2, e3⟩
theorem or_if {b : Bool} {x y : Int32} : (if b = true then x ||| y else x) = x ||| (if b = true then y else nI 0) := by
  cases b with
  | true => rfl
  | false => rw [if_neg (by decide), if_neg (by decide), nI_0, Int32.or_zero]
theorem mk_kn {a g : Nat → Int32} {nd nm d : Nat} (h : pRel a g nd nm) : ∀ n, n ≤ nm → mkF a d n = knF g d n
  | 0, _ => rfl
  | n + 1, hn => by
    obtain ⟨q1, q2, q3, q4, q5, q6⟩ := h.2.2.2.1 n (by omega)
    rw [mkF, knF, mk_kn h n (by omega), q4, or_if]
theorem mp_pm {a g : Nat → Int32} {nd nm d : Nat} (h : pRel a g nd nm) (hd : d < nd) : ∀ n, n ≤ nm → mpF a d n = pmF g d n
  | 0, _ => rfl
  | n + 1, hn => by rw [mpF, pmF, mp_pm h hd n (by omega), (ps_op h (by omega) hd).1, or_if]
theorem do_po {a g : Nat → Int32} {nd nm m : Nat} (h : pRel a g nd nm) (hm : m < nm) : ∀ n, n ≤ nd → doF a a m n = poF g m (g (51 + m)) n
  | 0, _ => rfl
  | n + 1, hn => by rw [doF, poF, do_po h hm n (by omega), (ps_op h hm (by omega)).1, or_if]
theorem zs_of {a g : Nat → Int32} {nd nm : Nat} (h : pRel a g nd nm) (door what : Int32) : ofC a nd nm door what = ofF g nd nm door what := by
  have hnd := h.1
  unfold ofC ofF
  by_cases q : isB door nd = true
  · rw [if_pos q, if_pos q]
    obtain ⟨dd, hdd, rfl⟩ := isB_nat q (by omega)
    rw [show tN (nI dd) = dd from nIc (by omega), show (nI dd).toNatClampNeg = dd from nIc (by omega)]
    obtain ⟨d1, d2, d3, d4⟩ := h.2.2.1 dd hdd
    rw [d1, d2, d3, d4, mk_kn h nm (Nat.le_refl _), mp_pm h hdd nm (Nat.le_refl _)]
  · rw [if_neg q, if_neg q]
theorem zs_at {a g : Nat → Int32} {nd nm : Nat} (h : pRel a g nd nm) (man what : Int32) : atC a nd nm man what = atF g nd nm man what := by
  have hnm := h.2.1
  unfold atC atF
  by_cases q : isB man nm = true
  · rw [if_pos q, if_pos q]
    obtain ⟨mm, hmm, rfl⟩ := isB_nat q (by omega)
    rw [show tN (nI mm) = mm from nIc (by omega), show (nI mm).toNatClampNeg = mm from nIc (by omega)]
    obtain ⟨q1, q2, q3, q4, q5, q6⟩ := h.2.2.2.1 mm hmm
    rw [q1, q2, q3, q4, q5, q6, do_po h hmm nd (Nat.le_refl _)]
  · rw [if_neg q, if_neg q]
theorem zs_power {a g : Nat → Int32} {nd nm : Nat} (h : pRel a g nd nm) (man door : Int32) : powC a nd nm man door = powF g nd nm man door := by
  have hnd := h.1
  have hnm := h.2.1
  unfold powC powF
  by_cases q : (isB man nm && isB door nd) = true
  · rw [if_pos q]
    rw [Bool.and_eq_true] at q
    rw [if_pos q]
    obtain ⟨mm, hmm, rfl⟩ := isB_nat q.1 (by omega)
    obtain ⟨dd, hdd, rfl⟩ := isB_nat q.2 (by omega)
    rw [show tN (nI mm) = mm from nIc (by omega), show (nI mm).toNatClampNeg = mm from nIc (by omega), show tN (nI dd) = dd from nIc (by omega), show (nI dd).toNatClampNeg = dd from nIc (by omega)]
    obtain ⟨-, e1, e2, -⟩ := ps_op h hmm hdd
    rw [e1, e2]
    by_cases z : bhF g dd (g (51 + mm)) = -4
    · rw [if_neg (by rw [decide_eq_false (fun y => y z)]; decide), if_pos z]
    · rw [if_pos (decide_eq_true z), if_neg z]
  · rw [if_neg q, if_neg (fun z => q (by rw [Bool.and_eq_true]; exact z))]
theorem hs_c {a g : Nat → Int32} {nd nm : Nat} (h : pRel a g nd nm) : ∀ n, n ≤ nd → hsF a n = hsF g n
  | 0, _ => rfl
  | n + 1, hn => by rw [hsF, hsF, hs_c h n (by omega), (h.2.2.1 n (by omega)).2.2.2]
theorem fs_c {a g : Nat → Int32} {nd nm : Nat} (h : pRel a g nd nm) : ∀ n, n ≤ nm → fsF a n = fsF g n
  | 0, _ => rfl
  | n + 1, hn => by rw [fsF, fsF, fs_c h n (by omega), (h.2.2.2.1 n (by omega)).2.2.2.2.1]
theorem cl_c {a g : Nat → Int32} {nd nm : Nat} (h : pRel a g nd nm) : ∀ n, n ≤ nm → clF a n = clF g n
  | 0, _ => rfl
  | n + 1, hn => by rw [clF, clF, cl_c h n (by omega), (h.2.2.2.1 n (by omega)).2.2.1]
theorem zs_count {a g : Nat → Int32} {nd nm : Nat} (h : pRel a g nd nm) (z what : Int32) : cntC a nd nm z what = cntF g nd nm z what := by
  unfold cntC cntF
  rw [hs_c h nd (Nat.le_refl _), fs_c h nm (Nat.le_refl _), cl_c h nm (Nat.le_refl _)]
/-! what is tried -/
theorem fa_eq {f : Nat} (hf : f ≤ 99) : ∃ k, k ≤ 99 ∧ faF (nI f) = nI k ∧ nI f + (if nI 99 ≤ nI f then nI 0 else nI 1) = nI k := by
  unfold faF
  rw [nI_add]
  by_cases e : f = 99
  · subst e
    exact ⟨99, Nat.le_refl _, by decide, by decide⟩
  · refine ⟨f + 1, by omega, ?_, ?_⟩
    · rw [if_neg (by rw [nI_ltI (by decide) (by omega)]; omega)]
    · rw [if_neg (by rw [nI_leI (by decide) (by omega)]; omega), nI_add]
theorem lt_tr {a g : Nat → Int32} {nd nm m d : Nat} (h : prR a g nd nm) (hm : m < nm) (hd : d < nd) : prR (ltR a a m d) (triesR g m d) nd nm := by
  obtain ⟨e0, e1, -, e3⟩ := ps_op h.1 hm hd
  obtain ⟨q1, q2, q3, q4, q5, q6⟩ := h.1.2.2.2.1 m hm
  obtain ⟨⟨c, hc, ec⟩, ⟨f, hf, ef⟩, -⟩ := h.1.2.2.2.2.2 m hm
  unfold ltR triesR
  by_cases z : bhF g d (g (51 + m)) = -4
  · rw [if_pos (by rw [e1, decide_eq_false (fun y => y z)]), if_pos z]; exact h
  · rw [if_neg (by rw [e1, decide_eq_true z]; decide), if_neg z]
    by_cases y : (hasB (g (55 + m)) d || !decide (paF g m d (g (51 + m)) < g (41 + d))) = true
    · have hp : psB g m d (g (51 + m)) = true := by unfold psB; rw [decide_eq_true z, y]; rfl
      rw [if_neg (by rw [e3, y]; decide), if_pos hp, q3, zb_be h.1.2.2.1 hd z]
      rw [ec] at z ⊢
      obtain ⟨b1, b2⟩ := bt_ok h.1.2.2.2.2.1 hd z
      exact prR_man h hm (Or.inl ⟨rfl, _, b2, b1⟩)
    · have y2 := Bool.eq_false_iff.mpr y
      have hp : ¬ psB g m d (g (51 + m)) = true := by unfold psB; rw [y2, Bool.and_false]; decide
      rw [if_pos (by rw [e3]; exact y2), if_neg hp, q5, ef]
      obtain ⟨k, hk, e4, e5⟩ := fa_eq hf
      rw [e4, e5]
      exact prR_man h hm (Or.inr (Or.inr (Or.inl ⟨rfl, k, hk, rfl⟩)))
theorem tr_lo {g : Nat → Int32} {m d : Nat} (hm : m < 4) : (∀ i, i < 31 → triesR g m d i = g i) ∧ ∀ i, 68 ≤ i → triesR g m d i = g i := ⟨fun i hi => triesR_lo g m d (by omega) hm, fun i hi => triesR_lo g m d (by omega) hm⟩
/-- his CELL behind it -/
theorem lt_cell {a g : Nat → Int32} {nd nm m d : Nat} (h : prR a g nd nm) (hm : m < nm) (hd : d < nd) : ltR a a m d (51 + m) = triesR g m d (51 + m) := ((lt_tr h hm hd).1.2.2.2.1 m hm).2.2.1
theorem prR_keep {a g : Nat → Int32} {nd nm : Nat} (h : prR a g nd nm) : prR a (keepR g) nd nm := prR_c h eqN.rf (fun i hi hne => keepR_lo g hi hne)
theorem bh_keep {g : Nat → Int32} {d : Nat} {x : Int32} (hd : d < 10) : bhF (keepR g) d x = bhF g d x := by
  unfold bhF
  rw [keepR_lo g (by omega) (by omega), keepR_lo g (by omega) (by omega)]
/-! a DOOR is set anew: nobody KNOWS it any more -/
theorem fg_at {f : Nat → Int32} {d k i : Nat} : fgR f d k i = if 55 ≤ i ∧ i < 55 + k then f i &&& (bitI d ^^^ (-1)) else f i := rfl
theorem prR_set {a g : Nat → Int32} {nd nm d : Nat} {s x : Int32} (h : prR a g nd nm) (hd : d < nd) : prR (fgR (upd (upd a (31 + d) s) (41 + d) x) d nm) (fgR (upd (upd g (31 + d) s) (41 + d) x) d nm) nd nm := by
  obtain ⟨⟨h1, h2, h3, h4, h5, h6⟩, h7, h8, h9⟩ := h
  have hu : ∀ (f : Nat → Int32) (i : Nat), i ≠ 31 + d → i ≠ 41 + d → ¬ (55 ≤ i ∧ i < 55 + nm) → fgR (upd (upd f (31 + d) s) (41 + d) x) d nm i = f i := fun f i q1 q2 q3 => by rw [fg_at, if_neg q3, pk_un q2, pk_un q1]
  have hq : ∀ i, a i = g i → fgR (upd (upd a (31 + d) s) (41 + d) x) d nm i = fgR (upd (upd g (31 + d) s) (41 + d) x) d nm i := fun i hi => by
    rw [fg_at, fg_at]
    have hv : upd (upd a (31 + d) s) (41 + d) x i = upd (upd g (31 + d) s) (41 + d) x i := by
      by_cases e1 : i = 41 + d
      · rw [e1, pk_us, pk_us]
      · rw [pk_un e1, pk_un e1]
        by_cases e2 : i = 31 + d
        · rw [e2, pk_us, pk_us]
        · rw [pk_un e2, pk_un e2]; exact hi
    rw [hv]
  refine ⟨⟨h1, h2, fun k hk => ?_, fun k hk => ?_, fun k hk => ?_, fun k hk => ?_⟩, ?_, ?_, ?_⟩
  · obtain ⟨q1, q2, q3, q4⟩ := h3 k hk
    exact ⟨hq _ q1, hq _ q2, hq _ q3, hq _ q4⟩
  · obtain ⟨q1, q2, q3, q4, q5, q6⟩ := h4 k hk
    exact ⟨hq _ q1, hq _ q2, hq _ q3, hq _ q4, hq _ q5, hq _ q6⟩
  · rw [hu g _ (by omega) (by omega) (by omega), hu g _ (by omega) (by omega) (by omega)]; exact h5 k hk
  · rw [hu g _ (by omega) (by omega) (by omega), hu g _ (by omega) (by omega) (by omega), hu g _ (by omega) (by omega) (by omega)]; exact h6 k hk
  · rw [hu a _ (by omega) (by omega) (by omega)]; exact h7
  · rw [hu a _ (by omega) (by omega) (by omega)]; exact h8
  · rw [hu a _ (by omega) (by omega) (by omega), hu g _ (by omega) (by omega) (by omega)]; exact h9
/-- THE DRAW -/
theorem prR_draw {a g : Nat → Int32} {nd nm : Nat} {v : Int32} (h : prR a g nd nm) : prR (upd a 67 v) (upd g 67 v) nd nm := by
  obtain ⟨⟨h1, h2, h3, h4, h5, h6⟩, h7, h8, h9⟩ := h
  have hu : ∀ (f : Nat → Int32) (i : Nat), i < 67 → upd f 67 v i = f i := fun f i q1 => pk_un (by omega)
  refine ⟨⟨h1, h2, fun k hk => ?_, fun k hk => ?_, fun k hk => ?_, fun k hk => ?_⟩, ?_, ?_, ?_⟩
  · rw [hu a _ (by omega), hu a _ (by omega), hu a _ (by omega), hu a _ (by omega), hu g _ (by omega), hu g _ (by omega), hu g _ (by omega), hu g _ (by omega)]; exact h3 k hk
  · rw [hu a _ (by omega), hu a _ (by omega), hu a _ (by omega), hu a _ (by omega), hu a _ (by omega), hu a _ (by omega), hu g _ (by omega), hu g _ (by omega), hu g _ (by omega), hu g _ (by omega), hu g _ (by omega), hu g _ (by omega)]; exact h4 k hk
  · rw [hu g _ (by omega), hu g _ (by omega)]; exact h5 k hk
  · rw [hu g _ (by omega), hu g _ (by omega), hu g _ (by omega)]; exact h6 k hk
  · rw [hu a _ (by omega)]; exact h7
  · rw [hu a _ (by omega)]; exact h8
  · rw [pk_us, pk_us]
/-- one step of DRIFT -/
theorem dw_dr {a g : Nat → Int32} {nd nm : Nat} (h : prR a g nd nm) : prR (dwR a nd nm) (drStep g nd nm) nd nm := by
  have e : a 67 = keepR g 67 := by rw [keepR_lo g (by decide) (by decide)]; exact h.2.2.2
  have h2 := prR_draw (v := drawF (a 67)) (prR_keep h)
  unfold dwR drStep
  rw [← e]
  split
  · rename_i q
    exact lt_tr h2 (Nat.mod_lt _ q.1) (Nat.mod_lt _ q.2)
  · exact h2
theorem dr_lo {g : Nat → Int32} {nd nm : Nat} (hnm : nm ≤ 4) : (∀ i, i < 31 → drStep g nd nm i = keepR g i) ∧ ∀ i, 68 ≤ i → drStep g nd nm i = keepR g i := by
  unfold drStep
  split
  · rename_i q
    have hm : (drawF (keepR g 67)).toNatClampNeg / 65536 % nm < 4 := Nat.lt_of_lt_of_le (Nat.mod_lt _ q.1) hnm
    exact ⟨fun i hi => by rw [(tr_lo hm).1 i hi, pk_un (by omega)], fun i hi => by rw [(tr_lo hm).2 i hi, pk_un (by omega)]⟩
  · exact ⟨fun i hi => pk_un (by omega), fun i hi => pk_un (by omega)⟩
theorem wR_drift {a g : Nat → Int32} {hi hi2 : Nat → Nat → Int32} {z nd nm : Nat} (h : wR a g hi z nd nm) (hk : hKe hi hi2 a z nd nm) : wR (dwR a nd nm) (drStep g nd nm) hi2 (remZ z + 1) nd nm :=
  wR_now (wR_keep h hk) (dw_dr h.2.2.2.2.1) (dr_lo h.2.2.2.2.1.1.2.1).1 (dr_lo h.2.2.2.2.1.1.2.1).2
/-! a new DOOR, a new MAN -/
theorem prR_door {a g : Nat → Int32} {nd nm c o : Nat} {s x : Int32} (h : prR a g nd nm) (e : g 0 = nI nd) (hd : nd < 10) (hc : c < 8) (ho : o < 8) : prR (adR a (nI c) (nI o) s x) (layDoorR g (nI c) (nI o) s x) (nd + 1) nm := by
  obtain ⟨⟨h1, h2, h3, h4, h5, h6⟩, h7, h8, h9⟩ := h
  have ea : adR a (nI c) (nI o) s x = upd (upd (upd (upd (upd a (11 + nd) (nI c)) (21 + nd) (nI o)) (31 + nd) s) (41 + nd) x) 0 (nI (nd + 1)) := by unfold adR; rw [h7, show tN (nI nd) = nd from nIc (by omega)]
  have eg : layDoorR g (nI c) (nI o) s x = upd (upd (upd (upd (upd (upd g (11 + nd) (nI c)) (21 + nd) (nI o)) (31 + nd) s) (41 + nd) x) 0 (nI (nd + 1))) 2 (nI 0) := by unfold layDoorR; rw [e, nIc (by omega)]
  rw [ea, eg]
  have hua : ∀ i, i ≠ 0 → i ≠ 11 + nd → i ≠ 21 + nd → i ≠ 31 + nd → i ≠ 41 + nd → upd (upd (upd (upd (upd a (11 + nd) (nI c)) (21 + nd) (nI o)) (31 + nd) s) (41 + nd) x) 0 (nI (nd + 1)) i = a i := fun i z0 z1 z2 z3 z4 => by rw [pk_un z0, pk_un z4, pk_un z3, pk_un z2, pk_un z1]
  have hug : ∀ i, i ≠ 0 → i ≠ 2 → i ≠ 11 + nd → i ≠ 21 + nd → i ≠ 31 + nd → i ≠ 41 + nd → upd (upd (upd (upd (upd (upd g (11 + nd) (nI c)) (21 + nd) (nI o)) (31 + nd) s) (41 + nd) x) 0 (nI (nd + 1))) 2 (nI 0) i = g i := fun i z0 zz z1 z2 z3 z4 => by rw [pk_un zz, pk_un z0, pk_un z4, pk_un z3, pk_un z2, pk_un z1]
  refine ⟨⟨by omega, h2, fun k hk => ?_, fun k hk => ?_, fun k hk => ?_, fun k hk => ?_⟩, ?_, ?_, ?_⟩
  · by_cases ek : k = nd
    · subst ek
      refine ⟨?_, ?_, ?_, ?_⟩
      · rw [pk_un (by omega), pk_un (by omega), pk_un (by omega), pk_un (by omega), pk_us, pk_un (by omega), pk_un (by omega), pk_un (by omega), pk_un (by omega), pk_un (by omega), pk_us]
      · rw [pk_un (by omega), pk_un (by omega), pk_un (by omega), pk_us, pk_un (by omega), pk_un (by omega), pk_un (by omega), pk_un (by omega), pk_us]
      · rw [pk_un (by omega), pk_un (by omega), pk_us, pk_un (by omega), pk_un (by omega), pk_un (by omega), pk_us]
      · rw [pk_un (by omega), pk_us, pk_un (by omega), pk_un (by omega), pk_us]
    · obtain ⟨q1, q2, q3, q4⟩ := h3 k (by omega)
      rw [hua _ (by omega) (by omega) (by omega) (by omega) (by omega), hua _ (by omega) (by omega) (by omega) (by omega) (by omega), hua _ (by omega) (by omega) (by omega) (by omega) (by omega), hua _ (by omega) (by omega) (by omega) (by omega) (by omega), hug _ (by omega) (by omega) (by omega) (by omega) (by omega) (by omega), hug _ (by omega) (by omega) (by omega) (by omega) (by omega) (by omega), hug _ (by omega) (by omega) (by omega) (by omega) (by omega) (by omega), hug _ (by omega) (by omega) (by omega) (by omega) (by omega) (by omega)]
      exact ⟨q1, q2, q3, q4⟩
  · have q := h4 k hk
    rw [hua _ (by omega) (by omega) (by omega) (by omega) (by omega), hua _ (by omega) (by omega) (by omega) (by omega) (by omega), hua _ (by omega) (by omega) (by omega) (by omega) (by omega), hua _ (by omega) (by omega) (by omega) (by omega) (by omega), hua _ (by omega) (by omega) (by omega) (by omega) (by omega), hua _ (by omega) (by omega) (by omega) (by omega) (by omega), hug _ (by omega) (by omega) (by omega) (by omega) (by omega) (by omega), hug _ (by omega) (by omega) (by omega) (by omega) (by omega) (by omega), hug _ (by omega) (by omega) (by omega) (by omega) (by omega) (by omega), hug _ (by omega) (by omega) (by omega) (by omega) (by omega) (by omega), hug _ (by omega) (by omega) (by omega) (by omega) (by omega) (by omega), hug _ (by omega) (by omega) (by omega) (by omega) (by omega) (by omega)]
    exact q
  · by_cases ek : k = nd
    · subst ek
      refine ⟨⟨c, hc, ?_⟩, ⟨o, ho, ?_⟩⟩
      · rw [pk_un (by omega), pk_un (by omega), pk_un (by omega), pk_un (by omega), pk_un (by omega), pk_us]
      · rw [pk_un (by omega), pk_un (by omega), pk_un (by omega), pk_un (by omega), pk_us]
    · rw [hug _ (by omega) (by omega) (by omega) (by omega) (by omega) (by omega), hug _ (by omega) (by omega) (by omega) (by omega) (by omega) (by omega)]
      exact h5 k (by omega)
  · rw [hug _ (by omega) (by omega) (by omega) (by omega) (by omega) (by omega), hug _ (by omega) (by omega) (by omega) (by omega) (by omega) (by omega), hug _ (by omega) (by omega) (by omega) (by omega) (by omega) (by omega)]
    exact h6 k hk
  · exact pk_us
  · rw [hua _ (by omega) (by omega) (by omega) (by omega) (by omega)]; exact h8
  · rw [hua _ (by omega) (by omega) (by omega) (by omega) (by omega), hug _ (by omega) (by omega) (by omega) (by omega) (by omega) (by omega)]; exact h9
theorem prR_newman {a g : Nat → Int32} {nd nm c w : Nat} {k s : Int32} (h : prR a g nd nm) (e : g 1 = nI nm) (hm : nm < 4) (hc : c < 8) (hw : w ≤ 9) : prR (amR a k (nI w) s (nI c)) (layManR g k (nI w) s (nI c)) nd (nm + 1) := by
  obtain ⟨⟨h1, h2, h3, h4, h5, h6⟩, h7, h8, h9⟩ := h
  have ea : amR a k (nI w) s (nI c) = upd (upd (upd (upd (upd (upd (upd a (3 + nm) k) (63 + nm) (nI w)) (7 + nm) s) (51 + nm) (nI c)) (55 + nm) (nI 0)) (59 + nm) (nI 0)) 1 (nI (nm + 1)) := by unfold amR; rw [h8, show tN (nI nm) = nm from nIc (by omega)]
  have eg : layManR g k (nI w) s (nI c) = upd (upd (upd (upd (upd (upd (upd (upd g (3 + nm) k) (63 + nm) (nI w)) (7 + nm) s) (51 + nm) (nI c)) (55 + nm) (nI 0)) (59 + nm) (nI 0)) 1 (nI (nm + 1))) 2 (nI 0) := by unfold layManR; rw [e, nIc (by omega)]
  rw [ea, eg]
  have hua : ∀ i, i ≠ 1 → i ≠ 3 + nm → i ≠ 7 + nm → i ≠ 51 + nm → i ≠ 55 + nm → i ≠ 59 + nm → i ≠ 63 + nm → upd (upd (upd (upd (upd (upd (upd a (3 + nm) k) (63 + nm) (nI w)) (7 + nm) s) (51 + nm) (nI c)) (55 + nm) (nI 0)) (59 + nm) (nI 0)) 1 (nI (nm + 1)) i = a i := fun i z0 z1 z2 z3 z4 z5 z6 => by rw [pk_un z0, pk_un z5, pk_un z4, pk_un z3, pk_un z2, pk_un z6, pk_un z1]
  have hug : ∀ i, i ≠ 1 → i ≠ 2 → i ≠ 3 + nm → i ≠ 7 + nm → i ≠ 51 + nm → i ≠ 55 + nm → i ≠ 59 + nm → i ≠ 63 + nm → upd (upd (upd (upd (upd (upd (upd (upd g (3 + nm) k) (63 + nm) (nI w)) (7 + nm) s) (51 + nm) (nI c)) (55 + nm) (nI 0)) (59 + nm) (nI 0)) 1 (nI (nm + 1))) 2 (nI 0) i = g i := fun i z0 zz z1 z2 z3 z4 z5 z6 => by rw [pk_un zz, pk_un z0, pk_un z5, pk_un z4, pk_un z3, pk_un z2, pk_un z6, pk_un z1]
  refine ⟨⟨h1, by omega, fun j hj => ?_, fun j hj => ?_, fun j hj => ?_, fun j hj => ?_⟩, ?_, ?_, ?_⟩
  · have q := h3 j hj
    repeat rw [hua _ (by omega) (by omega) (by omega) (by omega) (by omega) (by omega) (by omega)]
    repeat rw [hug _ (by omega) (by omega) (by omega) (by omega) (by omega) (by omega) (by omega) (by omega)]
    exact q
  · by_cases ek : j = nm
    · subst ek
      refine ⟨?_, ?_, ?_, ?_, ?_, ?_⟩
      · rw [pk_un (by omega), pk_un (by omega), pk_un (by omega), pk_un (by omega), pk_un (by omega), pk_un (by omega), pk_us, pk_un (by omega), pk_un (by omega), pk_un (by omega), pk_un (by omega), pk_un (by omega), pk_un (by omega), pk_un (by omega), pk_us]
      · rw [pk_un (by omega), pk_un (by omega), pk_un (by omega), pk_un (by omega), pk_us, pk_un (by omega), pk_un (by omega), pk_un (by omega), pk_un (by omega), pk_un (by omega), pk_us]
      · rw [pk_un (by omega), pk_un (by omega), pk_un (by omega), pk_us, pk_un (by omega), pk_un (by omega), pk_un (by omega), pk_un (by omega), pk_us]
      · rw [pk_un (by omega), pk_un (by omega), pk_us, pk_un (by omega), pk_un (by omega), pk_un (by omega), pk_us]
      · rw [pk_un (by omega), pk_us, pk_un (by omega), pk_un (by omega), pk_us]
      · rw [pk_un (by omega), pk_un (by omega), pk_un (by omega), pk_un (by omega), pk_un (by omega), pk_us, pk_un (by omega), pk_un (by omega), pk_un (by omega), pk_un (by omega), pk_un (by omega), pk_un (by omega), pk_us]
    · have q := h4 j (by omega)
      repeat rw [hua _ (by omega) (by omega) (by omega) (by omega) (by omega) (by omega) (by omega)]
      repeat rw [hug _ (by omega) (by omega) (by omega) (by omega) (by omega) (by omega) (by omega) (by omega)]
      exact q
  · have q := h5 j hj
    repeat rw [hug _ (by omega) (by omega) (by omega) (by omega) (by omega) (by omega) (by omega) (by omega)]
    exact q
  · by_cases ek : j = nm
    · subst ek
      refine ⟨⟨c, hc, ?_⟩, ⟨0, by omega, ?_⟩, ⟨w, hw, ?_⟩⟩
      · rw [pk_un (by omega), pk_un (by omega), pk_un (by omega), pk_un (by omega), pk_us]
      · rw [pk_un (by omega), pk_un (by omega), pk_us]
      · rw [pk_un (by omega), pk_un (by omega), pk_un (by omega), pk_un (by omega), pk_un (by omega), pk_un (by omega), pk_us]
    · have q := h6 j (by omega)
      repeat rw [hug _ (by omega) (by omega) (by omega) (by omega) (by omega) (by omega) (by omega) (by omega)]
      exact q
  · rw [hua _ (by omega) (by omega) (by omega) (by omega) (by omega) (by omega) (by omega)]; exact h7
  · exact pk_us
  · rw [hua _ (by omega) (by omega) (by omega) (by omega) (by omega) (by omega) (by omega), hug _ (by omega) (by omega) (by omega) (by omega) (by omega) (by omega) (by omega) (by omega)]; exact h9
