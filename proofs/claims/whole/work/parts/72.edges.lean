/-! bits (rows of the kit's BITS text, turned) -/
def bt (x : Int32) (i : Nat) : Bool := x.toBitVec.getLsbD i
theorem b_ext {x y : Int32} (h : ∀ i, i < 32 → bt x i = bt y i) : x = y := Int32.toBitVec_inj.mp (BitVec.eq_of_getLsbD_eq (fun i hi => h i hi))
theorem b_or (x y : Int32) (i : Nat) : bt (x ||| y) i = (bt x i || bt y i) := by unfold bt; rw [Int32.toBitVec_or, BitVec.getLsbD_or]
theorem b_and (x y : Int32) (i : Nat) : bt (x &&& y) i = (bt x i && bt y i) := by unfold bt; rw [Int32.toBitVec_and, BitVec.getLsbD_and]
theorem b_xor (x y : Int32) (i : Nat) : bt (x ^^^ y) i = (bt x i ^^ bt y i) := by unfold bt; rw [Int32.toBitVec_xor, BitVec.getLsbD_xor]
theorem b_m1 : ∀ i, i < 32 → bt (-1) i = true := by decide +kernel
theorem b_0 (i : Nat) : bt 0 i = false := BitVec.getLsbD_zero
theorem s_l : ∀ n, n < 32 → ((nI n &&& 31).toBitVec.smod 32).toNat = n := by decide +kernel
theorem b_shl (n : Nat) (hn : n < 32) (x : Int32) {i : Nat} (hi : i < 32) : bt (x <<< (nI n &&& 31)) i = (decide (n ≤ i) && bt x (i - n)) := by
  unfold bt
  rw [Int32.toBitVec_shiftLeft]
  show (x.toBitVec <<< ((nI n &&& 31).toBitVec.smod 32).toNat).getLsbD i = _
  rw [s_l n hn, BitVec.getLsbD_shiftLeft]
  rcases Nat.lt_or_ge i n with h | h
  · simp [h, Nat.not_le.mpr h]
  · simp [hi, h, Nat.not_lt.mpr h]
theorem b_sshr (n : Nat) (hn : n < 32) (x : Int32) {i : Nat} (hi : i < 32) : bt (x >>> (nI n &&& 31)) i = if n + i < 32 then bt x (n + i) else bt x 31 := by
  unfold bt
  rw [Int32.toBitVec_shiftRight]
  show (x.toBitVec.sshiftRight ((nI n &&& 31).toBitVec.smod 32).toNat).getLsbD i = _
  rw [s_l n hn, BitVec.getLsbD_sshiftRight, BitVec.msb_eq_getLsbD_last]
  simp [hi]
theorem zb_one : ∀ i, i < 32 → bt (nI 1) i = decide (i = 0) := by decide +kernel
theorem zb_and1 (y : Int32) : (y &&& nI 1 = nI 1) ↔ bt y 0 = true := by
  constructor
  · intro h
    have h2 : bt (y &&& nI 1) 0 = bt (nI 1) 0 := by rw [h]
    rw [b_and, zb_one 0 (by decide)] at h2
    simpa using h2
  · intro h
    refine b_ext (fun i hi => ?_)
    rw [b_and, zb_one i hi]
    by_cases e : i = 0
    · subst e; rw [h]; rfl
    · rw [decide_eq_false e, Bool.and_false]
theorem hasB_bt {x : Int32} {d : Nat} (hd : d < 32) : hasB x d = bt x d := by
  unfold hasB
  rw [Bool.eq_iff_iff, decide_eq_true_iff, zb_and1, b_sshr d hd x (by decide), Nat.add_zero, if_pos hd]
theorem bitI_bt {k i : Nat} (hk : k < 32) (hi : i < 32) : bt (bitI k) i = decide (i = k) := by
  unfold bitI
  rw [b_shl k hk _ hi, zb_one (i - k) (by omega), Bool.eq_iff_iff, Bool.and_eq_true, decide_eq_true_iff, decide_eq_true_iff, decide_eq_true_iff]
  omega
theorem ioB_bt {op : Nat → Int32} {c d : Nat} {sh : Int32} (hd : d < 32) : ioB op c d sh = (bt (op c) d && !bt sh d) := by
  show hasB (op c &&& (sh ^^^ (-1))) d = _
  rw [hasB_bt hd, b_and, b_xor, b_m1 d hd]
  cases bt sh d <;> rfl
theorem doF_bt {a b : Nat → Int32} {m : Nat} : ∀ n, n ≤ 32 → ∀ d, d < 32 → bt (doF a b m n) d = (decide (d < n) && opB a b m d)
  | 0, _, d, _ => by rw [doF, nI_0, b_0]; rfl
  | n + 1, hn, d, hd => by
    have ih := doF_bt (a := a) (b := b) (m := m) n (by omega) d hd
    rw [doF]
    by_cases e : d = n
    · subst e
      by_cases h : opB a b m d = true
      · rw [if_pos h, b_or, bitI_bt hd hd, ih, h]; simp
      · rw [if_neg h, ih, Bool.eq_false_iff.mpr h, Bool.and_false, Bool.and_false]
    · have h2 : decide (d < n + 1) = decide (d < n) := by rw [Bool.eq_iff_iff, decide_eq_true_iff, decide_eq_true_iff]; omega
      rw [h2]
      by_cases h : opB a b m n = true
      · rw [if_pos h, b_or, bitI_bt (by omega) hd, ih, decide_eq_false e, Bool.or_false]
      · rw [if_neg h, ih]
/-! the class's prison and the reference's -/
def pDo (a g : Nat → Int32) (nd : Nat) : Prop := ∀ d, d < nd → a (11 + d) = g (11 + d) ∧ a (21 + d) = g (21 + d) ∧ a (31 + d) = g (31 + d) ∧ a (41 + d) = g (41 + d)
def pMa (a g : Nat → Int32) (nm : Nat) : Prop := ∀ m, m < nm → a (3 + m) = g (3 + m) ∧ a (7 + m) = g (7 + m) ∧ a (51 + m) = g (51 + m) ∧ a (55 + m) = g (55 + m) ∧ a (59 + m) = g (59 + m) ∧ a (63 + m) = g (63 + m)
def pOk (g : Nat → Int32) (nm : Nat) : Prop := ∀ m, m < nm → (∃ c, c < 8 ∧ g (51 + m) = nI c) ∧ (∃ f, f ≤ 99 ∧ g (59 + m) = nI f) ∧ ∃ w, w ≤ 9 ∧ g (63 + m) = nI w
theorem wfD_to {a g : Nat → Int32} {nd : Nat} (hD : pDo a g nd) (hW : wfD g nd) : wfD a nd := fun d hd => by
  rw [(hD d hd).1, (hD d hd).2.1]; exact hW d hd
theorem zb_at {a g : Nat → Int32} {nd d : Nat} {x : Int32} (hD : pDo a g nd) (hW : wfD g nd) (hd : d < nd) : atB a d x = decide (¬ bhF g d x = -4) := by
  obtain ⟨⟨p, hp, ep⟩, ⟨q, hq, eq⟩⟩ := hW d hd
  unfold atB bhF
  rw [(hD d hd).1, (hD d hd).2.1]
  by_cases h1 : g (11 + d) = x
  · rw [if_pos h1, decide_eq_true h1, Bool.true_or, eq, decide_eq_true (nI_n4 (by omega))]
  · rw [if_neg h1, decide_eq_false h1, Bool.false_or]
    by_cases h2 : g (21 + d) = x
    · rw [if_pos h2, decide_eq_true h2, ep, decide_eq_true (nI_n4 (by omega))]
    · rw [if_neg h2, decide_eq_false h2]; rfl
theorem zb_be {a g : Nat → Int32} {nd d : Nat} {x : Int32} (hD : pDo a g nd) (hd : d < nd) (h : ¬ bhF g d x = -4) : beF a d x = bhF g d x := by
  unfold beF
  unfold bhF at h ⊢
  rw [(hD d hd).1, (hD d hd).2.1]
  by_cases h1 : g (11 + d) = x
  · rw [if_pos h1, if_pos h1.symm]
  · rw [if_neg h1, if_neg (fun z => h1 z.symm)]
    rw [if_neg h1] at h
    by_cases h2 : g (21 + d) = x
    · rw [if_pos h2]
    · rw [if_neg h2] at h; exact absurd rfl h
/-- one man, with a WIT and a SORT, in the class's words and in the reference's -/
def pOne (a g : Nat → Int32) (m : Nat) (wit own : Int32) : Prop := a (3 + m) = g (3 + m) ∧ a (55 + m) = g (55 + m) ∧ a (59 + m) = g (59 + m) ∧ g (63 + m) = wit ∧ g (7 + m) = own
theorem zb_op {a g : Nat → Int32} {m nd c d : Nat} {wit own : Int32} (hD : pDo a g nd) (hW : wfD g nd) (hM : pOne a g m wit own) (hd : d < nd) : opB a (whC a m wit own c) 0 d = psB g m d (nI c) := by
  obtain ⟨h3, h55, h59, h63, h7⟩ := hM
  have e51 : whC a m wit own c (51 + 0) = nI c := by simp [whC]
  have e3 : whC a m wit own c (3 + 0) = g (3 + m) := by simp [whC, h3]
  have e63 : whC a m wit own c (63 + 0) = g (63 + m) := by simp [whC, h63]
  have e7 : whC a m wit own c (7 + 0) = g (7 + m) := by simp [whC, h7]
  have e55 : whC a m wit own c (55 + 0) = g (55 + m) := by simp [whC, h55]
  have e59 : whC a m wit own c (59 + 0) = g (59 + m) := by simp [whC, h59]
  unfold opB psB paB pwM paF
  rw [e51, e3, e63, e7, e55, e59, zb_at hD hW hd, (hD d hd).2.2.1, (hD d hd).2.2.2]
theorem zb_io {a g : Nat → Int32} {m nd c d : Nat} {wit own sh : Int32} (hnd : nd ≤ 10) (hD : pDo a g nd) (hW : wfD g nd) (hM : pOne a g m wit own) (hd : d < nd) : ioB (opN a a m wit own nd) c d sh = (!hasB sh d && psB g m d (nI c)) := by
  rw [ioB_bt (by omega), hasB_bt (by omega)]
  unfold opN
  rw [doF_bt nd (by omega) d (by omega), zb_op hD hW hM hd, decide_eq_true hd, Bool.true_and, Bool.and_comm]
theorem zb_bn {a g : Nat → Int32} {m nd c d : Nat} (hD : pDo a g nd) (hd : d < nd) (h : psB g m d (nI c) = true) : beN a d c = btF g d c := by
  unfold beN btF
  rw [zb_be hD hd (ps_bh h)]
theorem zbE_eq {a g : Nat → Int32} {m nd : Nat} {wit own : Int32} (sh : Int32) (hnd : nd ≤ 10) (hD : pDo a g nd) (hW : wfD g nd) (hM : pOne a g m wit own) : zbEc a (opN a a m wit own nd) sh nd = zbEr g m sh nd := by
  funext c d
  unfold zbEc zbEr
  by_cases hcd : c < 8 ∧ d < nd
  · obtain ⟨hc, hd⟩ := hcd
    rw [zb_io hnd hD hW hM hd]
    by_cases q : hasB sh d = false ∧ psB g m d (nI c) = true
    · rw [if_pos ⟨hc, hd, by rw [q.1, q.2]; rfl⟩, if_pos ⟨hc, hd, q⟩, zb_bn hD hd q.2]
    · rw [if_neg (fun z => q (by simpa using z.2.2)), if_neg (fun z => q z.2.2)]
  · rw [if_neg (fun z => hcd ⟨z.1, z.2.1⟩), if_neg (fun z => hcd ⟨z.1, z.2.1⟩)]
theorem zbD_lt {E : zbE} {N nd fr : Nat} {F : Nat → Option Nat} (h : zbD E nd fr F) (hN : ∀ t, F t ≠ none → t < N) {t n : Nat} (ht : F t = some n) : n < N := by
  have h1 := zb_card hN (fun t n ht => by
    rcases h.2.2 t (n + 1) ht with ⟨e, -⟩ | ⟨c, d, k, -, -, h3, h4⟩
    · omega
    · exact ⟨c, by rw [h3, show k = n by omega]⟩) n t ht
  have h2 := zbC_le F n N
  omega
/-- how far and in how many ways: both say the same -/
theorem zb_both {a g : Nat → Int32} {m nd fr : Nat} {wit own : Int32} (sh : Int32) (hnd : nd ≤ 10) (hD : pDo a g nd) (hW : wfD g nd) (hM : pOne a g m wit own) (hfr : fr < 8) : ∃ F H, zbZ (zbEr g m sh nd) 8 nd fr 1000003 F H ∧ (∀ j v, F j = some v → v < 8) ∧ ∀ j, j < 8 → (spZ a (opN a a m wit own nd) sh fr nd).1 j = zeC (F j) ∧ (spZ a (opN a a m wit own nd) sh fr nd).2 j = nI (H j) ∧ (lsZ g m sh fr nd).1 j = zeR (F j) ∧ (lsZ g m sh fr nd).2 j = nI (H j) := by
  obtain ⟨F, H, h1, h2⟩ := zb_class (op := opN a a m wit own nd) (sh := sh) (wfD_to hD hW) hfr
  obtain ⟨F2, H2, h3, h4⟩ := zb_ref (m := m) (sh := sh) hW hfr
  rw [zbE_eq sh hnd hD hW hM] at h1
  obtain ⟨e1, e2⟩ := zbZ_eq h1 h3
  subst e1
  refine ⟨F, H, h1, fun j v hv => zbD_lt h1.1 h1.2.1 hv, fun j hj => ⟨(h2 j hj).1, (h2 j hj).2, (h4 j hj).1, ?_⟩⟩
  rw [e2 j hj]; exact (h4 j hj).2
theorem zc_neg {F : Nat → Option Nat} {t : Nat} (hb : ∀ k, F t = some k → k < 8) : zeC (F t) < 0 ↔ F t = none := by
  rw [← Int32.not_le, zc_pos hb]
  exact Decidable.not_not
theorem zr_far {F : Nat → Option Nat} {t : Nat} (hb : ∀ k, F t = some k → k < 8) : nI 1000000 ≤ zeR (F t) ↔ F t = none := by
  cases e : F t with
  | none => exact ⟨fun _ => rfl, fun _ => Int32.le_refl _⟩
  | some v =>
    have := hb v e
    simp only [zeR, reduceCtorEq, iff_false]
    rw [nI_leI (by decide) (by omega)]
    omega
theorem zb_rb {a g : Nat → Int32} {m nd fr cell : Nat} {wit own : Int32} (sh : Int32) (hnd : nd ≤ 10) (hD : pDo a g nd) (hW : wfD g nd) (hM : pOne a g m wit own) (hfr : fr < 8) (hc : cell < 8) : rbB g m sh fr nd cell = !decide ((spZ a (opN a a m wit own nd) sh fr nd).1 cell < 0) := by
  obtain ⟨F, H, -, hb, h⟩ := zb_both sh hnd hD hW hM hfr
  unfold rbB
  rw [(h cell hc).1, (h cell hc).2.2.1]
  congr 1
  rw [Bool.eq_iff_iff, decide_eq_true_iff, decide_eq_true_iff, zr_far (hb cell), zc_neg (hb cell)]
theorem zb_rch {F : Nat → Option Nat} {f f2 : Nat → Int32} (hb : ∀ j v, F j = some v → v < 8) : ∀ n, (∀ j, j < n → f j = zeC (F j) ∧ f2 j = zeR (F j)) → rchC f n = rchF f2 n
  | 0, _ => rfl
  | n + 1, h => by
    rw [rchC, rchF, zb_rch hb n (fun j hj => h j (by omega)), (h n (by omega)).1, (h n (by omega)).2]
    by_cases e : F n = none
    · rw [if_pos ((zc_neg (hb n)).mpr e), if_pos ((zr_far (hb n)).mpr e), nI_0, Int32.or_zero]
    · rw [if_neg (fun z => e ((zc_neg (hb n)).mp z)), if_neg (fun z => e ((zr_far (hb n)).mp z))]
