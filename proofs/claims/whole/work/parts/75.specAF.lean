/-! rounds: where the reference begins -/
def rdS (cs c : Nat) : Nat := 256 * c + (cs &&& 2 ^ c)
theorem rdS_lt {cs c : Nat} (hcs : cs < 256) (hc : c < 8) : rdS cs c < 2048 := by
  have : cs &&& 2 ^ c < 256 := Nat.lt_of_le_of_lt Nat.and_le_left hcs
  unfold rdS
  omega
def rdA1 (g : Nat → Int32) (nd nm : Nat) (man cells r : Int32) : Prop := if (isB man nm && isB cells 256) = true then isRd (zbEv g (tN man) (tN cells) nd) nd (rdS (tN cells) (ceF g (tN man))) (tN cells) r else r = -1
/-! odds, as the reference goes -/
def mnF (g : Nat → Int32) (m c : Nat) : Nat → Int32
  | 0 => nI 0
  | d + 1 => mnF g m c d + (if psB g m d (nI c) = true then nI 1 else nI 0)
def mnN (g : Nat → Int32) (m c : Nat) : Nat → Nat
  | 0 => 0
  | d + 1 => mnN g m c d + (if psB g m d (nI c) = true then 1 else 0)
theorem mnF_N (g : Nat → Int32) (m c : Nat) : ∀ d, mnF g m c d = nI (mnN g m c d)
  | 0 => rfl
  | d + 1 => by
    rw [mnF, mnN, mnF_N g m c d]
    split
    · exact nI_add _ _
    · exact nI_add _ _
theorem mnN_le (g : Nat → Int32) (m c : Nat) : ∀ d, mnN g m c d ≤ d
  | 0 => Nat.le_refl _
  | d + 1 => by have := mnN_le g m c d; rw [mnN]; split <;> omega
theorem mnN_pos {g : Nat → Int32} {m c e : Nat} (h : psB g m e (nI c) = true) : ∀ d, e < d → 0 < mnN g m c d
  | 0, he => absurd he (Nat.not_lt_zero _)
  | d + 1, he => by
    rw [mnN]
    by_cases z : e = d
    · subst z; rw [if_pos h]; omega
    · have := mnN_pos h d (by omega); omega
theorem mnN_zero {g : Nat → Int32} {m c : Nat} : ∀ d, mnN g m c d = 0 → ∀ e, e < d → psB g m e (nI c) = false
  | 0, _, e, he => absurd he (Nat.not_lt_zero _)
  | d + 1, h, e, he => by
    rw [mnN] at h
    by_cases z : psB g m d (nI c) = true
    · rw [if_pos z] at h; omega
    · by_cases z2 : e = d
      · subst z2; exact Bool.eq_false_iff.mpr z
      · exact mnN_zero d (by omega) e (by omega)
theorem l_ne0 : ∀ k, k ≤ 10 → 0 < k → ¬ (nI k).toInt64 = 0 := by decide +kernel
theorem l_div : ∀ k, k ≤ 10 → 0 < k → (2520 : Int64) / (nI k).toInt64 = lN (2520 / k) ∧ (nI 2520 / nI k).toInt64 = lN (2520 / k) := by decide +kernel
theorem mn_ne0 {g : Nat → Int32} {m c e nd : Nat} (hnd : nd ≤ 10) (he : e < nd) (h : psB g m e (nI c) = true) : ¬ (mnF g m c nd).toInt64 = 0 := by
  rw [mnF_N]
  have := mnN_le g m c nd
  exact l_ne0 _ (by omega) (mnN_pos h nd he)
def gwD (g : Nat → Int32) (m : Nat) (q : Int64) (c d : Nat) (y : Nat → Int64) : Nat → Int64 := if psB g m d (nI c) = true then vp_updL y (btF g d c) (y (btF g d c) + q) else y
def gwQ (g : Nat → Int32) (m nd : Nat) (x : Nat → Int64) (c : Nat) : Int64 := x c * ((2520 : Int64) / (mnF g m c nd).toInt64)
def gwC (g : Nat → Int32) (m nd : Nat) (x : Nat → Int64) (c : Nat) (y : Nat → Int64) : Nat → Int64 := vp_updL (it (gwD g m (gwQ g m nd x c) c) nd y) c (it (gwD g m (gwQ g m nd x c) c) nd y c + (if mnF g m c nd = 0 then x c * 2520 else 0))
def gwY (g : Nat → Int32) (m nd : Nat) (x y : Nat → Int64) : Nat → Int64 := it (gwC g m nd x) 8 (filJ y 0 8)
def gwK (g : Nat → Int32) (m nd : Nat) (_ : Nat) (s : (Nat → Int64) × (Nat → Int64)) : (Nat → Int64) × (Nat → Int64) := (va_cpy (gwY g m nd s.1 s.2) s.1 0 0 8, gwY g m nd s.1 s.2)
def gwI (x : Nat → Int64) (fr k : Nat) : Nat → Int64 := fun j => if j < k then (if j = fr then 1 else 0) else x j
theorem gwI_0 (x : Nat → Int64) (fr : Nat) : gwI x fr 0 = x := funext fun j => if_neg (by omega)
theorem gwI_step (x : Nat → Int64) (fr k : Nat) : vp_updL (gwI x fr k) k (if k = fr then 1 else 0) = gwI x fr (k + 1) := by
  funext j
  by_cases hj : j = k
  · subst hj; rw [pk_uLs]; simp only [gwI]; rw [if_pos (show j < j + 1 by omega)]
  · rw [pk_uLn hj]; simp only [gwI]
    by_cases h2 : j < k
    · rw [if_pos h2, if_pos (show j < k + 1 by omega)]
    · rw [if_neg h2, if_neg (show ¬ j < k + 1 by omega)]
def gwX (g : Nat → Int32) (m nd fr n : Nat) : Nat → Int64 := (it (gwK g m nd) n (gwI (fun _ => 0) fr 8, fun _ => 0)).1
theorem ag8L_gwC {g : Nat → Int32} {m nd c : Nat} (hW : wfD g nd) (hc : c < 8) {x x2 y y2 : Nat → Int64} (hx : ag8L x x2) (hy : ag8L y y2) : ag8L (gwC g m nd x c y) (gwC g m nd x2 c y2) := by
  have hQ : gwQ g m nd x c = gwQ g m nd x2 c := by unfold gwQ; rw [hx c hc]
  have h1 : ag8L (it (gwD g m (gwQ g m nd x c) c) nd y) (it (gwD g m (gwQ g m nd x2 c) c) nd y2) := by
    rw [hQ]
    refine it_rel ag8L nd (fun d s t hd hs => ?_) hy
    unfold gwD
    split
    · rename_i z
      exact ag8L_upd hs (by rw [hs _ (ps_ok hW hd z).2])
    · exact hs
  unfold gwC
  exact ag8L_upd h1 (by rw [h1 c hc, hx c hc])
theorem gwX_rel {g : Nat → Int32} {m nd fr : Nat} (hW : wfD g nd) (x y : Nat → Int64) (n : Nat) : ag8L (it (gwK g m nd) n (gwI x fr 8, y)).1 (gwX g m nd fr n) := by
  refine it_rel (fun (s t : (Nat → Int64) × (Nat → Int64)) => ag8L s.1 t.1) n (fun k s t _ hs => ?_) ?_
  · intro j hj
    show va_cpy _ _ 0 0 8 j = va_cpy _ _ 0 0 8 j
    rw [pk_cpy_in (Nat.zero_le _) (by omega), pk_cpy_in (Nat.zero_le _) (by omega)]
    exact it_rel ag8L 8 (fun c y y2 hc hy => ag8L_gwC hW hc hs hy) ag8L_fil _ (by omega)
  · intro j hj
    show (if j < 8 then (if j = fr then (1 : Int64) else 0) else x j) = (if j < 8 then (if j = fr then (1 : Int64) else 0) else 0)
    rw [if_pos hj, if_pos hj]
/-! they are numbers of shares: no more than there are -/
def nlR (y : Nat → Int64) (u : Nat → Nat) : Prop := ∀ j, j < 8 → y j = lN (u j)
theorem nl_upd {y : Nat → Int64} {u : Nat → Nat} {t v : Nat} (h : nlR y u) (ht : t < 8) : nlR (vp_updL y t (y t + lN v)) (fun j => if j = t then u t + v else u j) ∧ zbS (fun j => if j = t then u t + v else u j) 8 = zbS u 8 + v := by
  refine ⟨fun j hj => ?_, zbS_one (f := u) (g := fun j => if j = t then u t + v else u j) (k := t) (x := v) (fun j hj => if_neg hj) (if_pos rfl) ht⟩
  show vp_updL y t (y t + lN v) j = lN (if j = t then u t + v else u j)
  by_cases e : j = t
  · rw [e, pk_uLs, if_pos rfl, h t ht, lN_add]
  · rw [pk_uLn e, if_neg e]; exact h j hj
theorem nl_gwD {g : Nat → Int32} {m nd c v : Nat} (hW : wfD g nd) {y : Nat → Int64} {u : Nat → Nat} (h : nlR y u) : ∀ n, n ≤ nd → ∃ u2, nlR (it (gwD g m (lN v) c) n y) u2 ∧ zbS u2 8 = zbS u 8 + mnN g m c n * v
  | 0, _ => ⟨u, h, by rw [mnN, Nat.zero_mul]; rfl⟩
  | n + 1, hn => by
    obtain ⟨u2, h1, h2⟩ := nl_gwD (m := m) (c := c) (v := v) hW h n (by omega)
    rw [it_s, mnN]
    unfold gwD
    by_cases z : psB g m n (nI c) = true
    · rw [if_pos z, if_pos z]
      obtain ⟨h3, h4⟩ := nl_upd (v := v) h1 (ps_ok hW (show n < nd by omega) z).2
      exact ⟨_, h3, by rw [h4, h2, Nat.add_mul, Nat.one_mul, Nat.add_assoc]⟩
    · rw [if_neg z, if_neg z]
      exact ⟨u2, h1, by rw [h2, Nat.add_zero]⟩
theorem nl_gwC {g : Nat → Int32} {m nd c : Nat} (hW : wfD g nd) (hnd : nd ≤ 10) (hc : c < 8) {x y : Nat → Int64} {o u : Nat → Nat} (hx : nlR x o) (h : nlR y u) : ∃ u2, nlR (gwC g m nd x c y) u2 ∧ zbS u2 8 ≤ zbS u 8 + o c * 2520 := by
  have hle := mnN_le g m c nd
  unfold gwC gwQ
  rw [mnF_N]
  rcases Nat.eq_zero_or_pos (mnN g m c nd) with e | e
  · have hno : ∀ q n, n ≤ nd → it (gwD g m q c) n y = y := by
      intro q n hn
      induction n with
      | zero => rfl
      | succ n ih =>
        rw [it_s, ih (by omega)]
        unfold gwD
        rw [if_neg (by rw [mnN_zero nd e n (by omega)]; decide)]
    rw [hno _ nd (Nat.le_refl _), e, if_pos nI_0, hx c hc, show lN (o c) * 2520 = lN (o c * 2520) from lN_mul _ 2520]
    obtain ⟨h3, h4⟩ := nl_upd (v := o c * 2520) h hc
    exact ⟨_, h3, Nat.le_of_eq h4⟩
  · rw [(l_div _ (by omega) e).1, hx c hc, lN_mul, if_neg (nI_ne0 e (by omega))]
    obtain ⟨u2, h1, h2⟩ := nl_gwD (m := m) (c := c) (v := o c * (2520 / mnN g m c nd)) hW h nd (Nat.le_refl _)
    obtain ⟨h3, h4⟩ := nl_upd (v := 0) h1 hc
    refine ⟨_, h3, ?_⟩
    rw [h4, h2, Nat.add_zero]
    apply Nat.add_le_add_left
    rw [Nat.mul_left_comm]
    exact Nat.mul_le_mul_left _ (Nat.mul_div_le _ _)
theorem nl_gwY {g : Nat → Int32} {m nd : Nat} (hW : wfD g nd) (hnd : nd ≤ 10) {x y : Nat → Int64} {o : Nat → Nat} (hx : nlR x o) : ∃ u, nlR (gwY g m nd x y) u ∧ zbS u 8 ≤ zbS o 8 * 2520 := by
  have key : ∀ n, n ≤ 8 → ∃ u, nlR (it (gwC g m nd x) n (filJ y 0 8)) u ∧ zbS u 8 ≤ zbS o n * 2520 := by
    intro n
    induction n with
    | zero => exact fun _ => ⟨fun _ => 0, fun j hj => if_pos hj, by rw [zbS_zero (fun _ _ => rfl)]; exact Nat.zero_le _⟩
    | succ n ih =>
      intro hn
      obtain ⟨u, h1, h2⟩ := ih (by omega)
      obtain ⟨u2, h3, h4⟩ := nl_gwC (m := m) hW hnd (show n < 8 by omega) hx h1
      refine ⟨u2, h3, ?_⟩
      show _ ≤ (zbS o n + o n) * 2520
      rw [Nat.add_mul]
      omega
  exact key 8 (Nat.le_refl _)
theorem nl_gwX {g : Nat → Int32} {m nd fr : Nat} (hW : wfD g nd) (hnd : nd ≤ 10) (hfr : fr < 8) : ∀ n, ∃ o, nlR (gwX g m nd fr n) o ∧ zbS o 8 ≤ 2520 ^ n
  | 0 => by
    refine ⟨fun j => if j = fr then 1 else 0, fun j hj => ?_, ?_⟩
    · show (if j < 8 then (if j = fr then (1 : Int64) else 0) else 0) = lN (if j = fr then 1 else 0)
      rw [if_pos hj]
      split <;> rfl
    · rw [zbS_one (f := fun _ => 0) (k := fr) (x := 1) (fun j hj => if_neg hj) (if_pos rfl) hfr, zbS_zero (fun _ _ => rfl)]
      decide
  | n + 1 => by
    obtain ⟨o, h1, h2⟩ := nl_gwX (m := m) hW hnd hfr n
    obtain ⟨u, h3, h4⟩ := nl_gwY (m := m) (y := (it (gwK g m nd) n (gwI (fun _ => 0) fr 8, fun _ => 0)).2) hW hnd h1
    refine ⟨u, fun j hj => ?_, ?_⟩
    · show va_cpy _ _ 0 0 8 j = _
      rw [pk_cpy_in (Nat.zero_le _) (by omega), show 0 + (j - 0) = j by omega]
      exact h3 j hj
    · rw [Nat.pow_succ]
      exact Nat.le_trans h4 (Nat.mul_le_mul_right _ h2)
theorem zbS_at {f : Nat → Nat} {j : Nat} : ∀ n, j < n → f j ≤ zbS f n
  | 0, h => absurd h (Nat.not_lt_zero _)
  | n + 1, h => by
    rw [zbS]
    by_cases e : j = n
    · subst e; omega
    · have := zbS_at (f := f) n (show j < n by omega); omega
theorem pw2520 : ∀ n, n ≤ 4 → 0 < 2520 ^ n ∧ 2520 ^ n < 70368744177664 ∧ whL n = lN (2520 ^ n) := by decide +kernel
theorem gwX_at {g : Nat → Int32} {m nd fr n cell : Nat} (hW : wfD g nd) (hnd : nd ≤ 10) (hfr : fr < 8) (hn : n ≤ 4) (hc : cell < 8) : ∃ o, o < 70368744177664 ∧ gwX g m nd fr n cell = lN o := by
  obtain ⟨o, h1, h2⟩ := nl_gwX (m := m) hW hnd hfr n
  have h3 := zbS_at (f := o) 8 hc
  have h4 := (pw2520 n hn).2.1
  exact ⟨o cell, by omega, h1 cell hc⟩
/-! what divides both -/
theorem lN_tI {n : Nat} (h : n < 9223372036854775808) : (lN n).toInt = (n : Int) := by
  show (Int64.ofNat n).toInt = n
  exact Int64.toInt_ofNat_of_lt h
theorem lN_inj {a b : Nat} (ha : a < 9223372036854775808) (hb : b < 9223372036854775808) (h : lN a = lN b) : a = b := by
  have h2 := congrArg Int64.toInt h
  rw [lN_tI ha, lN_tI hb] at h2
  omega
theorem lN_divN {p q : Nat} (hp : p < 9223372036854775808) (hq : q < 9223372036854775808) : lN p / lN q = lN (p / q) := by
  apply Int64.toInt_inj.mp
  have hle : p / q ≤ p := Nat.div_le_self _ _
  rw [Int64.toInt_div, lN_tI hp, lN_tI hq, lN_tI (by omega), Int.tdiv_eq_ediv_of_nonneg (Int.natCast_nonneg p)]
  rw [show (p : Int) / (q : Int) = ((p / q : Nat) : Int) from rfl]
  generalize p / q = r at hle
  exact Int.bmod_eq_of_le (by omega) (by omega)
theorem lN_rem {p q : Nat} (hp : p < 9223372036854775808) (hq : q < 9223372036854775808) : lN p - lN p / lN q * lN q = lN (p % q) := by
  rw [lN_divN hp hq, lN_mul, lN_sub (Nat.div_mul_le_self _ _)]
  congr 1
  have := Nat.div_add_mod p q
  rw [Nat.mul_comm] at this
  omega
def cdE (x w : Int64) : Int64 := lN (Nat.gcd x.toInt.toNat w.toInt.toNat)
theorem cdE_N {o w : Nat} (ho : o < 9223372036854775808) (hw : w < 9223372036854775808) : cdE (lN o) (lN w) = lN (Nat.gcd o w) := by
  unfold cdE
  rw [lN_tI ho, lN_tI hw, Int.toNat_natCast, Int.toNat_natCast]
theorem gcd_on {p q : Nat} : Nat.gcd q (p % q) = Nat.gcd p q := by
  rw [Nat.gcd_comm q, ← Nat.gcd_rec, Nat.gcd_comm]
def wanA (g : Nat → Int32) (nd nm : Nat) (man cell n what : Int32) : Int64 :=
  if isB man nm && (isB cell 8 && (isB n 5 && isB what 2)) then
    (if what = nI 0 then gwX g (tN man) nd (ceF g (tN man)) (tN n) (tN cell) / cdE (gwX g (tN man) nd (ceF g (tN man)) (tN n) (tN cell)) (whL (tN n))
     else whL (tN n) / cdE (gwX g (tN man) nd (ceF g (tN man)) (tN n) (tN cell)) (whL (tN n)))
  else -1
/-- Euclid ends soon -/
theorem cd_fast : ∀ k f p q, q < 2 ^ k → 2 * k + 1 ≤ f → p < 9223372036854775808 → q < 9223372036854775808 → cdF f (lN p) (lN q) = lN (Nat.gcd p q)
  | 0, f, p, q, hq, hf, hp, hq2 => by
    have e : q = 0 := by simp at hq; exact hq
    subst e
    rw [Nat.gcd_zero_right]
    exact cdF_0 f _
  | k + 1, f, p, q, hq, hf, hp, hq2 => by
    obtain ⟨f, rfl⟩ : ∃ z, f = z + 1 + 1 := ⟨f - 2, by omega⟩
    rw [Nat.pow_succ] at hq
    rw [cdF]
    by_cases e : q = 0
    · subst e
      rw [if_pos (show lN 0 = 0 from rfl), Nat.gcd_zero_right]
    · rw [if_neg (show ¬ lN q = 0 from fun z => e (lN_inj (b := 0) hq2 (by decide) z)), lN_rem hp hq2, cdF]
      have hm := Nat.mod_lt p (show 0 < q by omega)
      by_cases e2 : p % q = 0
      · rw [e2, if_pos (show lN 0 = 0 from rfl), ← gcd_on, e2, Nat.gcd_zero_right]
      · rw [if_neg (show ¬ lN (p % q) = 0 from fun z => e2 (lN_inj (b := 0) (by omega) (by decide) z)), lN_rem hq2 (by omega)]
        have h2 : q % (p % q) < 2 ^ k := by
          have h3 := Nat.mod_lt q (show 0 < p % q by omega)
          have h4 := Nat.div_add_mod q (p % q)
          have h5 : 1 ≤ q / (p % q) := (Nat.one_le_div_iff (by omega)).mpr (by omega)
          have h6 : p % q * 1 ≤ p % q * (q / (p % q)) := Nat.mul_le_mul_left _ h5
          omega
        rw [cd_fast k f (p % q) (q % (p % q)) h2 (by omega) (by omega) (Nat.lt_of_le_of_lt (Nat.mod_le _ _) hq2), gcd_on, gcd_on]
theorem cd_100 {w o : Nat} (hw : w < 70368744177664) (ho : o < 70368744177664) : cdF 100 (lN w) (lN o) = lN (Nat.gcd w o) := cd_fast 46 100 w o (by omega) (by decide) (by omega) (by omega)
/-! the class's odds are the reference's -/
theorem zp_4 : ∀ n, n < 10 → ∀ s, s < 2 ^ n → bcJ (nI (2 ^ n + s)) = bcJ (nI s) + nI 1 := by decide +kernel
theorem doF_mn {a g : Nat → Int32} {m nd c : Nat} {wit own : Int32} (hD : pDo a g nd) (hW : wfD g nd) (hM : pOne a g m wit own) : ∀ n, n ≤ nd → n ≤ 10 → ∃ s, s < 2 ^ n ∧ doF a (whC a m wit own c) 0 n = nI s ∧ bcJ (nI s) = mnF g m c n
  | 0, _, _ => ⟨0, by decide, rfl, by show bcJ (nI 0) = nI 0; decide⟩
  | n + 1, hn, hn2 => by
    obtain ⟨s, h1, h2, h3⟩ := doF_mn (c := c) hD hW hM n (by omega) (by omega)
    have h4 : 2 ^ (n + 1) = 2 ^ n + 2 ^ n := by rw [Nat.pow_succ]; omega
    rw [doF, mnF, zb_op hD hW hM (show n < nd by omega), h2]
    by_cases z : psB g m n (nI c) = true
    · rw [if_pos z, if_pos z]
      refine ⟨2 ^ n + s, by omega, ?_, by rw [zp_4 n (by omega) s h1, h3]⟩
      show nI s ||| (nI 1 <<< (nI n &&& 31)) = _
      have h5 := Nat.two_pow_add_eq_or_of_lt h1 1
      rw [Nat.mul_one] at h5
      rw [shl1 n (by omega), zq_or, h5, Nat.or_comm]
    · rw [if_neg z, if_neg z]
      exact ⟨s, by omega, rfl, by rw [h3, nI_0, Int32.add_zero]⟩
theorem so_gw {a g : Nat → Int32} {m nd c : Nat} {wit own : Int32} (hnd : nd ≤ 10) (hD : pDo a g nd) (hW : wfD g nd) (hM : pOne a g m wit own) (x y : Nat → Int64) : soC a (opN a a m wit own nd) x nd c y = gwC g m nd x c y := by
  obtain ⟨s, h1, h2, h3⟩ := doF_mn (c := c) hD hW hM nd (Nat.le_refl _) hnd
  have hop : bcJ (opN a a m wit own nd c) = mnF g m c nd := by unfold opN; rw [h2, h3]
  have hle := mnN_le g m c nd
  have hst : ∀ q n, n ≤ nd → it (soD a (opN a a m wit own nd) q c) n y = it (gwD g m q c) n y := fun q n hn => it_congr n (fun k s hk => by
    unfold soD gwD
    rw [zb_io hnd hD hW hM (show k < nd by omega), zh_has0 (by omega)]
    by_cases z : psB g m k (nI c) = true
    · rw [z, if_pos (show (!false && true) = true from rfl), if_pos rfl, zb_bn hD (show k < nd by omega) z]
    · rw [Bool.eq_false_iff.mpr z, if_neg (show ¬ (!false && false) = true by decide), if_neg Bool.false_ne_true]) _
  unfold soC gwC gwQ
  rw [hop, mnF_N]
  rcases Nat.eq_zero_or_pos (mnN g m c nd) with e | e
  · have hno : ∀ q n, n ≤ nd → it (gwD g m q c) n y = y := by
      intro q n hn
      induction n with
      | zero => rfl
      | succ n ih =>
        rw [it_s, ih (by omega)]
        unfold gwD
        rw [if_neg (by rw [mnN_zero nd e n (by omega)]; decide)]
    rw [e, if_neg (by decide), hno _ nd (Nat.le_refl _), if_pos nI_0]
  · rw [if_pos (by rw [← nI_0, nI_ltI (by decide) (by omega)]; exact e), hst _ nd (Nat.le_refl _), (l_div _ (by omega) e).1, (l_div _ (by omega) e).2, if_neg (nI_ne0 e (by omega)), Int64.add_zero]
    funext j
    by_cases z : j = c
    · rw [z, pk_uLs]
    · rw [pk_uLn z]
theorem od_gw {a g : Nat → Int32} {m nd fr : Nat} {wit own : Int32} (hnd : nd ≤ 10) (hD : pDo a g nd) (hW : wfD g nd) (hM : pOne a g m wit own) (n : Nat) : ag8L (odC a (opN a a m wit own nd) nd fr n) (gwX g m nd fr n) := by
  unfold odC gwX
  refine it_rel (fun (s t : (Nat → Int64) × (Nat → Int64)) => ag8L s.1 t.1) n (fun k s t _ hs => ?_) ?_
  · intro j hj
    show va_cpy _ _ 0 0 8 j = va_cpy _ _ 0 0 8 j
    rw [pk_cpy_in (Nat.zero_le _) (by omega), pk_cpy_in (Nat.zero_le _) (by omega)]
    exact it_rel ag8L 8 (fun c y y2 hc hy => by rw [so_gw hnd hD hW hM]; exact ag8L_gwC hW hc hs hy) ag8L_fil _ (by omega)
  · intro j hj
    show vp_updL (filJ (fun _ => 0) 0 8) fr 1 j = (if j < 8 then (if j = fr then (1 : Int64) else 0) else 0)
    rw [if_pos hj]
    by_cases e : j = fr
    · rw [e, pk_uLs, if_pos rfl]
    · rw [pk_uLn e, if_neg e]; exact if_pos hj
theorem zs_wander {a g : Nat → Int32} {nd nm : Nat} (h : pRel a g nd nm) (man cell n what : Int32) : wanC a nd nm man cell n what = wanA g nd nm man cell n what := by
  have hnd := h.1
  have hnm := h.2.1
  unfold wanC wanA
  by_cases q : (isB man nm && (isB cell 8 && (isB n 5 && isB what 2))) = true
  · rw [if_pos q, if_pos q]
    rw [Bool.and_eq_true, Bool.and_eq_true, Bool.and_eq_true] at q
    obtain ⟨mm, hmm, rfl⟩ := isB_nat q.1 (by omega)
    obtain ⟨xx, hxx, rfl⟩ := isB_nat q.2.1 (by omega)
    obtain ⟨nn, hnn, rfl⟩ := isB_nat q.2.2.1 (by omega)
    rw [show tN (nI mm) = mm from nIc (by omega), show tN (nI xx) = xx from nIc (by omega), show tN (nI nn) = nn from nIc (by omega)]
    obtain ⟨hc1, hc2, hc3⟩ := h.cell hmm
    unfold opM
    rw [hc1, od_gw hnd h.2.2.1 h.2.2.2.2.1 (h.one hmm) nn xx hxx]
    obtain ⟨o, ho, eo⟩ := gwX_at (m := mm) (n := nn) h.2.2.2.2.1 hnd hc2 (by omega) hxx
    obtain ⟨p1, p2, p3⟩ := pw2520 nn (by omega)
    rw [eo, p3, cd_100 p2 ho, cdE_N (by omega) (by omega), Nat.gcd_comm (2520 ^ nn) o]
    have hg : 0 < Nat.gcd o (2520 ^ nn) := Nat.gcd_pos_of_pos_right _ p1
    have hg2 : Nat.gcd o (2520 ^ nn) ≤ 2520 ^ nn := Nat.gcd_le_right _ p1
    rw [if_pos (by rw [Int64.lt_iff_toInt_lt, lN_tI (by omega), show (0 : Int64).toInt = 0 from rfl]; omega)]
  · rw [if_neg q, if_neg q]
