/-! the class: HEARD, FILM -/
theorem b2_e1 {b : Bool} : (b2 b = nI 1) = (b = true) := by cases b <;> simp [b2] <;> decide
theorem b2_e0 {b : Bool} : (b2 b = nI 0) = (b = false) := by cases b <;> simp [b2] <;> decide
theorem inR_nd {y : Int64} {nd : Nat} (hnd : nd ≤ 10) : inR y 0 (nI nd - nI 1).toInt64 = (!decide (y < 0) && !decide ((nI nd).toInt64 ≤ y)) := by
  have hd : (nI nd - nI 1).toInt = (nd : Int) - 1 := by
    rcases nd with _ | n
    · decide
    · rw [show nI (n + 1) - nI 1 = nI n from pk_sub (by omega), nI_toInt (by omega)]; omega
  unfold inR
  congr 2
  rw [Bool.eq_iff_iff, decide_eq_true_iff, decide_eq_true_iff, Int64.lt_iff_toInt_lt, Int64.le_iff_toInt_le, Int32.toInt_toInt64, Int32.toInt_toInt64, hd, nI_toInt (by omega)]
  omega
theorem inR_01 {y : Int64} : inR y 0 1 = (!decide (y < 0) && decide (y ≤ 1)) := by
  unfold inR
  congr 1
  rw [Bool.eq_iff_iff, decide_eq_true_iff, Bool.not_eq_true', decide_eq_false_iff_not, Int64.not_lt]
/-- his trial: his row, and whether it went as told so far -/
def tgS (a : Nat → Int32) (y : Nat → Int64) (b k : Nat) (s : (Nat → Int32) × Bool) : (Nat → Int32) × Bool := if s.2 = true then (ltR a s.1 0 (tN (y (b + 2 * k)).toInt32), opB a s.1 0 (tN (y (b + 2 * k)).toInt32) == decide (y (b + 2 * k + 1) = 1)) else s
def tgR (a : Nat → Int32) (y : Nat → Int64) (b n : Nat) (u : Nat → Int32) : (Nat → Int32) × Bool := it (tgS a y b) n (u, true)
theorem tg_stop {a : Nat → Int32} {y : Nat → Int64} {b k n : Nat} {u v : Nat → Int32} (hk : k ≤ n) (h : it (tgS a y b) k (u, true) = (v, false)) : tgR a y b n u = (v, false) := by
  unfold tgR
  rw [it_stop (k := k) (fun j => by rw [h]; unfold tgS; exact if_neg (fun z => absurd z Bool.false_ne_true)) n hk, h]
/-- what counts of a man's row -/
def mAg (u v : Nat → Int32) : Prop := u 3 = v 3 ∧ u 63 = v 63 ∧ u 7 = v 7 ∧ u 51 = v 51 ∧ u 55 = v 55 ∧ u 59 = v 59
theorem mAg_op {a u v : Nat → Int32} {d : Nat} (h : mAg u v) : opB a u 0 d = opB a v 0 d := opB_cong h.1 h.2.1 h.2.2.1 h.2.2.2.1 h.2.2.2.2.1 h.2.2.2.2.2
theorem mAg_lt {a u v : Nat → Int32} {d : Nat} (h : mAg u v) : mAg (ltR a u 0 d) (ltR a v 0 d) := by
  obtain ⟨h1, h2, h3, h4, h5, h6⟩ := h
  have e51 : u (51 + 0) = v (51 + 0) := h4
  have e59 : u (59 + 0) = v (59 + 0) := h6
  have ep : paB a u 0 d d = paB a v 0 d d := by
    unfold paB pwM
    rw [show u (51 + 0) = v (51 + 0) from h4, show u (55 + 0) = v (55 + 0) from h5, show u (3 + 0) = v (3 + 0) from h1, show u (63 + 0) = v (63 + 0) from h2, show u (7 + 0) = v (7 + 0) from h3, show u (59 + 0) = v (59 + 0) from h6]
  unfold ltR
  rw [e51, e59, ep]
  split
  · exact ⟨h1, h2, h3, h4, h5, h6⟩
  · split
    · refine ⟨?_, ?_, ?_, ?_, ?_, ?_⟩ <;> simp [upd, *]
    · refine ⟨?_, ?_, ?_, ?_, ?_, ?_⟩ <;> simp [upd, *]
theorem tg_cong {a u v : Nat → Int32} {y : Nat → Int64} {b n : Nat} (h : mAg u v) : (tgR a y b n u).2 = (tgR a y b n v).2 := by
  have h2 := it_rel (F := tgS a y b) (F2 := tgS a y b) (fun (s t : (Nat → Int32) × Bool) => s.2 = t.2 ∧ mAg s.1 t.1) n (fun k s t _ hs => by
    unfold tgS
    rw [hs.1]
    split
    · exact ⟨by rw [mAg_op hs.2], mAg_lt hs.2⟩
    · exact hs) (show (u, true).2 = (v, true).2 ∧ mAg (u, true).1 (v, true).1 from ⟨rfl, h⟩)
  exact h2.1
/-- a man as he would be, were he of a KIND and a WIT -/
def tmR (a : Nat → Int32) (m : Nat) (kind wit : Int32) : Nat → Int32 := fun j => if j = 3 then kind else if j = 63 then wit else if j = 7 then a (7 + m) else if j = 51 then a (51 + m) else if j = 55 then a (55 + m) else if j = 59 then a (59 + m) else nI 0
theorem tm_k {a u : Nat → Int32} {m : Nat} {v : Int32} : mAg (upd (mbR u a 0 m) 3 v) (tmR a m v (a (63 + m))) := by
  refine ⟨?_, ?_, ?_, ?_, ?_, ?_⟩ <;> simp [mbR, tmR, upd]
theorem tm_w {a u : Nat → Int32} {m : Nat} {v : Int32} : mAg (upd (mbR u a 0 m) 63 v) (tmR a m (a (3 + m)) v) := by
  refine ⟨?_, ?_, ?_, ?_, ?_, ?_⟩ <;> simp [mbR, tmR, upd]
def hgB (a : Nat → Int32) (y : Nat → Int64) (m b n what v : Nat) : Bool := (tgR a y b n (if what = 0 then tmR a m (nI v) (a (63 + m)) else tmR a m (a (3 + m)) (nI v))).2
def hgS (a : Nat → Int32) (y : Nat → Int64) (m b n what v : Nat) (set : Int32) : Int32 := if hgB a y m b n what v = true then set ||| bitI v else set
def hgF (a : Nat → Int32) (y : Nat → Int64) (m b n what : Nat) : Int32 := it (hgS a y m b n what) (if what = 0 then 5 else 10) (nI 0)
def n18 (n : Int32) : Bool := !decide (n < nI 1) && !decide (nI 8 < n)
theorem n18_nat {n : Int32} (h1 : ¬ n < nI 1) (h2 : ¬ nI 8 < n) : ∃ k, 1 ≤ k ∧ k ≤ 8 ∧ n = nI k := by
  rw [Int32.lt_iff_toInt_lt, nI_toInt (by decide)] at h1
  rw [Int32.lt_iff_toInt_lt, nI_toInt (by decide)] at h2
  obtain ⟨k, hk, rfl⟩ := isB_nat (x := n) (n := 9) (isB_iff.mpr ⟨by omega, by omega⟩) (by decide)
  rw [nI_toInt (by omega)] at h1 h2
  exact ⟨k, by omega, by omega, rfl⟩
def heaC (a f : Nat → Int32) (J : Nat → Nat → Int64) (nd nm : Nat) (man sheet lane i n what : Int32) : Int32 :=
  if isB man nm && ((isB sheet 4 && isB lane 4) && (n18 n && isB what 2)) then
    (if 0 ≤ flC f (tN sheet) (holdB f (tN sheet)) lane i (nI (2 * tN n)) then
      (if hpB (J (2 + tN sheet)) (tN i) nd (tN n) = true then hgF a (J (2 + tN sheet)) (tN man) (tN i) (tN n) (tN what) else -2)
     else flC f (tN sheet) (holdB f (tN sheet)) lane i (nI (2 * tN n)))
  else -1
def fcR (f : Nat → Int32) (lane : Int32) (y : Nat → Int64) (b n : Nat) : Nat → Int64 := fun j => if b ≤ j ∧ j < b + n then cutC lane (f (j - b)).toInt64 else y j
theorem fcR_0 (f : Nat → Int32) (lane : Int32) (y : Nat → Int64) (b : Nat) : fcR f lane y b 0 = y := funext fun j => if_neg (by omega)
theorem fcR_step (f : Nat → Int32) (lane : Int32) (y : Nat → Int64) (b k : Nat) : vp_updL (fcR f lane y b k) (b + k) (cutC lane (f k).toInt64) = fcR f lane y b (k + 1) := by
  funext j
  by_cases hj : j = b + k
  · subst hj; rw [pk_uLs]; simp only [fcR]; rw [if_pos (show b ≤ b + k ∧ b + k < b + (k + 1) by omega), show b + k - b = k by omega]
  · rw [pk_uLn hj]; simp only [fcR]
    by_cases h2 : b ≤ j ∧ j < b + k
    · rw [if_pos h2, if_pos (show b ≤ j ∧ j < b + (k + 1) by omega)]
    · rw [if_neg h2, if_neg (show ¬ (b ≤ j ∧ j < b + (k + 1)) by omega)]
theorem fcR_cong {f f2 : Nat → Int32} {lane : Int32} {y : Nat → Int64} {b n : Nat} (hn : n ≤ 8) (h : ∀ j, j < 8 → f j = f2 j) : fcR f lane y b n = fcR f2 lane y b n := by
  funext j
  simp only [fcR]
  by_cases h2 : b ≤ j ∧ j < b + n
  · rw [if_pos h2, if_pos h2, h _ (by omega)]
  · rw [if_neg h2, if_neg h2]
def fmOk (nm : Nat) (man n sheet lane : Int32) : Bool := isB man nm && (n18 n && (isB sheet 4 && isB lane 4))
def fmA (f : Nat → Int32) (nm : Nat) (man n sheet lane i : Int32) : Int32 := if fmOk nm man n sheet lane then (if 0 ≤ flC f (tN sheet) (holdB f (tN sheet)) lane i n then n else flC f (tN sheet) (holdB f (tN sheet)) lane i n) else -1
def fmJ (a f : Nat → Int32) (J : Nat → Nat → Int64) (nd nm : Nat) (man n sheet lane i : Int32) : Nat → Nat → Int64 :=
  if fmOk nm man n sheet lane = true ∧ 0 ≤ flC f (tN sheet) (holdB f (tN sheet)) lane i n then srJ J (2 + tN sheet) (fcR (spM a (tN man) nd).1 (f (3 * tN sheet + 1)) (J (2 + tN sheet)) (tN i) (tN n)) else J
