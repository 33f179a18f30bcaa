/-! the class: item, copy -/
def holdB (f : Nat → Int32) (s : Nat) : Bool := decide (¬ f (3 * s) = nI 0)
theorem holdB_eq {f : Nat → Int32} {s : Nat} {b : Bool} (h : f (3 * s) = b2 b) : holdB f s = b := by
  unfold holdB; rw [h]; cases b <;> decide
theorem flC_nat {f : Nat → Int32} {s sz : Nat} {hold : Bool} {lane i n : Int32} (hsz : f (3 * s + 2) = nI sz) (h24 : sz ≤ 24) (h : 0 ≤ flC f s hold lane i n) : hold = true ∧ f (3 * s + 1) = lane ∧ ∃ j k, j + k ≤ sz ∧ i = nI j ∧ n = nI k := by
  unfold flC at h
  split at h
  · exact absurd h (by decide)
  · rename_i h1
    split at h
    · rename_i h2
      split at h
      · exact absurd h (by decide)
      · rename_i h3
        split at h
        · exact absurd h (by decide)
        · rename_i h4
          split at h
          · rename_i h5
            obtain ⟨j, hj, rfl⟩ := nI_of h3
            obtain ⟨k, hk, rfl⟩ := nI_of h4
            refine ⟨by cases hold <;> simp_all, h2, j, k, ?_, rfl, rfl⟩
            rw [hsz, Int32.le_iff_toInt_le, nI_toInt hj] at h5
            have hs : (nI sz - nI k).toInt = (sz : Int) - k := by
              rw [Int32.toInt_sub, nI_toInt (by omega), nI_toInt hk]
              exact Int.bmod_eq_of_le (by omega) (by omega)
            rw [hs] at h5
            omega
          · exact absurd h (by decide)
    · exact absurd h (by decide)
theorem flC_neg {f : Nat → Int32} {s : Nat} {hold : Bool} {lane i n : Int32} (h : ¬ flC f s hold lane i n = 0) : ¬ 0 ≤ flC f s hold lane i n := by
  intro q
  apply h
  unfold flC at q ⊢
  split at q
  · exact absurd q (by decide)
  · rename_i h1
    rw [if_neg h1]
    split at q
    · rename_i h2
      rw [if_pos h2]
      split at q
      · exact absurd q (by decide)
      · rename_i h3
        rw [if_neg h3]
        split at q
        · exact absurd q (by decide)
        · rename_i h4
          rw [if_neg h4]
          split at q
          · rename_i h5
            rw [if_pos h5]
            rfl
          · exact absurd q (by decide)
    · exact absurd q (by decide)
def itmA (f : Nat → Int32) (sheet lane i : Int32) : Int32 := if isB sheet 4 && isB lane 4 then (if 0 ≤ flC f (tN sheet) (holdB f (tN sheet)) lane i (nI 1) then nI 1 else flC f (tN sheet) (holdB f (tN sheet)) lane i (nI 1)) else -1
def itmJ (I : Nat → Nat → Int32) (J : Nat → Nat → Int64) (sheet lane i : Int32) (v : Int64) : Nat → Nat → Int64 := if (isB sheet 4 && isB lane 4) = true ∧ 0 ≤ flC (I 33) (tN sheet) (holdB (I 33) (tN sheet)) lane i (nI 1) then srJ J (2 + tN sheet) (vp_updL (J (2 + tN sheet)) (tN i) (cutC (I 33 (3 * tN sheet + 1)) v)) else J
theorem jnat1 {sz j k : Nat} (h24 : sz ≤ 24) (hj : j + k ≤ sz) (h : nI 1 = nI k) : k = 1 := ((nI_eq (by decide) (by omega)).mp h).symm
def cpyF (f : Nat → Int32) (a b : Nat) (i j n : Int32) : Int32 := if flC f b (holdB f b) (f (3 * a + 1)) j n = 0 then flC f a (holdB f a) (f (3 * a + 1)) i n else flC f b (holdB f b) (f (3 * a + 1)) j n
def cpyA (f : Nat → Int32) (fr i to j n : Int32) : Int32 :=
  if isB fr 4 && isB to 4 then (if holdB f (tN fr) && holdB f (tN to) then (if 0 ≤ cpyF f (tN fr) (tN to) i j n then n else cpyF f (tN fr) (tN to) i j n) else -11) else -1
def cpyJ (I : Nat → Nat → Int32) (J : Nat → Nat → Int64) (fr i to j n : Int32) : Nat → Nat → Int64 :=
  if (isB fr 4 && isB to 4) = true ∧ (holdB (I 33) (tN fr) && holdB (I 33) (tN to)) = true ∧ 0 ≤ cpyF (I 33) (tN fr) (tN to) i j n then srJ J (2 + tN to) (va_cpy (J (2 + tN fr)) (J (2 + tN to)) (tN i) (tN j) (tN n)) else J
