/-! scratch rows; what is foretold, as the reference says it -/
def scr (r : Nat) : Prop := r = 43 ∨ r = 44 ∨ r = 45 ∨ r = 46 ∨ r = 47 ∨ r = 52 ∨ r = 53
/-- only scratch has changed -/
def SM (I I2 : Nat → Nat → Int32) : Prop := (∀ r, r ≠ 40 → ¬ scr r → I2 r = I r) ∧ I2 40 0 = I 40 0 ∧ I2 40 2 = I 40 2
def SMJ (J J2 : Nat → Nat → Int64) : Prop := ∀ r, r ≠ 10 → r ≠ 11 → r ≠ 13 → J2 r = J r
def SMs (st u : jS) : Prop := SM st.1 u.1 ∧ SMJ st.2.1 u.2.1 ∧ u.2.2 = st.2.2
theorem SM.rf {I : Nat → Nat → Int32} : SM I I := ⟨fun _ _ _ => rfl, rfl, rfl⟩
theorem SM.sr {I I2 : Nat → Nat → Int32} {r : Nat} {f : Nat → Int32} (h : SM I I2) (hr : scr r) : SM I (sr I2 r f) := by
  have h40 : ¬ 40 = r := by rcases hr with rfl | rfl | rfl | rfl | rfl | rfl | rfl <;> decide
  refine ⟨fun q h1 h2 => ?_, ?_, ?_⟩
  · rw [sr_ne (show q ≠ r by rintro rfl; exact h2 hr)]; exact h.1 q h1 h2
  · rw [sr_ne h40]; exact h.2.1
  · rw [sr_ne h40]; exact h.2.2
theorem SM_40 {I I2 : Nat → Nat → Int32} {f : Nat → Int32} (h : SM I I2) (h0 : f 0 = I 40 0) (h2 : f 2 = I 40 2) : SM I (sr I2 40 f) := by
  refine ⟨fun q h1 h2 => ?_, ?_, ?_⟩
  · rw [sr_ne h1]; exact h.1 q h1 h2
  · rw [sr_self]; exact h0
  · rw [sr_self]; exact h2
theorem SM_41 {I I2 : Nat → Nat → Int32} {f : Nat → Int32} (h : SM I I2) (h0 : f = I 41) : SM I (sr I2 41 f) := by
  refine ⟨fun q h1 h2 => ?_, ?_, ?_⟩
  · by_cases e : q = 41
    · subst e; rw [sr_self]; exact h0
    · rw [sr_ne e]; exact h.1 q h1 h2
  · rw [sr_ne (by decide)]; exact h.2.1
  · rw [sr_ne (by decide)]; exact h.2.2
theorem scr43 : scr 43 := Or.inl rfl
theorem scr44 : scr 44 := Or.inr (Or.inl rfl)
theorem scr45 : scr 45 := Or.inr (Or.inr (Or.inl rfl))
theorem scr46 : scr 46 := Or.inr (Or.inr (Or.inr (Or.inl rfl)))
theorem scr47 : scr 47 := Or.inr (Or.inr (Or.inr (Or.inr (Or.inl rfl))))
theorem scr52 : scr 52 := Or.inr (Or.inr (Or.inr (Or.inr (Or.inr (Or.inl rfl)))))
theorem scr53 : scr 53 := Or.inr (Or.inr (Or.inr (Or.inr (Or.inr (Or.inr rfl)))))
theorem SMJ.rf {J : Nat → Nat → Int64} : SMJ J J := fun _ _ _ _ => rfl
abbrev tN (x : Int32) : Nat := x.toNatClampNeg
def ceF (g : Nat → Int32) (m : Nat) : Nat := tN (g (51 + m))
def waysA (g : Nat → Int32) (nd nm : Nat) (man cell : Int32) : Int32 := if isB man nm && isB cell 8 then (lsZ g (tN man) (nI 0) (ceF g (tN man)) nd).2 (tN cell) else -1
def reachA (g : Nat → Int32) (nd nm : Nat) (man : Int32) : Int32 := if isB man nm then rchF (lsZ g (tN man) (nI 0) (ceF g (tN man)) nd).1 8 else -1
def cutS (g : Nat → Int32) (m fr nd cell s : Nat) (b : Int32) : Int32 := if (b = -4 ∨ ¬ bitsF b ≤ bitsF (nI s)) ∧ rbB g m (nI s) fr nd cell = false then nI s else b
def cutF (g : Nat → Int32) (m fr nd cell : Nat) : Int32 := it (cutS g m fr nd cell) (2 ^ nd) (-4)
def cutA (g : Nat → Int32) (nd nm : Nat) (man cell what : Int32) : Int32 :=
  if isB man nm && (isB cell 8 && isB what 2) then
    (if g (51 + tN man) = cell then -4 else if what = nI 0 then bitsF (cutF g (tN man) (ceF g (tN man)) nd (tN cell)) else cutF g (tN man) (ceF g (tN man)) nd (tN cell))
  else -1
def briS (g : Nat → Int32) (m fr nd cell d : Nat) (b : Int32) : Int32 := b ||| (if rbB g m (bitI d) fr nd cell then nI 0 else bitI d)
def briA (g : Nat → Int32) (nd nm : Nat) (man cell : Int32) : Int32 :=
  if isB man nm && isB cell 8 then
    (if g (51 + tN man) = cell then nI 0 else if rbB g (tN man) (nI 0) (ceF g (tN man)) nd (tN cell) then it (briS g (tN man) (ceF g (tN man)) nd (tN cell)) nd (nI 0) else nI 0)
  else -1
/-- of two, the larger one -/
def mxI (a b : Int32) : Int32 := if a ≤ b then b else a
def meeS (a b : Nat → Int32) (c : Nat) (s : Int32 × Int32) : Int32 × Int32 := (if s.2 ≤ mxI (a c) (b c) then s.1 else nI c, if s.2 ≤ mxI (a c) (b c) then s.2 else mxI (a c) (b c))
def meeF (a b : Nat → Int32) : Int32 × Int32 := it (meeS a b) 8 (-4, nI 1000000)
def meeA (g : Nat → Int32) (nd nm : Nat) (man other what : Int32) : Int32 :=
  if isB man nm && (isB other nm && (!decide (man = other) && isB what 2)) then
    (if (meeF (lsZ g (tN man) (nI 0) (ceF g (tN man)) nd).1 (lsZ g (tN other) (nI 0) (ceF g (tN other)) nd).1).1 = -4 ∨ what = nI 0 then (meeF (lsZ g (tN man) (nI 0) (ceF g (tN man)) nd).1 (lsZ g (tN other) (nI 0) (ceF g (tN other)) nd).1).1
      else (meeF (lsZ g (tN man) (nI 0) (ceF g (tN man)) nd).1 (lsZ g (tN other) (nI 0) (ceF g (tN other)) nd).1).2)
  else -1
