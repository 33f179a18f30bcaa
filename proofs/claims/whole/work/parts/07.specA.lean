/-! what the small methods answer, in one set of words for class and reference: g is a prison's row of numbers -/
def isB (x : Int32) (n : Nat) : Bool := decide (0 ≤ x.toInt) && decide (x.toInt < (n : Int))
def inR (v lo hi : Int64) : Bool := !decide (v < lo) && !decide (hi < v)
def hasB (set : Int32) (k : Nat) : Bool := decide ((set >>> (nI k &&& 31)) &&& nI 1 = nI 1)
def bitI (k : Nat) : Int32 := nI 1 <<< (nI k &&& 31)
/-- the other CELL of a DOOR; -4: it is not of this one -/
def bhF (g : Nat → Int32) (d : Nat) (cell : Int32) : Int32 := if g (11 + d) = cell then g (21 + d) else if g (21 + d) = cell then g (11 + d) else -4
def oddB (cell : Int32) : Bool := decide (cell - cell / nI 2 * nI 2 = nI 1)
/-- POWER by KIND -/
def pwF (kind wit own cell failed sort : Int32) : Int32 :=
  if kind = nI 1 then wit + (if sort = own then nI 3 else nI 0)
  else if kind = nI 2 then wit + (if oddB cell then nI 2 else nI 0)
  else if kind = nI 3 then (if sort = 0 then nI 0 else wit + (if sort = own then nI 3 else nI 0))
  else if kind = nI 4 then (wit + (if oddB cell then nI 2 else nI 0)) + (if failed ≤ nI 9 then failed else nI 9)
  else wit
def paF (g : Nat → Int32) (m d : Nat) (cell : Int32) : Int32 := pwF (g (3 + m)) (g (63 + m)) (g (7 + m)) cell (g (59 + m)) (g (31 + d))
def psB (g : Nat → Int32) (m d : Nat) (cell : Int32) : Bool := decide (¬ bhF g d cell = -4) && (hasB (g (55 + m)) d || !decide (paF g m d cell < g (41 + d)))
theorem isB_iff {x : Int32} {n : Nat} : isB x n = true ↔ 0 ≤ x.toInt ∧ x.toInt < (n : Int) := by simp [isB]
theorem isB_nat {x : Int32} {n : Nat} (h : isB x n = true) (hn : n < 2 ^ 31) : ∃ j : Nat, j < n ∧ x = nI j := vp_in_of (vp_in_iff.mpr (isB_iff.mp h)) hn
theorem isB_nI {j n : Nat} (h : j < n) (hn : n < 2 ^ 31) : isB (nI j) n = true := by rw [isB_iff, nI_toInt (by omega)]; omega
theorem inR_isB {x : Int32} {n : Nat} {hi : Int64} (hh : hi.toInt = (n : Int) - 1) : inR x.toInt64 0 hi = isB x n := by
  have h1 : x.toInt64 < 0 ↔ ¬ 0 ≤ x.toInt := by rw [Int64.lt_iff_toInt_lt, Int32.toInt_toInt64, show (0 : Int64).toInt = 0 from rfl]; omega
  have h2 : hi < x.toInt64 ↔ ¬ x.toInt < (n : Int) := by rw [Int64.lt_iff_toInt_lt, Int32.toInt_toInt64, hh]; omega
  rw [Bool.eq_iff_iff]
  simp only [inR, isB, h1, h2, Bool.and_eq_true, Bool.not_eq_true', decide_eq_false_iff_not, decide_eq_true_eq]
  omega
theorem inR_isB1 {x : Int32} {n : Nat} (hn : n < 2 ^ 31) : inR x.toInt64 0 (nI n - nI 1).toInt64 = isB x n := by
  refine inR_isB ?_
  rw [Int32.toInt_toInt64]
  rcases n with _ | n
  · decide
  · rw [show nI (n + 1) - nI 1 = nI n from pk_sub (by omega), nI_toInt (by omega)]
    omega
theorem bI_eq {x : Int32} {n : Nat} (hn : n < 2 ^ 31) : (¬ x < 0) ∧ x < nI n ↔ isB x n = true := by
  rw [isB_iff, Int32.lt_iff_toInt_lt, Int32.lt_iff_toInt_lt, nI_toInt hn, show (0 : Int32).toInt = 0 from rfl]; omega
def fsF (g : Nat → Int32) : Nat → Int32
  | 0 => nI 0
  | m + 1 => fsF g m + g (59 + m)
def hsF (g : Nat → Int32) : Nat → Int32
  | 0 => nI 0
  | d + 1 => hsF g d + g (41 + d)
def clF (g : Nat → Int32) : Nat → Int32
  | 0 => nI 0
  | m + 1 => clF g m ||| (nI 1 <<< (g (51 + m) &&& 31))
def poF (g : Nat → Int32) (m : Nat) (cell : Int32) : Nat → Int32
  | 0 => nI 0
  | d + 1 => poF g m cell d ||| (if psB g m d cell then bitI d else nI 0)
def knF (g : Nat → Int32) (d : Nat) : Nat → Int32
  | 0 => nI 0
  | m + 1 => knF g d m ||| (if hasB (g (55 + m)) d then bitI m else nI 0)
def pmF (g : Nat → Int32) (d : Nat) : Nat → Int32
  | 0 => nI 0
  | m + 1 => pmF g d m ||| (if psB g m d (g (51 + m)) then bitI m else nI 0)
/-- of(door, what) -/
def ofF (g : Nat → Int32) (nd nm : Nat) (door what : Int32) : Int32 :=
  if isB door nd = true then
    if what = nI 0 then g (11 + door.toNatClampNeg) else if what = nI 1 then g (21 + door.toNatClampNeg) else if what = nI 2 then g (31 + door.toNatClampNeg)
    else if what = nI 3 then g (41 + door.toNatClampNeg) else if what = nI 4 then knF g door.toNatClampNeg nm else if what = nI 5 then pmF g door.toNatClampNeg nm else -1
  else -1
def atF (g : Nat → Int32) (nd nm : Nat) (man what : Int32) : Int32 :=
  if isB man nm = true then
    if what = nI 0 then g (3 + man.toNatClampNeg) else if what = nI 1 then g (63 + man.toNatClampNeg) else if what = nI 2 then g (7 + man.toNatClampNeg)
    else if what = nI 3 then g (51 + man.toNatClampNeg) else if what = nI 4 then g (55 + man.toNatClampNeg) else if what = nI 5 then g (59 + man.toNatClampNeg)
    else if what = nI 6 then poF g man.toNatClampNeg (g (51 + man.toNatClampNeg)) nd else -1
  else -1
def powF (g : Nat → Int32) (nd nm : Nat) (man door : Int32) : Int32 :=
  if isB man nm = true ∧ isB door nd = true then
    if bhF g door.toNatClampNeg (g (51 + man.toNatClampNeg)) = -4 then -2 else paF g man.toNatClampNeg door.toNatClampNeg (g (51 + man.toNatClampNeg))
  else -1
/-- count(what); h: what may be UNDONE -/
def cntF (g : Nat → Int32) (nd nm : Nat) (h what : Int32) : Int32 :=
  if what = nI 0 then nI nd else if what = nI 1 then nI nm else if what = nI 2 then hsF g nd else if what = nI 3 then fsF g nm else if what = nI 4 then clF g nm else if what = nI 5 then h else -1
theorem isB_6 {x : Int32} (h : isB x 6 = true) : x = nI 0 ∨ x = nI 1 ∨ x = nI 2 ∨ x = nI 3 ∨ x = nI 4 ∨ x = nI 5 := by
  obtain ⟨j, hj, rfl⟩ := isB_nat h (by decide)
  rcases (show j = 0 ∨ j = 1 ∨ j = 2 ∨ j = 3 ∨ j = 4 ∨ j = 5 by omega) with rfl | rfl | rfl | rfl | rfl | rfl <;> simp
theorem isB_no {x : Int32} {n j : Nat} (h : isB x n = false) (hj : j < n) (hn : n < 2 ^ 31) : ¬ x = nI j := by rintro rfl; rw [isB_nI hj hn] at h; cases h
theorem nIn {a b : Nat} (h : a ≠ b) (ha : a < 2147483648) (hb : b < 2147483648) : (nI a = nI b) = False := eq_false (fun q => h ((nI_eq ha hb).mp q))
theorem nIc {a : Nat} (ha : a < 2147483648) : (nI a).toNatClampNeg = a := nI_clamp ha
