/-! the class: doors, men, prisons: what they answer (a, b: rows of a prison and of a man's prison) -/
theorem ad0 (x : Int32) : x + nI 0 = x := Int32.add_zero x
theorem min9 (x : Int32) : (if nI 9 < x then nI 9 else x) = (if x ≤ nI 9 then x else nI 9) := by
  by_cases h : x ≤ nI 9
  · rw [if_pos h, if_neg (Int32.not_lt.mpr h)]
  · rw [if_neg h, if_pos (Int32.not_le.mp h)]
def atB (a : Nat → Int32) (d : Nat) (cell : Int32) : Bool := decide (a (11 + d) = cell) || decide (a (21 + d) = cell)
def beF (a : Nat → Int32) (d : Nat) (cell : Int32) : Int32 := if cell = a (11 + d) then a (21 + d) else a (11 + d)
def pwM (a b : Nat → Int32) (m d : Nat) : Int32 := pwF (b (3 + m)) (b (63 + m)) (b (7 + m)) (b (51 + m)) (b (59 + m)) (a (31 + d))
def paB (a b : Nat → Int32) (m d n : Nat) : Bool := hasB (b (55 + m)) n || !decide (pwM a b m d < a (41 + d))
def opB (a b : Nat → Int32) (m d : Nat) : Bool := atB a d (b (51 + m)) && paB a b m d d
def doF (a b : Nat → Int32) (m : Nat) : Nat → Int32
  | 0 => nI 0
  | d + 1 => if opB a b m d then doF a b m d ||| bitI d else doF a b m d
def mpF (a : Nat → Int32) (d : Nat) : Nat → Int32
  | 0 => nI 0
  | m + 1 => if opB a a m d then mpF a d m ||| bitI m else mpF a d m
def mkF (a : Nat → Int32) (d : Nat) : Nat → Int32
  | 0 => nI 0
  | m + 1 => if hasB (a (55 + m)) d then mkF a d m ||| bitI m else mkF a d m
