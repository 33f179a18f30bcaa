/-! the class: what one man could do from now on -/
def ioB (op : Nat → Int32) (c d : Nat) (sh : Int32) : Bool := decide (((op c &&& (sh ^^^ (-1))) >>> (nI d &&& 31)) &&& nI 1 = nI 1)
def beN (a : Nat → Int32) (d c : Nat) : Nat := tN (beF a d (nI c))
theorem be_ok {a : Nat → Int32} {nd d c : Nat} (hW : wfD a nd) (hd : d < nd) : beF a d (nI c) = nI (beN a d c) ∧ beN a d c < 8 := by
  obtain ⟨⟨x, hx, ex⟩, ⟨y, hy, ey⟩⟩ := hW d hd
  unfold beN tN
  unfold beF
  rw [ex, ey]
  split
  · rw [nIc (by omega)]; exact ⟨rfl, hy⟩
  · rw [nIc (by omega)]; exact ⟨rfl, hx⟩
theorem it_s {α : Type} (F : Nat → α → α) (k : Nat) (s : α) : it F (k + 1) s = F k (it F k s) := rfl
/-- far, rows -/
abbrev sp4 : Type := (Nat → Int32) × (Nat → Int32)
/-- a DOOR of a CELL; th: what the CELLS behind it get -/
def spD (a op : Nat → Int32) (sh : Int32) (c : Nat) (th : Int32) (d : Nat) (s : sp4) : sp4 :=
  if ioB op c d sh = true then
    (if 0 ≤ s.1 (beN a d c) then
      (if s.1 (beN a d c) = th then (s.1, upd s.2 (beN a d c) (rmF (s.2 (beN a d c) + s.2 c))) else s)
    else (upd s.1 (beN a d c) th, upd s.2 (beN a d c) (rmF (s.2 (beN a d c) + s.2 c))))
  else s
/-- a CELL, if it is n far -/
def spC (a op : Nat → Int32) (sh : Int32) (nd n c : Nat) (s : sp4) : sp4 := if s.1 c = nI n then it (spD a op sh c (s.1 c + nI 1)) nd s else s
def spK (a op : Nat → Int32) (sh : Int32) (nd n : Nat) (s : sp4) : sp4 := it (spC a op sh nd n) 8 s
def spI (f h : Nat → Int32) (fr : Nat) : sp4 := (upd (filI f (-4) 8) fr (nI 0), upd (filI h (nI 0) 8) fr (nI 1))
def spF (a op f h : Nat → Int32) (sh : Int32) (fr nd : Nat) : sp4 := it (spK a op sh nd) 8 (spI f h fr)
def rchC (f : Nat → Int32) : Nat → Int32
  | 0 => nI 0
  | c + 1 => if f c < 0 then rchC f c else rchC f c ||| bitI c
