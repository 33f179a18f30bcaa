/-! HUNT, as the reference says it -/
def anyS (p : Nat → Bool) (d : Nat) (b : Bool) : Bool := b || p d
def allS (p : Nat → Bool) (d : Nat) (b : Bool) : Bool := b && p d
theorem any_stop {p : Nat → Bool} {d nd : Nat} (hd : d ≤ nd) (h : it (anyS p) d false = true) : it (anyS p) nd false = true := by
  rw [it_stop (k := d) (fun j => by rw [h]; rfl) nd hd, h]
theorem all_stop {p : Nat → Bool} {d nd : Nat} (hd : d ≤ nd) (h : it (allS p) d true = false) : it (allS p) nd true = false := by
  rw [it_stop (k := d) (fun j => by rw [h]; rfl) nd hd, h]
def oneP (g : Nat → Int32) (m fr to : Nat) (but : Int32) (d : Nat) : Bool := !hasB but d && (psB g m d (nI fr) && decide (bhF g d (nI fr) = nI to))
def oneB (g : Nat → Int32) (m fr to : Nat) (but : Int32) (nd : Nat) : Bool := it (anyS (oneP g m fr to but)) nd false
def twoP (g : Nat → Int32) (m fr to : Nat) (but : Int32) (nd d : Nat) : Bool := !hasB but d && (psB g m d (nI fr) && (decide (btF g d fr = to) || it (allS (fun e => oneB g m (btF g d fr) to (but ||| bitI e) nd)) nd true))
def twoB (g : Nat → Int32) (m fr to : Nat) (but : Int32) (nd : Nat) : Bool := it (anyS (twoP g m fr to but nd)) nd false
def thrP (g : Nat → Int32) (m fr to nd d : Nat) : Bool := psB g m d (nI fr) && (decide (btF g d fr = to) || it (allS (fun e => twoB g m (btF g d fr) to (bitI e) nd)) nd true)
def thrB (g : Nat → Int32) (m fr to nd : Nat) : Bool := it (anyS (thrP g m fr to nd)) nd false
def hunF (g : Nat → Int32) (m fr to nd n : Nat) : Int32 :=
  if fr = to then nI 0 else if 0 < n ∧ oneB g m fr to (nI 0) nd = true then nI 1 else if 1 < n ∧ twoB g m fr to (nI 0) nd = true then nI 2 else if 2 < n ∧ thrB g m fr to nd = true then nI 3 else -4
def hunA (g : Nat → Int32) (nd nm : Nat) (man cell n : Int32) : Int32 := if isB man nm && (isB cell 8 && isB n 4) then hunF g (tN man) (ceF g (tN man)) (tN cell) nd (tN n) else -1
/-- the way back: how far each CELL is from one -/
def llD (g : Nat → Int32) (m n c d : Nat) (f : Nat → Int32) : Nat → Int32 := if f c = nI 1000000 then upd f c (if psB g m d (nI c) = true ∧ f (btF g d c) = nI n then nI (n + 1) else f c) else f
def llC (g : Nat → Int32) (m nd n c : Nat) (f : Nat → Int32) : Nat → Int32 := it (llD g m n c) nd f
def llN (g : Nat → Int32) (m nd n : Nat) (f : Nat → Int32) : Nat → Int32 := it (llC g m nd n) 8 f
def llF (g f : Nat → Int32) (m to nd : Nat) : Nat → Int32 := it (llN g m nd) 8 (inR8 f to (nI 0) (nI 1000000) 8)
theorem llC_stop {g : Nat → Int32} {m nd n c d : Nat} {s f : Nat → Int32} (hd : d ≤ nd) (he : f = it (llD g m n c) d s) (hc : ¬ f c = nI 1000000) : f = llC g m nd n c s := by
  unfold llC
  rw [it_stop (k := d) (fun j => by rw [← he]; unfold llD; rw [if_neg hc]) nd hd]
  exact he
theorem all_end {P : Nat → Bool} {e nd : Nat} {al : Bool} {u v : Nat} (hct : u = v → e = 0) (hal : al = it (allS P) e true) (he : e ≤ nd) (h : e = nd ∨ u = v ∨ al = false) : al = (decide (u = v) || it (allS P) nd true) := by
  by_cases hq : u = v
  · rw [hal, hct hq]; simp [hq, it]
  · rcases h with h | h | h
    · rw [hal, h]; simp [hq]
    · exact absurd h hq
    · rw [h] at hal ⊢
      simp [hq, all_stop he hal.symm]
theorem two_end {g : Nat → Int32} {m fr to nd d e : Nat} {but : Int32} {al is_ : Bool} (h1 : is_ = false) (h2 : hasB but d = false) (h3 : psB g m d (nI fr) = true) (hct : btF g d fr = to → e = 0) (hal : al = it (allS (fun e => oneB g m (btF g d fr) to (but ||| bitI e) nd)) e true) (he : e ≤ nd) (h : e = nd ∨ btF g d fr = to ∨ al = false) : al = anyS (twoP g m fr to but nd) d is_ := by
  unfold anyS twoP
  rw [h1, h2, h3, ← all_end hct hal he h]
  rfl
theorem thr_end {g : Nat → Int32} {m fr to nd d e : Nat} {al is_ : Bool} (h1 : is_ = false) (h3 : psB g m d (nI fr) = true) (hct : btF g d fr = to → e = 0) (hal : al = it (allS (fun e => twoB g m (btF g d fr) to (bitI e) nd)) e true) (he : e ≤ nd) (h : e = nd ∨ btF g d fr = to ∨ al = false) : al = anyS (thrP g m fr to nd) d is_ := by
  unfold anyS thrP
  rw [h1, h3, ← all_end hct hal he h]
  rfl
