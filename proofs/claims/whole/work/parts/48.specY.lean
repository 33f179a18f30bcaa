/-! the class: what one man could do from now on -/
def ioB (op : Nat → Int32) (c d : Nat) (sh : Int32) : Bool := decide (((op c &&& (sh ^^^ (-1))) >>> (nI d &&& 31)) &&& nI 1 = nI 1)
def beN (a : Nat → Int32) (d c : Nat) : Nat := tN (beF a d (nI c))
theorem be_ok {a : Nat → Int32} {nd d c : Nat} (hW : wfD a nd) (hd : d < nd) : beF a d (nI c) = nI (beN a d c) ∧ beN a d c < 8 := by
  obtain ⟨⟨x, hx, ex⟩, ⟨y, hy, ey⟩⟩ := hW d hd
  unfold beN tN
  unfold beF
  rw [ex, ey]
  split
  · rw [nIc (by omega)]; exact ⟨rfl, hy⟩
  · rw [nIc (by omega)]; exact ⟨rfl, hx⟩
/-- far, rows, queue, found -/
abbrev sp4 : Type := (Nat → Int32) × (Nat → Int32) × (Nat → Int32) × Nat
def spD (a op : Nat → Int32) (sh : Int32) (c d : Nat) (s : sp4) : sp4 :=
  if ioB op c d sh = true then
    (if 0 ≤ s.1 (beN a d c) then
      (if s.1 (beN a d c) = s.1 c + nI 1 then (s.1, upd s.2.1 (beN a d c) (rmF (s.2.1 (beN a d c) + s.2.1 c)), s.2.2.1, s.2.2.2) else s)
    else
      (if upd s.1 (beN a d c) (s.1 c + nI 1) (beN a d c) = upd s.1 (beN a d c) (s.1 c + nI 1) c + nI 1 then (upd s.1 (beN a d c) (s.1 c + nI 1), upd s.2.1 (beN a d c) (rmF (s.2.1 (beN a d c) + s.2.1 c)), upd s.2.2.1 s.2.2.2 (nI (beN a d c)), s.2.2.2 + 1)
       else (upd s.1 (beN a d c) (s.1 c + nI 1), s.2.1, upd s.2.2.1 s.2.2.2 (nI (beN a d c)), s.2.2.2 + 1)))
  else s
def spK (a op : Nat → Int32) (sh : Int32) (nd k : Nat) (s : sp4) : sp4 := if k < s.2.2.2 then it (spD a op sh (tN (s.2.2.1 k))) nd s else s
def spI (f h q : Nat → Int32) (fr : Nat) : sp4 := (upd (filI f (-4) 8) fr (nI 0), upd (filI h (nI 0) 8) fr (nI 1), upd q 0 (nI fr), 1)
def spF (a op f h q : Nat → Int32) (sh : Int32) (fr nd : Nat) : sp4 := it (spK a op sh nd) 8 (spI f h q fr)
theorem spK_ge {a op : Nat → Int32} {sh : Int32} {nd : Nat} {s : sp4} {k n : Nat} (h : (it (spK a op sh nd) k s).2.2.2 ≤ k) : ∀ m, k ≤ m → m ≤ n → it (spK a op sh nd) m s = it (spK a op sh nd) k s := by
  intro m hm _
  induction m with
  | zero => rw [show k = 0 by omega]
  | succ m ih =>
    by_cases hk : k = m + 1
    · rw [hk]
    · show spK a op sh nd m (it (spK a op sh nd) m s) = _
      rw [ih (by omega) (by omega)]
      unfold spK
      rw [if_neg (by unfold spK at h; omega)]
def rchC (f : Nat → Int32) : Nat → Int32
  | 0 => nI 0
  | c + 1 => if f c < 0 then rchC f c else rchC f c ||| bitI c
theorem q_push {q : Nat → Int32} {fo t : Nat} (h : ∀ j, j < fo → ∃ c, c < 8 ∧ q j = nI c) (ht : t < 8) : ∀ j, j < fo + 1 → ∃ c, c < 8 ∧ upd q fo (nI t) j = nI c := by
  intro j hj
  by_cases e : j = fo
  · exact ⟨t, ht, by rw [e, pk_us]⟩
  · rw [pk_un e]; exact h j (by omega)
