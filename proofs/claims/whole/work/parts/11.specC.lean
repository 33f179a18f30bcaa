/-! loops as iterates; what the reference foretells -/
def it {α : Type} (F : Nat → α → α) : Nat → α → α
  | 0, s => s
  | k + 1, s => F k (it F k s)
theorem it_stop {α : Type} {F : Nat → α → α} {s : α} {k : Nat} (h : ∀ j, F j (it F k s) = it F k s) : ∀ n, k ≤ n → it F n s = it F k s := by
  intro n hn
  induction n with
  | zero => rw [show k = 0 by omega]
  | succ n ih =>
    by_cases hk : k = n + 1
    · rw [hk]
    · show F n (it F n s) = _
      rw [ih (by omega), h]
def btF (g : Nat → Int32) (d c : Nat) : Nat := (bhF g d (nI c)).toNatClampNeg
/-- the DOORS' CELLS are CELLS -/
def wfD (g : Nat → Int32) (nd : Nat) : Prop := ∀ d, d < nd → (∃ a, a < 8 ∧ g (11 + d) = nI a) ∧ ∃ b, b < 8 ∧ g (21 + d) = nI b
theorem bt_ok {g : Nat → Int32} {nd d c : Nat} (hW : wfD g nd) (hd : d < nd) (h : ¬ bhF g d (nI c) = -4) : bhF g d (nI c) = nI (btF g d c) ∧ btF g d c < 8 := by
  obtain ⟨⟨a, ha, ea⟩, ⟨b, hb, eb⟩⟩ := hW d hd
  unfold btF
  unfold bhF at h ⊢
  rw [ea, eb] at h ⊢
  split
  · rw [nIc (by omega)]; exact ⟨rfl, hb⟩
  · rename_i h1
    rw [if_neg h1] at h
    split
    · rw [nIc (by omega)]; exact ⟨rfl, ha⟩
    · rename_i h2
      rw [if_neg h2] at h
      exact absurd rfl h
theorem ps_bh {g : Nat → Int32} {m d : Nat} {c : Int32} (h : psB g m d c = true) : ¬ bhF g d c = -4 := by
  intro q
  simp [psB, q] at h
theorem ps_ok {g : Nat → Int32} {nd m d c : Nat} (hW : wfD g nd) (hd : d < nd) (h : psB g m d (nI c) = true) : bhF g d (nI c) = nI (btF g d c) ∧ btF g d c < 8 := bt_ok hW hd (ps_bh h)
def rmF (x : Int32) : Int32 := x - x / nI 1000003 * nI 1000003
/-- the first row: 0 at the place 'fr', x elsewhere -/
def inR8 (old : Nat → Int32) (fr : Nat) (z x : Int32) (k : Nat) : Nat → Int32 := fun j => if j < k then (if j = fr then z else x) else old j
theorem inR8_0 (old : Nat → Int32) (fr : Nat) (z x : Int32) : inR8 old fr z x 0 = old := funext fun j => if_neg (by omega)
theorem inR8_step (old : Nat → Int32) (fr : Nat) (z x : Int32) (k : Nat) : upd (inR8 old fr z x k) k (if k = fr then z else x) = inR8 old fr z x (k + 1) := by
  funext j
  by_cases hj : j = k
  · subst hj; rw [pk_us]; simp only [inR8]; rw [if_pos (show j < j + 1 by omega)]
  · rw [pk_un hj]; simp only [inR8]
    by_cases h2 : j < k
    · rw [if_pos h2, if_pos (show j < k + 1 by omega)]
    · rw [if_neg h2, if_neg (show ¬ j < k + 1 by omega)]
abbrev rr2 : Type := (Nat → Int32) × (Nat → Int32)
def lsD (g : Nat → Int32) (m : Nat) (sh : Int32) (n c d : Nat) (s : rr2) : rr2 :=
  if s.1 c = nI n then
    (if hasB sh d = false ∧ psB g m d (nI c) = true then
      (upd s.1 (btF g d c) (if s.1 (btF g d c) = nI 1000000 then nI (n + 1) else s.1 (btF g d c)),
       upd s.2 (btF g d c) (if (if s.1 (btF g d c) = nI 1000000 then nI (n + 1) else s.1 (btF g d c)) = nI (n + 1) then rmF (s.2 (btF g d c) + s.2 c) else s.2 (btF g d c)))
    else s)
  else s
def lsC (g : Nat → Int32) (m : Nat) (sh : Int32) (nd n c : Nat) (s : rr2) : rr2 := it (lsD g m sh n c) nd s
def lsN (g : Nat → Int32) (m : Nat) (sh : Int32) (nd n : Nat) (s : rr2) : rr2 := it (lsC g m sh nd n) 8 s
def lsF (g f h : Nat → Int32) (m : Nat) (sh : Int32) (fr nd : Nat) : rr2 := it (lsN g m sh nd) 8 (inR8 f fr (nI 0) (nI 1000000) 8, inR8 h fr (nI 1) (nI 0) 8)
theorem lsC_stop {g : Nat → Int32} {m : Nat} {sh : Int32} {nd n c d : Nat} {s : rr2} {f h : Nat → Int32} (hd : d ≤ nd) (he : (f, h) = it (lsD g m sh n c) d s) (hc : ¬ f c = nI n) : (f, h) = lsC g m sh nd n c s := by
  unfold lsC
  rw [it_stop (k := d) (fun j => by rw [← he]; unfold lsD; rw [if_neg hc]) nd hd]
  exact he
def rcF (f : Nat → Int32) : Nat → Int32
  | 0 => nI 0
  | c + 1 => rcF f c ||| (if f c < nI 1000000 then bitI c else nI 0)
/-- the reference's count of bits: as long as something is left -/
def biN : Nat → Nat → Int32 → Int32
  | 0, _, n => n
  | f + 1, r, n => if r = 0 then n else biN f (r / 2) (n + (nI r &&& nI 1))
theorem u2_sr2 {I : Nat → Nat → Int32} {r q : Nat} {f h : Nat → Int32} {j : Nat} {v : Int32} (hne : r ≠ q) : u2 (sr (sr I r f) q h) r j v = sr (sr I q h) r (upd f j v) := by
  rw [u2_eq, sr_ne hne, sr_self]
  funext a
  by_cases h1 : a = r
  · subst h1; simp [sr]
  · simp [sr, h1]
theorem u2_sr1 {I : Nat → Nat → Int32} {r q : Nat} {h : Nat → Int32} {j : Nat} {v : Int32} (hne : r ≠ q) : u2 (sr I q h) r j v = sr (sr I q h) r (upd (I r) j v) := by
  rw [u2_eq, sr_ne hne]
theorem v2_srJ2 {I : Nat → Nat → Int64} {r q : Nat} {f h : Nat → Int64} {j : Nat} {v : Int64} (hne : r ≠ q) : v2 (srJ (srJ I r f) q h) r j v = srJ (srJ I q h) r (vp_updL f j v) := by
  rw [v2_eq, srJ_ne hne, srJ_self]
  funext a
  by_cases h1 : a = r
  · subst h1; simp [srJ]
  · simp [srJ, h1]
theorem v2_srJ1 {I : Nat → Nat → Int64} {r q : Nat} {h : Nat → Int64} {j : Nat} {v : Int64} (hne : r ≠ q) : v2 (srJ I q h) r j v = srJ (srJ I q h) r (vp_updL (I r) j v) := by
  rw [v2_eq, srJ_ne hne]
