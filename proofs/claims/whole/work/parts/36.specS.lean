/-! the class: what is remembered -/
theorem o2_lt {O : Nat → Nat → Nat} {n X : Nat} (h : ∀ j, j < 8 → O 0 j < 19) (hX : X < 19) : ∀ j, j < 8 → o2 O 0 n X 0 j < 19 := by
  intro j hj
  unfold o2
  split
  · exact hX
  · exact h j hj
theorem okO_lt {O : Nat → Nat → Nat} (h : okO O) : ∀ j, j < 8 → O 0 j < 19 := fun j hj => by have := (h 0 (by decide)).1 j hj; omega
def remO (O : Nat → Nat → Nat) (z : Nat) : Nat → Nat → Nat := if z = 8 then rotO O else O
def remZ (z : Nat) : Nat := if z = 8 then 7 else z
def remI (I : Nat → Nat → Int32) (O : Nat → Nat → Nat) (z nd nm : Nat) : Nat → Nat → Int32 := sr (sr I (remO O z 0 (remZ z)) (pcR (I (remO O z 0 (remZ z))) (I 0) nd nm)) 21 (upd (I 21) 0 (nI (remZ z + 1)))
theorem remI_0 {I : Nat → Nat → Int32} {O : Nat → Nat → Nat} {z nd nm : Nat} (hO : okO O) (hz : z ≤ 8) : remI I O z nd nm 0 = I 0 := by
  have h1 : remO O z 0 (remZ z) ≠ 0 := by
    unfold remO remZ
    split
    · have := (rotO_ok hO 0 (by decide)).1 7 (by decide); omega
    · have := (hO 0 (by decide)).1 z (by omega); omega
  unfold remI
  rw [sr_ne (by decide), sr_ne h1.symm]
theorem remI_21 {I : Nat → Nat → Int32} {O : Nat → Nat → Nat} {z nd nm : Nat} : remI I O z nd nm 21 0 = nI (remZ z + 1) := by
  unfold remI; rw [sr_self, pk_us]
theorem remO_ok {O : Nat → Nat → Nat} (hO : okO O) (z : Nat) : okO (remO O z) := by
  unfold remO; split
  · exact rotO_ok hO
  · exact hO
