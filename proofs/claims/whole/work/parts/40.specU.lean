/-! the class: undo, image, restore -/
def takI (I : Nat → Nat → Int32) (O : Nat → Nat → Nat) (z nd nm : Nat) : Nat → Nat → Int32 := if 0 < z then sr (sr I 21 (upd (I 21) 0 (nI (z - 1)))) 0 (pcR (I 0) (I (O 0 (z - 1))) nd nm) else I
theorem takI_21 {I : Nat → Nat → Int32} {O : Nat → Nat → Nat} {z nd nm : Nat} (h : 0 < z) : takI I O z nd nm 21 0 = nI (z - 1) := by
  unfold takI; rw [if_pos h, sr_ne (by decide), sr_self, pk_us]
/-- the kept prisons have as many DOORS and men -/
def ctO (I : Nat → Nat → Int32) (O : Nat → Nat → Nat) (h z nd nm : Nat) : Prop := ∀ j, j < z → I (O h j) 0 = nI nd ∧ I (O h j) 1 = nI nm
def hbF (O : Nat → Nat → Nat) (h k nd nm j : Nat) (X : Nat → Nat → Int32) : Nat → Nat → Int32 := sr X (O h j) (pcR (X (O h j)) (X (O k j)) nd nm)
def hbI (I : Nat → Nat → Int32) (O : Nat → Nat → Nat) (h k z nd nm : Nat) : Nat → Nat → Int32 := it (hbF O h k nd nm) z (sr I 21 (upd (I 21) h (nI z)))
theorem hbF_ne {O : Nat → Nat → Nat} {h k nd nm j : Nat} {X : Nat → Nat → Int32} {r : Nat} (hr : r ≠ O h j) : hbF O h k nd nm j X r = X r := sr_ne hr
theorem hbI_ne {I : Nat → Nat → Int32} {O : Nat → Nat → Nat} {h k z nd nm r : Nat} (hO : okO O) (hh : h < 2) (hz : z ≤ 8) (hr : r < 3 + 8 * h ∨ 11 + 8 * h ≤ r) : ∀ n, n ≤ z → it (hbF O h k nd nm) n (sr I 21 (upd (I 21) h (nI z))) r = sr I 21 (upd (I 21) h (nI z)) r
  | 0, _ => rfl
  | n + 1, hn => by
    have h1 := (hO h hh).1 n (by omega)
    show hbF O h k nd nm n _ r = _
    rw [hbF_ne (by omega)]
    exact hbI_ne hO hh hz hr n (by omega)
