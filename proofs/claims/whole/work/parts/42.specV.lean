theorem ctO_sr {I : Nat → Nat → Int32} {O : Nat → Nat → Nat} {h z nd nm r : Nat} {f : Nat → Int32} (hct : ctO I O h z nd nm) (hO : okO O) (hh : h < 2) (hz : z ≤ 8) (hr : r < 3) : ctO (sr I r f) O h z nd nm := by
  intro j hj
  have h1 := (hO h hh).1 j (by omega)
  rw [sr_ne (by omega)]
  exact hct j hj
def imgI (I : Nat → Nat → Int32) (O : Nat → Nat → Nat) (z nd nm : Nat) : Nat → Nat → Int32 := sr (hbI (sr I 1 (pcR (I 1) (I 0) nd nm)) O 1 0 z nd nm) 24 (upd (hbI (sr I 1 (pcR (I 1) (I 0) nd nm)) O 1 0 z nd nm 24) 0 (nI 1))
def resI (I : Nat → Nat → Int32) (O : Nat → Nat → Nat) (z nd nm : Nat) : Nat → Nat → Int32 := hbI (sr I 0 (pcR (I 0) (I 1) nd nm)) O 0 1 z nd nm
/-- a sheet: what the machine would find with n items of a LANE from i on -/
def flC (f : Nat → Int32) (s : Nat) (hold : Bool) (lane i n : Int32) : Int32 :=
  if hold = false then -11 else if f (3 * s + 1) = lane then (if i < 0 then -13 else if n < 0 then -13 else if i ≤ f (3 * s + 2) - n then nI 0 else -13) else -12
def cutC (lane : Int32) (v : Int64) : Int64 := if lane = nI 0 then v.toInt32.toInt8.toInt32.toInt64 else if lane = nI 1 then v.toInt32.toInt16.toInt32.toInt64 else if lane = nI 2 then v.toInt32.toInt64 else v
