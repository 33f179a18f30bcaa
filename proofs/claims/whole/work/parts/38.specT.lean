/-! the class: what is done -/
def doorCA (nd : Nat) (cell other sort hard : Int32) : Int32 := if doorOkC cell other sort hard then (if nd < 10 then nI nd else -3) else -1
def doorCI (I : Nat → Nat → Int32) (nd : Nat) (cell other sort hard : Int32) : Nat → Nat → Int32 := if doorOkC cell other sort hard = true ∧ nd < 10 then sr (sr I 21 (upd (I 21) 0 (nI 0))) 0 (adR (I 0) cell other sort hard) else I
def manCA (nm : Nat) (kind wit sort cell : Int32) : Int32 := if manOk kind wit sort cell then (if nm < 4 then nI nm else -3) else -1
def manCI (I : Nat → Nat → Int32) (nm : Nat) (kind wit sort cell : Int32) : Nat → Nat → Int32 := if manOk kind wit sort cell = true ∧ nm < 4 then sr (sr I 21 (upd (I 21) 0 (nI 0))) 0 (amR (I 0) kind wit sort cell) else I
def attCA (a : Nat → Int32) (nd nm : Nat) (man door : Int32) : Int32 := if isB man nm && isB door nd then (if atB a (tN door) (a (51 + tN man)) then ltR a a (tN man) (tN door) (51 + tN man) else -2) else -1
def attCS (I : Nat → Nat → Int32) (J : Nat → Nat → Int64) (O : Nat → Nat → Nat) (z nd nm : Nat) (man door : Int32) : jS := if isB man nm = true ∧ isB door nd = true ∧ atB (I 0) (tN door) (I 0 (51 + tN man)) = true then (sr (remI I O z nd nm) 0 (ltR (I 0) (I 0) (tN man) (tN door)), J, remO O z) else (I, J, O)
def whiCA (a : Nat → Int32) (nd nm : Nat) (man door : Int32) : Int32 := if isB man nm && isB door nd then (if hasB (a (55 + tN man)) (tN door) then -2 else a (55 + tN man) ||| bitI (tN door)) else -1
def whiCS (I : Nat → Nat → Int32) (J : Nat → Nat → Int64) (O : Nat → Nat → Nat) (z nd nm : Nat) (man door : Int32) : jS := if isB man nm = true ∧ isB door nd = true ∧ hasB (I 0 (55 + tN man)) (tN door) = false then (sr (remI I O z nd nm) 0 (upd (I 0) (55 + tN man) (I 0 (55 + tN man) ||| bitI (tN door))), J, remO O z) else (I, J, O)
def setCA (a : Nat → Int32) (nd : Nat) (door sort hard : Int32) : Int32 := if isB door nd && quB sort hard then a (41 + tN door) else -1
def setCS (I : Nat → Nat → Int32) (J : Nat → Nat → Int64) (O : Nat → Nat → Nat) (z nd nm : Nat) (door sort hard : Int32) : jS := if isB door nd = true ∧ quB sort hard = true then (sr (remI I O z nd nm) 0 (fgR (upd (upd (I 0) (31 + tN door) sort) (41 + tN door) hard) (tN door) nm), J, remO O z) else (I, J, O)
def stuCA (a : Nat → Int32) (nm : Nat) (man : Int32) : Int32 := if isB man nm then (if a (63 + tN man) < nI 9 then a (63 + tN man) + nI 1 else -2) else -1
def stuCS (I : Nat → Nat → Int32) (J : Nat → Nat → Int64) (O : Nat → Nat → Nat) (z nd nm : Nat) (man : Int32) : jS := if isB man nm = true ∧ I 0 (63 + tN man) < nI 9 then (sr (remI I O z nd nm) 0 (upd (I 0) (63 + tN man) (I 0 (63 + tN man) + nI 1)), J, remO O z) else (I, J, O)
abbrev ioz : Type := (Nat → Nat → Int32) × (Nat → Nat → Nat) × Nat
def drCS (nd nm : Nat) (s : ioz) : ioz := (sr (remI s.1 s.2.1 s.2.2 nd nm) 0 (dwR (s.1 0) nd nm), remO s.2.1 s.2.2, remZ s.2.2 + 1)
def drCN (I : Nat → Nat → Int32) (O : Nat → Nat → Nat) (z nd nm k : Nat) : ioz := it (fun _ s => drCS nd nm s) k (I, O, z)
def drB (n : Int32) : Bool := !decide (n < nI 1) && decide (n ≤ nI 40)
def driCA (I : Nat → Nat → Int32) (O : Nat → Nat → Nat) (z nd nm : Nat) (n : Int32) : Int32 := if drB n then fsF ((drCN I O z nd nm (tN n)).1 0) nm else -1
def driCS (I : Nat → Nat → Int32) (J : Nat → Nat → Int64) (O : Nat → Nat → Nat) (z nd nm : Nat) (n : Int32) : jS := if drB n then ((drCN I O z nd nm (tN n)).1, J, (drCN I O z nd nm (tN n)).2.1) else (I, J, O)
theorem n40 {n : Int32} (h : ¬ n < nI 1) (h2 : n ≤ nI 40) : ∃ k, k ≤ 40 ∧ n = nI k := nI_of2 (M := nI 40) (n := 40) rfl (fun q => h (by rw [Int32.lt_iff_toInt_lt] at q ⊢; have : (0 : Int32).toInt = 0 := rfl; have : (nI 1).toInt = 1 := rfl; omega)) h2
theorem remZ_le {z : Nat} (h : z ≤ 8) : remZ z + 1 ≤ 8 := by unfold remZ; split <;> omega
theorem dwR_lo {a : Nat → Int32} {nd nm j : Nat} (h : j < 51) (hnm : nm ≤ 4) : dwR a nd nm j = a j := by
  unfold dwR
  split
  · rename_i hc
    have := Nat.mod_lt (tN (drawF (a 67)) / 65536) hc.1
    rw [ltR_lo (Or.inl h) (by omega), pk_un (by omega)]
  · rw [pk_un (by omega)]
