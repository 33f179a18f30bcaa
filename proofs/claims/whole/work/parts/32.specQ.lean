/-! the class: what doors, men, prisons become -/
def dbR (a b : Nat → Int32) (d e : Nat) : Nat → Int32 := upd (upd (upd (upd a (11 + d) (b (11 + e))) (21 + d) (b (21 + e))) (31 + d) (b (31 + e))) (41 + d) (b (41 + e))
def mbR (a b : Nat → Int32) (n m : Nat) : Nat → Int32 := upd (upd (upd (upd (upd (upd a (3 + n) (b (3 + m))) (63 + n) (b (63 + m))) (7 + n) (b (7 + m))) (51 + n) (b (51 + m))) (55 + n) (b (55 + m))) (59 + n) (b (59 + m))
theorem dbR_lo {a b : Nat → Int32} {d e j : Nat} (h : j < 11 ∨ 51 ≤ j) (hd : d < 10) : dbR a b d e j = a j := by
  unfold dbR; rw [pk_un (by omega), pk_un (by omega), pk_un (by omega), pk_un (by omega)]
theorem mbR_lo {a b : Nat → Int32} {n m j : Nat} (h : j < 3 ∨ (11 ≤ j ∧ j < 51) ∨ j = 67) (hn : n < 4) : mbR a b n m j = a j := by
  unfold mbR; rw [pk_un (by omega), pk_un (by omega), pk_un (by omega), pk_un (by omega), pk_un (by omega), pk_un (by omega)]
def faF (x : Int32) : Int32 := if nI 99 < x + nI 1 then nI 99 else x + nI 1
def ltR (a b : Nat → Int32) (m d : Nat) : Nat → Int32 := if atB a d (b (51 + m)) = false then b else if paB a b m d d = false then upd b (59 + m) (faF (b (59 + m))) else upd b (51 + m) (beF a d (b (51 + m)))
theorem ltR_lo {a b : Nat → Int32} {m d j : Nat} (h : j < 51 ∨ 63 ≤ j) (hm : m < 4) : ltR a b m d j = b j := by
  unfold ltR
  split
  · rfl
  · split <;> rw [pk_un (by omega)]
def adR (a : Nat → Int32) (cell other sort hard : Int32) : Nat → Int32 := upd (upd (upd (upd (upd a (11 + tN (a 0)) cell) (21 + tN (a 0)) other) (31 + tN (a 0)) sort) (41 + tN (a 0)) hard) 0 (nI (tN (a 0) + 1))
def amR (a : Nat → Int32) (kind wit sort cell : Int32) : Nat → Int32 := upd (upd (upd (upd (upd (upd (upd a (3 + tN (a 1)) kind) (63 + tN (a 1)) wit) (7 + tN (a 1)) sort) (51 + tN (a 1)) cell) (55 + tN (a 1)) (nI 0)) (59 + tN (a 1)) (nI 0)) 1 (nI (tN (a 1) + 1))
def pcR (a b : Nat → Int32) (nd nm : Nat) : Nat → Int32 := it (fun k s => mbR s b k k) nm (it (fun k s => dbR s b k k) nd (upd (upd (upd a 0 (b 0)) 1 (b 1)) 67 (b 67)))
def drawC (v : Int32) : Int32 := (v * nI 1103515245 + nI 12345) &&& nI 2147483647
theorem sw_se (x : BitVec 32) : BitVec.setWidth 32 (BitVec.signExtend 64 x) = x := by
  apply BitVec.eq_of_getLsbD_eq
  intro i hi
  have h64 : i < 64 := by omega
  rw [BitVec.getLsbD_setWidth, BitVec.getLsbD_signExtend]
  simp only [hi, h64, decide_true, Bool.true_and, if_true]
theorem draw_eq (v : Int32) : drawC v = drawF v := by
  unfold drawC drawF
  apply Int32.toBitVec_inj.mp
  rw [Int64.toBitVec_toInt32, Int64.toBitVec_and, Int64.toBitVec_add, Int64.toBitVec_mul, Int32.toBitVec_toInt64, Int32.toBitVec_and, Int32.toBitVec_add, Int32.toBitVec_mul, BitVec.signExtend_eq_setWidth_of_le _ (by decide)]
  rw [BitVec.setWidth_and, BitVec.setWidth_add _ _ (by decide), BitVec.setWidth_mul _ _ (by decide), sw_se]
  rfl
def dwR (a : Nat → Int32) (nd nm : Nat) : Nat → Int32 :=
  if 0 < nm ∧ 0 < nd then ltR (upd a 67 (drawF (a 67))) (upd a 67 (drawF (a 67))) (tN (drawF (a 67)) / 65536 % nm) (tN (drawF (a 67)) / 128 % nd) else upd a 67 (drawF (a 67))
