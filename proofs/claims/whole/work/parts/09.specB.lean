/-! what the reference's methods do to their row of numbers -/
def layDoorR (g : Nat → Int32) (a b sort hard : Int32) : Nat → Int32 := upd (upd (upd (upd (upd (upd g (11 + (g 0).toNatClampNeg) a) (21 + (g 0).toNatClampNeg) b) (31 + (g 0).toNatClampNeg) sort) (41 + (g 0).toNatClampNeg) hard) 0 (nI ((g 0).toNatClampNeg + 1))) 2 (nI 0)
def layManR (g : Nat → Int32) (kind wit sort cell : Int32) : Nat → Int32 := upd (upd (upd (upd (upd (upd (upd (upd g (3 + (g 1).toNatClampNeg) kind) (63 + (g 1).toNatClampNeg) wit) (7 + (g 1).toNatClampNeg) sort) (51 + (g 1).toNatClampNeg) cell) (55 + (g 1).toNatClampNeg) (nI 0)) (59 + (g 1).toNatClampNeg) (nI 0)) 1 (nI ((g 1).toNatClampNeg + 1))) 2 (nI 0)
/-- the kept steps moved down by one, so far -/
def shR (g : Nat → Int32) (k : Nat) : Nat → Int32 := fun j => if 68 ≤ j ∧ j < 68 + k then g (j + 37) else g j
theorem shR_0 (g : Nat → Int32) : shR g 0 = g := funext fun j => if_neg (by omega)
theorem shR_step (g : Nat → Int32) (k : Nat) : upd (shR g k) (68 + k) (shR g k (105 + k)) = shR g (k + 1) := by
  funext j
  by_cases h : j = 68 + k
  · subst h; rw [pk_us]; simp only [shR]; rw [if_neg (by omega), if_pos (by omega)]; congr 1; omega
  · rw [pk_un h]; simp only [shR]
    by_cases h2 : 68 ≤ j ∧ j < 68 + k
    · rw [if_pos h2, if_pos (by omega)]
    · rw [if_neg h2, if_neg (by omega)]
/-- what may be UNDONE is laid down at place h, so far -/
def stR (g : Nat → Int32) (h k : Nat) : Nat → Int32 := fun j => if 68 + 37 * h ≤ j ∧ j < 68 + 37 * h + k then g (31 + (j - (68 + 37 * h))) else g j
theorem stR_0 (g : Nat → Int32) (h : Nat) : stR g h 0 = g := funext fun j => if_neg (by omega)
theorem stR_step (g : Nat → Int32) {h k : Nat} (hk : k < 37) : upd (stR g h k) (68 + 37 * h + k) (stR g h k (31 + k)) = stR g h (k + 1) := by
  funext j
  by_cases hj : j = 68 + 37 * h + k
  · subst hj; rw [pk_us]; simp only [stR]; rw [if_neg (by omega), if_pos (by omega)]; congr 1; omega
  · rw [pk_un hj]; simp only [stR]
    by_cases h2 : 68 + 37 * h ≤ j ∧ j < 68 + 37 * h + k
    · rw [if_pos h2, if_pos (by omega)]
    · rw [if_neg h2, if_neg (by omega)]
def keepR (g : Nat → Int32) : Nat → Int32 := if (g 2).toNatClampNeg = 8 then upd (stR (upd (shR g 259) 2 (nI 7)) 7 37) 2 (nI 8) else upd (stR g (g 2).toNatClampNeg 37) 2 (nI ((g 2).toNatClampNeg + 1))
def triesR (g : Nat → Int32) (m d : Nat) : Nat → Int32 :=
  if bhF g d (g (51 + m)) = -4 then g else if psB g m d (g (51 + m)) = true then upd g (51 + m) (bhF g d (g (51 + m)))
  else upd g (59 + m) (g (59 + m) + (if nI 99 ≤ g (59 + m) then nI 0 else nI 1))
theorem nIq {a b : Nat} (ha : a < 2147483648) (hb : b < 2147483648) : (nI a = nI b) = (a = b) := propext (nI_eq ha hb)
theorem layDoorR_0 {g : Nat → Int32} {a b sort hard : Int32} {d : Nat} (hd : d < 10) (hD : g 0 = nI d) : layDoorR g a b sort hard 0 = nI (d + 1) := by
  unfold layDoorR; rw [pk_un (by decide), pk_us, hD, nIc (by omega)]
theorem layManR_1 {g : Nat → Int32} {a b sort hard : Int32} {d : Nat} (hd : d < 4) (hD : g 1 = nI d) : layManR g a b sort hard 1 = nI (d + 1) := by
  unfold layManR; rw [pk_un (by decide), pk_us, hD, nIc (by omega)]
theorem keepR_lo (g : Nat → Int32) {j : Nat} (h : j < 68) (h2 : j ≠ 2) : keepR g j = g j := by
  unfold keepR
  split
  · rw [pk_un h2]; simp only [stR]; rw [if_neg (by omega), pk_un h2]; simp only [shR]; rw [if_neg (by omega)]
  · rw [pk_un h2]; simp only [stR]; rw [if_neg (by omega)]
theorem keepR_2 (g : Nat → Int32) {h : Nat} (hh : h ≤ 8) (hH : g 2 = nI h) : keepR g 2 = nI (if h = 8 then 8 else h + 1) := by
  unfold keepR
  rw [hH, nIc (by omega)]
  split <;> rw [pk_us]
theorem triesR_lo (g : Nat → Int32) (m d : Nat) {j : Nat} (h : j < 51 ∨ 63 ≤ j) (hm : m < 4) : triesR g m d j = g j := by
  unfold triesR
  split
  · rfl
  · split <;> rw [pk_un (by omega)]
def hardB (x : Int32) : Bool := inR x.toInt64 1 19
def doorOk (cell other sort hard : Int32) : Bool := isB cell 8 && (isB other 8 && (!decide (cell = other) && (isB sort 4 && hardB hard)))
def doorA (g : Nat → Int32) (cell other sort hard : Int32) : Int32 := if doorOk cell other sort hard then (if g 0 = nI 10 then -3 else g 0) else -1
def doorR (g : Nat → Int32) (cell other sort hard : Int32) : Nat → Int32 := if doorOk cell other sort hard then (if g 0 = nI 10 then g else layDoorR g cell other sort hard) else g
def manOk (kind wit sort cell : Int32) : Bool := isB kind 5 && (isB wit 10 && (isB sort 4 && isB cell 8))
def manA (g : Nat → Int32) (kind wit sort cell : Int32) : Int32 := if manOk kind wit sort cell then (if g 1 = nI 4 then -3 else g 1) else -1
def manR (g : Nat → Int32) (kind wit sort cell : Int32) : Nat → Int32 := if manOk kind wit sort cell then (if g 1 = nI 4 then g else layManR g kind wit sort cell) else g
def attA (g : Nat → Int32) (nd nm : Nat) (man door : Int32) : Int32 := if isB man nm && isB door nd then (if bhF g door.toNatClampNeg (g (51 + man.toNatClampNeg)) = -4 then -2 else triesR (keepR g) man.toNatClampNeg door.toNatClampNeg (51 + man.toNatClampNeg)) else -1
def attR (g : Nat → Int32) (nd nm : Nat) (man door : Int32) : Nat → Int32 := if isB man nm && isB door nd then (if bhF g door.toNatClampNeg (g (51 + man.toNatClampNeg)) = -4 then g else triesR (keepR g) man.toNatClampNeg door.toNatClampNeg) else g
def whiA (g : Nat → Int32) (nd nm : Nat) (man door : Int32) : Int32 := if isB man nm && isB door nd then (if hasB (g (55 + man.toNatClampNeg)) door.toNatClampNeg then -2 else keepR g (55 + man.toNatClampNeg) ||| bitI door.toNatClampNeg) else -1
def whiR (g : Nat → Int32) (nd nm : Nat) (man door : Int32) : Nat → Int32 := if isB man nm && isB door nd then (if hasB (g (55 + man.toNatClampNeg)) door.toNatClampNeg then g else upd (keepR g) (55 + man.toNatClampNeg) (keepR g (55 + man.toNatClampNeg) ||| bitI door.toNatClampNeg)) else g
/-- nobody of the first k KNOWS the DOOR any more -/
def fgR (f : Nat → Int32) (d k : Nat) : Nat → Int32 := fun j => if 55 ≤ j ∧ j < 55 + k then f j &&& (bitI d ^^^ (-1)) else f j
theorem fgR_0 (f : Nat → Int32) (d : Nat) : fgR f d 0 = f := funext fun j => if_neg (by omega)
theorem fgR_step (f : Nat → Int32) (d k : Nat) : upd (fgR f d k) (55 + k) (fgR f d k (55 + k) &&& (bitI d ^^^ (-1))) = fgR f d (k + 1) := by
  funext j
  by_cases hj : j = 55 + k
  · subst hj; rw [pk_us]; simp only [fgR]; rw [if_neg (by omega), if_pos (by omega)]
  · rw [pk_un hj]; simp only [fgR]
    by_cases h2 : 55 ≤ j ∧ j < 55 + k
    · rw [if_pos h2, if_pos (by omega)]
    · rw [if_neg h2, if_neg (by omega)]
def setOk (nd : Nat) (door sort hard : Int32) : Bool := isB door nd && (isB sort 4 && hardB hard)
def setA (g : Nat → Int32) (nd : Nat) (door sort hard : Int32) : Int32 := if setOk nd door sort hard then g (41 + door.toNatClampNeg) else -1
def setR (g : Nat → Int32) (nd nm : Nat) (door sort hard : Int32) : Nat → Int32 := if setOk nd door sort hard then fgR (upd (upd (keepR g) (31 + door.toNatClampNeg) sort) (41 + door.toNatClampNeg) hard) door.toNatClampNeg nm else g
def stuA (g : Nat → Int32) (nm : Nat) (man : Int32) : Int32 := if isB man nm then (if g (63 + man.toNatClampNeg) = nI 9 then -2 else keepR g (63 + man.toNatClampNeg) + nI 1) else -1
def stuR (g : Nat → Int32) (nm : Nat) (man : Int32) : Nat → Int32 := if isB man nm then (if g (63 + man.toNatClampNeg) = nI 9 then g else upd (keepR g) (63 + man.toNatClampNeg) (keepR g (63 + man.toNatClampNeg) + nI 1)) else g
/-- THE DRAW goes on -/
def drawF (v : Int32) : Int32 := ((v.toInt64 * 1103515245 + 12345) &&& 2147483647).toInt32
theorem drawF_nat (v : Int32) : ∃ w : Nat, w < 2 ^ 31 ∧ drawF v = nI w := by
  refine ⟨((v.toInt64 * 1103515245 + 12345).toBitVec.toNat) % 2 ^ 31, Nat.mod_lt _ (by decide), ?_⟩
  unfold drawF
  generalize v.toInt64 * 1103515245 + 12345 = x
  apply Int32.toBitVec_inj.mp
  apply BitVec.eq_of_toNat_eq
  have hlt : x.toBitVec.toNat % 2 ^ 31 < 2 ^ 31 := Nat.mod_lt _ (by decide)
  rw [pk_tn (Nat.lt_trans hlt (by decide)), Int64.toBitVec_toInt32, Int64.toBitVec_and]
  rw [BitVec.signExtend_eq_setWidth_of_le _ (by decide)]
  simp only [BitVec.toNat_setWidth, BitVec.toNat_and]
  rw [show (2147483647 : Int64).toBitVec.toNat = 2 ^ 31 - 1 from rfl, Nat.and_two_pow_sub_one_eq_mod]
  exact Nat.mod_eq_of_lt (Nat.lt_trans hlt (by decide))
def drStep (g : Nat → Int32) (nd nm : Nat) : Nat → Int32 :=
  if 0 < nm ∧ 0 < nd then triesR (upd (keepR g) 67 (drawF (keepR g 67))) ((drawF (keepR g 67)).toNatClampNeg / 65536 % nm) ((drawF (keepR g 67)).toNatClampNeg / 128 % nd)
  else upd (keepR g) 67 (drawF (keepR g 67))
def drN (g : Nat → Int32) (nd nm : Nat) : Nat → (Nat → Int32)
  | 0 => g
  | k + 1 => drStep (drN g nd nm k) nd nm
def h8 (h k : Nat) : Nat := if h + k ≤ 8 then h + k else 8
def driA (g : Nat → Int32) (nd nm : Nat) (n : Int32) : Int32 := if inR n.toInt64 1 40 then fsF (drN g nd nm n.toNatClampNeg) nm else -1
def driR (g : Nat → Int32) (nd nm : Nat) (n : Int32) : Nat → Int32 := if inR n.toInt64 1 40 then drN g nd nm n.toNatClampNeg else g
def unR (g : Nat → Int32) (h k : Nat) : Nat → Int32 := fun j => if 31 ≤ j ∧ j < 31 + k then g (68 + 37 * h + (j - 31)) else g j
theorem unR_0 (g : Nat → Int32) (h : Nat) : unR g h 0 = g := funext fun j => if_neg (by omega)
theorem unR_step (g : Nat → Int32) {h k : Nat} (hk : k < 37) : upd (unR g h k) (31 + k) (unR g h k (68 + 37 * h + k)) = unR g h (k + 1) := by
  funext j
  by_cases hj : j = 31 + k
  · subst hj; rw [pk_us]; simp only [unR]; rw [if_neg (by omega), if_pos (by omega)]; congr 1; omega
  · rw [pk_un hj]; simp only [unR]
    by_cases h2 : 31 ≤ j ∧ j < 31 + k
    · rw [if_pos h2, if_pos (by omega)]
    · rw [if_neg h2, if_neg (by omega)]
def undA (h : Nat) : Int32 := if h = 0 then -4 else nI (h - 1)
def undR (g : Nat → Int32) (h : Nat) : Nat → Int32 := if h = 0 then g else unR (upd g 2 (nI (h - 1))) (h - 1) 37
def seeA (g : Nat → Int32) (v : Int32) : Int32 := if 0 ≤ v then g 67 else -1
def seeR (g : Nat → Int32) (v : Int32) : Nat → Int32 := if 0 ≤ v then upd g 67 v else g
def cpR (f g : Nat → Int32) (k : Nat) : Nat → Int32 := fun j => if j < k then f j else g j
theorem cpR_0 (f g : Nat → Int32) : cpR f g 0 = g := funext fun j => if_neg (by omega)
theorem cpR_step (f g : Nat → Int32) (k : Nat) : upd (cpR f g k) k (f k) = cpR f g (k + 1) := by
  funext j
  by_cases hj : j = k
  · subst hj; rw [pk_us]; simp only [cpR]; rw [if_pos (by omega)]
  · rw [pk_un hj]; simp only [cpR]
    by_cases h2 : j < k
    · rw [if_pos h2, if_pos (by omega)]
    · rw [if_neg h2, if_neg (by omega)]
