/-! odds; the shortest round: how the class goes -/
def soD (a op : Nat → Int32) (share : Int64) (c d : Nat) (y : Nat → Int64) : Nat → Int64 := if ioB op c d (nI 0) = true then vp_updL y (beN a d c) (y (beN a d c) + share) else y
def soC (a op : Nat → Int32) (x : Nat → Int64) (nd c : Nat) (y : Nat → Int64) : Nat → Int64 := if 0 < bcJ (op c) then it (soD a op (x c * (nI 2520 / bcJ (op c)).toInt64) c) nd y else vp_updL y c (y c + x c * 2520)
def soK (a op : Nat → Int32) (nd : Nat) (_ : Nat) (s : (Nat → Int64) × (Nat → Int64)) : (Nat → Int64) × (Nat → Int64) := (va_cpy (it (soC a op s.1 nd) 8 (filJ s.2 0 8)) s.1 0 0 8, it (soC a op s.1 nd) 8 (filJ s.2 0 8))
def soI (x : Nat → Int64) (st : Nat) : Nat → Int64 := vp_updL (filJ x 0 8) st 1
def odC (a op : Nat → Int32) (nd st n : Nat) : Nat → Int64 := (it (soK a op nd) n (soI (fun _ => 0) st, fun _ => 0)).1
def whL (n : Nat) : Int64 := it (fun _ w => w * 2520) n 1
def ag8L (x y : Nat → Int64) : Prop := ∀ j, j < 8 → x j = y j
theorem ag8L_upd {x y : Nat → Int64} {v w : Int64} {c : Nat} (h : ag8L x y) (hv : v = w) : ag8L (vp_updL x c v) (vp_updL y c w) := by
  intro j hj
  by_cases q : j = c
  · subst q; rw [pk_uLs, pk_uLs, hv]
  · rw [pk_uLn q, pk_uLn q]; exact h j hj
theorem ag8L_soC {a op : Nat → Int32} {nd c : Nat} (hW : wfD a nd) (hc : c < 8) {x x2 y y2 : Nat → Int64} (hx : ag8L x x2) (hy : ag8L y y2) : ag8L (soC a op x nd c y) (soC a op x2 nd c y2) := by
  unfold soC
  rw [hx c hc]
  split
  · refine it_rel ag8L nd (fun d s t hd hs => ?_) hy
    unfold soD
    split
    · exact ag8L_upd hs (by rw [hs _ (be_ok (c := c) hW hd).2])
    · exact hs
  · exact ag8L_upd hy (by rw [hy c hc])
theorem ag8L_fil {x y : Nat → Int64} : ag8L (filJ x 0 8) (filJ y 0 8) := fun j hj => by simp [filJ, hj]
theorem soK_rel {a op : Nat → Int32} {nd st : Nat} (hW : wfD a nd) (x y : Nat → Int64) (n : Nat) : ag8L (it (soK a op nd) n (soI x st, y)).1 (odC a op nd st n) := by
  refine it_rel (fun (s t : (Nat → Int64) × (Nat → Int64)) => ag8L s.1 t.1) n (fun k s t _ hs => ?_) ?_
  · intro j hj
    show va_cpy _ _ 0 0 8 j = va_cpy _ _ 0 0 8 j
    rw [pk_cpy_in (Nat.zero_le _) (by omega), pk_cpy_in (Nat.zero_le _) (by omega)]
    exact it_rel ag8L 8 (fun c y y2 hc hy => ag8L_soC hW hc hs hy) ag8L_fil _ (by omega)
  · exact ag8L_upd ag8L_fil rfl
/-- the state of a round: a CELL and what has been seen -/
def stN (c b cs : Nat) : Nat := c * 256 + (b ||| (2 ^ c &&& cs))
/-- the state behind a DOOR, of a round -/
def rdN (a : Nat → Int32) (cs x d : Nat) : Nat := stN (beN a d (x / 256)) (x % 256) cs
def rdD (a op : Nat → Int32) (cs x d : Nat) (f : Nat → Int32) : Nat → Int32 :=
  if ioB op (x / 256) d (nI 0) = true then (if 0 ≤ f (rdN a cs x d) then f else upd f (rdN a cs x d) (f x + nI 1)) else f
/-- the states from k on that are n far: none, if one of them is where it ends -/
def rdE (a op : Nat → Int32) (cs nd n : Nat) : Nat → Nat → Bool → (Nat → Int32) → Option (Bool × (Nat → Int32))
  | 0, _, b, f => some (b, f)
  | j + 1, k, b, f => if f k = nI n then (if k % 256 = cs then none else rdE a op cs nd n j (k + 1) true (it (rdD a op cs k) nd f)) else rdE a op cs nd n j (k + 1) b f
def rdO (n : Nat) (r : Bool → (Nat → Int32) → Int32) (o : Option (Bool × (Nat → Int32))) : Int32 := match o with
  | none => nI n
  | some p => r p.1 p.2
def rdR (a op : Nat → Int32) (cs nd : Nat) : Nat → Nat → Bool → (Nat → Int32) → Int32
  | 0, _, _, _ => -4
  | j + 1, n, b, f => if b = false then -4 else rdO n (fun b f => rdR a op cs nd j (n + 1) b f) (rdE a op cs nd n 2048 0 false f)
def rdF (cs st : Nat) : Nat := stN st 0 cs
def rdI (dep : Nat → Int32) (cs st : Nat) : Nat → Int32 := upd (filI dep (-4) 2048) (rdF cs st) (nI 0)
def rdC (a op : Nat → Int32) (cs nd st : Nat) : Int32 := rdR a op cs nd 2048 0 true (rdI (fun _ => nI 0) cs st)
theorem or_lt256 {x y : Nat} (hx : x < 256) (hy : y < 256) : x ||| y < 256 := Nat.or_lt_two_pow (n := 8) hx hy
theorem and_lt256 {x y : Nat} (hy : y < 256) : x &&& y < 256 := Nat.lt_of_le_of_lt Nat.and_le_right hy
theorem stN_lt {c b cs : Nat} (hc : c < 8) (hb : b < 256) (hcs : cs < 256) : stN c b cs < 2048 := by
  have h2 : (b ||| (2 ^ c &&& cs)) < 256 := or_lt256 hb (and_lt256 hcs)
  unfold stN
  omega
theorem rdN_lt {a : Nat → Int32} {cs x d nd : Nat} (hW : wfD a nd) (hd : d < nd) (hcs : cs < 256) : rdN a cs x d < 2048 := stN_lt (be_ok (c := x / 256) hW hd).2 (Nat.mod_lt _ (by decide)) hcs
theorem rdF_lt {cs st : Nat} (hst : st < 8) (hcs : cs < 256) : rdF cs st < 2048 := stN_lt hst (by decide) hcs
section RD
variable {a op : Nat → Int32} {cs nd n k : Nat} {b bb : Bool} {f g : Nat → Int32}
theorem rdE_no (hk : k < 2048) (h : ¬ f k = nI n) : rdE a op cs nd n (2048 - k) k b f = rdE a op cs nd n (2048 - (k + 1)) (k + 1) b f := by
  rw [show 2048 - k = (2048 - (k + 1)) + 1 by omega, rdE, if_neg h]
theorem rdE_go (hk : k < 2048) (h : f k = nI n) (h2 : ¬ k % 256 = cs) : rdE a op cs nd n (2048 - k) k b f = rdE a op cs nd n (2048 - (k + 1)) (k + 1) true (it (rdD a op cs k) nd f) := by
  rw [show 2048 - k = (2048 - (k + 1)) + 1 by omega, rdE, if_pos h, if_neg h2]
theorem rdE_hit (hk : k < 2048) (h : f k = nI n) (h2 : k % 256 = cs) : rdE a op cs nd n (2048 - k) k b f = none := by
  rw [show 2048 - k = (2048 - (k + 1)) + 1 by omega, rdE, if_pos h, if_pos h2]
theorem rdR_stop (hb : b = false) (j n : Nat) (f : Nat → Int32) : rdR a op cs nd j n b f = -4 := by
  cases j with
  | zero => rfl
  | succ j => rw [rdR, if_pos hb]
theorem rdR_hit (hb : b = true) (hn : n < 2048) (h : rdE a op cs nd n 2048 0 false f = none) : rdR a op cs nd (2048 - n) n b f = nI n := by
  rw [show 2048 - n = (2048 - (n + 1)) + 1 by omega, rdR, if_neg (by rw [hb]; decide), h]; rfl
theorem rdR_on (hb : b = true) (hn : n < 2048) (h : rdE a op cs nd n 2048 0 false f = some (bb, g)) : rdR a op cs nd (2048 - n) n b f = rdR a op cs nd (2048 - (n + 1)) (n + 1) bb g := by
  rw [show 2048 - n = (2048 - (n + 1)) + 1 by omega, rdR, if_neg (by rw [hb]; decide), h]; rfl
end RD
/-- old rows don't matter -/
def rdA (f g : Nat → Int32) : Prop := ∀ j, j < 2048 → f j = g j
theorem rdA_D {a op : Nat → Int32} {cs nd x d : Nat} (hW : wfD a nd) (hcs : cs < 256) (hx : x < 2048) (hd : d < nd) {f g : Nat → Int32} (h : rdA f g) : rdA (rdD a op cs x d f) (rdD a op cs x d g) := by
  have ht := rdN_lt (x := x) hW hd hcs
  unfold rdD
  rw [h _ ht, h _ hx]
  split
  · split
    · exact h
    · intro j hj
      by_cases q : j = rdN a cs x d
      · rw [q, pk_us, pk_us]
      · rw [pk_un q, pk_un q]; exact h j hj
  · exact h
theorem rdE_A {a op : Nat → Int32} {cs nd n : Nat} (hW : wfD a nd) (hcs : cs < 256) : ∀ (j k : Nat) (b : Bool) (f g : Nat → Int32), k + j = 2048 → rdA f g → (rdE a op cs nd n j k b f = none ∧ rdE a op cs nd n j k b g = none) ∨ ∃ b2 f2 g2, rdE a op cs nd n j k b f = some (b2, f2) ∧ rdE a op cs nd n j k b g = some (b2, g2) ∧ rdA f2 g2 := by
  intro j
  induction j with
  | zero => intro k b f g _ h; exact Or.inr ⟨b, f, g, rfl, rfl, h⟩
  | succ j ih =>
    intro k b f g hk h
    rw [rdE, rdE, h k (by omega)]
    split
    · split
      · exact Or.inl ⟨rfl, rfl⟩
      · exact ih (k + 1) true _ _ (by omega) (it_rel rdA nd (fun d s t hd hst => rdA_D hW hcs (by omega) hd hst) h)
    · exact ih (k + 1) b f g (by omega) h
theorem rdR_A {a op : Nat → Int32} {cs nd : Nat} (hW : wfD a nd) (hcs : cs < 256) : ∀ (j n : Nat) (b : Bool) (f g : Nat → Int32), rdA f g → rdR a op cs nd j n b f = rdR a op cs nd j n b g := by
  intro j
  induction j with
  | zero => intro n b f g _; rfl
  | succ j ih =>
    intro n b f g h
    rw [rdR, rdR]
    split
    · rfl
    · rcases rdE_A (op := op) (n := n) hW hcs 2048 0 false f g rfl h with ⟨h1, h2⟩ | ⟨b2, f2, g2, h1, h2, h3⟩
      · rw [h1, h2]
      · rw [h1, h2]; exact ih (n + 1) b2 f2 g2 h3
theorem rdI_A (dep dep2 : Nat → Int32) (cs st : Nat) : rdA (rdI dep cs st) (rdI dep2 cs st) := by
  intro j hj
  show upd (filI dep (-4) 2048) _ _ j = upd (filI dep2 (-4) 2048) _ _ j
  by_cases e : j = rdF cs st
  · rw [e, pk_us, pk_us]
  · rw [pk_un e, pk_un e]; simp [filI, hj]
theorem zq_and (a b : Nat) : nI a &&& nI b = nI (a &&& b) := by
  apply Int32.toBitVec_inj.1
  show BitVec.ofNat 32 a &&& BitVec.ofNat 32 b = BitVec.ofNat 32 (a &&& b)
  apply BitVec.eq_of_getLsbD_eq
  intro i hi
  simp [hi]
theorem zq_or (a b : Nat) : nI a ||| nI b = nI (a ||| b) := by
  apply Int32.toBitVec_inj.1
  show BitVec.ofNat 32 a ||| BitVec.ofNat 32 b = BitVec.ofNat 32 (a ||| b)
  apply BitVec.eq_of_getLsbD_eq
  intro i hi
  simp [hi]
