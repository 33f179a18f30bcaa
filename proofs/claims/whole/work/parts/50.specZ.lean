/-! following a man: what is open to him, cell by cell; old rows don't matter -/
def wh0 (w b : Nat → Int32) (m : Nat) (wit own : Int32) : Nat → Int32 := upd (upd (mbR w b 0 m) 63 wit) 7 own
def fwR (a u old : Nat → Int32) (nd k : Nat) : Nat → Int32 := fun j => if j < k then doF a (upd u 51 (nI j)) 0 nd else old j
theorem fwR_0 (a u old : Nat → Int32) (nd : Nat) : fwR a u old nd 0 = old := funext fun j => if_neg (by omega)
theorem fwR_step (a u old : Nat → Int32) (nd k : Nat) : upd (fwR a u old nd k) k (doF a (upd u 51 (nI k)) 0 nd) = fwR a u old nd (k + 1) := by
  funext j
  by_cases hj : j = k
  · subst hj; rw [pk_us]; simp only [fwR]; rw [if_pos (show j < j + 1 by omega)]
  · rw [pk_un hj]; simp only [fwR]
    by_cases h2 : j < k
    · rw [if_pos h2, if_pos (show j < k + 1 by omega)]
    · rw [if_neg h2, if_neg (show ¬ j < k + 1 by omega)]
/-- he, in another CELL, with another WIT and SORT -/
def whC (b : Nat → Int32) (m : Nat) (wit own : Int32) (c : Nat) : Nat → Int32 := fun j => if j = 3 then b (3 + m) else if j = 63 then wit else if j = 7 then own else if j = 51 then nI c else if j = 55 then b (55 + m) else if j = 59 then b (59 + m) else nI 0
def opN (a b : Nat → Int32) (m : Nat) (wit own : Int32) (nd : Nat) : Nat → Int32 := fun c => doF a (whC b m wit own c) 0 nd
theorem opB_cong {a b b2 : Nat → Int32} {d : Nat} (h3 : b 3 = b2 3) (h63 : b 63 = b2 63) (h7 : b 7 = b2 7) (h51 : b 51 = b2 51) (h55 : b 55 = b2 55) (h59 : b 59 = b2 59) : opB a b 0 d = opB a b2 0 d := by
  unfold opB paB pwM
  rw [show b (51 + 0) = b2 (51 + 0) from h51, show b (55 + 0) = b2 (55 + 0) from h55, show b (3 + 0) = b2 (3 + 0) from h3, show b (63 + 0) = b2 (63 + 0) from h63, show b (7 + 0) = b2 (7 + 0) from h7, show b (59 + 0) = b2 (59 + 0) from h59]
theorem doF_cong {a b b2 : Nat → Int32} (h3 : b 3 = b2 3) (h63 : b 63 = b2 63) (h7 : b 7 = b2 7) (h51 : b 51 = b2 51) (h55 : b 55 = b2 55) (h59 : b 59 = b2 59) : ∀ n, doF a b 0 n = doF a b2 0 n
  | 0 => rfl
  | n + 1 => by rw [doF, doF, doF_cong h3 h63 h7 h51 h55 h59 n, opB_cong h3 h63 h7 h51 h55 h59]
theorem fwR_op {a w b old : Nat → Int32} {m nd : Nat} {wit own : Int32} {j : Nat} (hj : j < 8) : fwR a (wh0 w b m wit own) old nd 8 j = opN a b m wit own nd j := by
  unfold fwR opN
  rw [if_pos hj]
  apply doF_cong <;> simp [wh0, whC, mbR, upd]
theorem ioB_cong {op op2 : Nat → Int32} {c d : Nat} {sh : Int32} (h : op c = op2 c) : ioB op c d sh = ioB op2 c d sh := by unfold ioB; rw [h]
def ag4 (s t : sp4) : Prop := ∀ j, j < 8 → s.1 j = t.1 j ∧ s.2 j = t.2 j
theorem ag4_spD {a op op2 : Nat → Int32} {sh th : Int32} {nd c d : Nat} (hW : wfD a nd) (hd : d < nd) (hc : c < 8) (ho : ∀ j, j < 8 → op j = op2 j) {s t : sp4} (h : ag4 s t) : ag4 (spD a op sh c th d s) (spD a op2 sh c th d t) := by
  have hb := (be_ok (c := c) hW hd).2
  have hu : ∀ {f f2 : Nat → Int32} {x : Int32}, (∀ j, j < 8 → f j = f2 j) → ∀ j, j < 8 → upd f (beN a d c) x j = upd f2 (beN a d c) x j := by
    intro f f2 x hf j hj
    by_cases q : j = beN a d c
    · rw [q, pk_us, pk_us]
    · rw [pk_un q, pk_un q]; exact hf j hj
  have hf1 : ∀ j, j < 8 → s.1 j = t.1 j := fun j hj => (h j hj).1
  have hf2 : ∀ j, j < 8 → s.2 j = t.2 j := fun j hj => (h j hj).2
  unfold spD
  rw [ioB_cong (ho c hc), hf1 _ hb, hf2 _ hb, hf2 c hc]
  split
  · split
    · split
      · exact fun j hj => ⟨hf1 j hj, hu hf2 j hj⟩
      · exact h
    · exact fun j hj => ⟨hu hf1 j hj, hu hf2 j hj⟩
  · exact h
theorem ag4_spC {a op op2 : Nat → Int32} {sh : Int32} {nd n c : Nat} (hW : wfD a nd) (hc : c < 8) (ho : ∀ j, j < 8 → op j = op2 j) {s t : sp4} (h : ag4 s t) : ag4 (spC a op sh nd n c s) (spC a op2 sh nd n c t) := by
  unfold spC
  rw [(h c hc).1]
  split
  · exact it_rel ag4 nd (fun d s t hd hs => ag4_spD hW hd hc ho hs) h
  · exact h
theorem ag4_spK {a op op2 : Nat → Int32} {sh : Int32} {nd n : Nat} (hW : wfD a nd) (ho : ∀ j, j < 8 → op j = op2 j) {s t : sp4} (h : ag4 s t) : ag4 (spK a op sh nd n s) (spK a op2 sh nd n t) :=
  it_rel ag4 8 (fun c s t hc hs => ag4_spC hW hc ho hs) h
def spZ (a op : Nat → Int32) (sh : Int32) (fr nd : Nat) : sp4 := spF a op (fun _ => nI 0) (fun _ => nI 0) sh fr nd
theorem spF_Z {a op op2 : Nat → Int32} {nd fr : Nat} (hW : wfD a nd) (_ : fr < 8) (ho : ∀ j, j < 8 → op j = op2 j) (f h : Nat → Int32) (sh : Int32) : ag4 (spF a op f h sh fr nd) (spZ a op2 sh fr nd) := by
  refine it_rel ag4 8 (fun k s t _ hs => ag4_spK hW ho hs) ?_
  have hu : ∀ {f f2 : Nat → Int32} {x : Int32}, (∀ j, j < 8 → f j = f2 j) → ∀ j, j < 8 → upd f fr x j = upd f2 fr x j := by
    intro f f2 x hf j hj
    by_cases q : j = fr
    · rw [q, pk_us, pk_us]
    · rw [pk_un q, pk_un q]; exact hf j hj
  exact fun j hj => ⟨hu (fun j hj => by simp [filI, hj]) j hj, hu (fun j hj => by simp [filI, hj]) j hj⟩
