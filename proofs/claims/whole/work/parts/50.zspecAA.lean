/-! seeking; what one man could do, in the class's words -/
theorem nI_n4 {n : Nat} (h : n < 2147483648) : ¬ nI n = -4 := fun e => nI_pos h (by rw [e]; decide)
def seI (P : Nat → Bool) : Nat → Nat → Int32
  | 0, _ => -4
  | n + 1, d => if P d = true then nI d else seI P n (d + 1)
theorem seI_no {P : Nat → Bool} {n d : Nat} (hd : d < n) (h : P d = false) : seI P (n - d) d = seI P (n - (d + 1)) (d + 1) := by
  rw [show n - d = (n - (d + 1)) + 1 by omega, seI, h]; rfl
theorem seI_yes {P : Nat → Bool} {n d : Nat} (hd : d < n) (h : P d = true) : seI P (n - d) d = nI d := by
  rw [show n - d = (n - (d + 1)) + 1 by omega, seI, h]; rfl
theorem seI_or {P : Nat → Bool} : ∀ n d, (seI P n d = -4 ∧ ∀ j, d ≤ j → j < d + n → P j = false) ∨ ∃ j, d ≤ j ∧ j < d + n ∧ seI P n d = nI j ∧ P j = true ∧ ∀ i, d ≤ i → i < j → P i = false
  | 0, d => Or.inl ⟨rfl, fun j h1 h2 => absurd h2 (by omega)⟩
  | n + 1, d => by
    by_cases h : P d = true
    · exact Or.inr ⟨d, Nat.le_refl _, by omega, by rw [seI, h]; rfl, h, fun i h1 h2 => absurd h2 (by omega)⟩
    · have hf : P d = false := Bool.eq_false_iff.mpr h
      rcases seI_or (P := P) n (d + 1) with ⟨h1, h2⟩ | ⟨j, h1, h2, h3, h4, h5⟩
      · refine Or.inl ⟨by rw [seI, hf]; exact h1, fun j h3 h4 => ?_⟩
        by_cases e : j = d
        · rw [e]; exact hf
        · exact h2 j (by omega) (by omega)
      · refine Or.inr ⟨j, by omega, by omega, by rw [seI, hf]; exact h3, h4, fun i h6 h7 => ?_⟩
        by_cases e : i = d
        · rw [e]; exact hf
        · exact h5 i (by omega) h7
theorem seI_cong {P Q : Nat → Bool} : ∀ n d, (∀ j, d ≤ j → j < d + n → P j = Q j) → seI P n d = seI Q n d
  | 0, _, _ => rfl
  | n + 1, d, h => by rw [seI, seI, h d (Nat.le_refl _) (by omega), seI_cong n (d + 1) (fun j h1 h2 => h j (by omega) (by omega))]
theorem spZ_cong {a op op2 : Nat → Int32} {nd fr : Nat} (hW : wfD a nd) (hfr : fr < 8) (ho : ∀ j, j < 8 → op j = op2 j) (sh : Int32) : ag4 (spZ a op sh fr nd) (spZ a op2 sh fr nd) := spF_Z hW hfr ho _ _ sh
/-- what following him has laid -/
def foOK (a : Nat → Int32) (m : Nat) (wit own : Int32) (nd cc : Nat) (o f h : Nat → Int32) : Prop := (∀ j, j < 8 → o j = opN a a m wit own nd j) ∧ ∀ j, j < 8 → f j = (spZ a (opN a a m wit own nd) (nI 0) cc nd).1 j ∧ h j = (spZ a (opN a a m wit own nd) (nI 0) cc nd).2 j
theorem foOK_of {a w : Nat → Int32} {m : Nat} {wit own : Int32} {nd cc : Nat} {o f h : Nat → Int32} (hW : wfD a nd) (hcc : cc < 8) : foOK a m wit own nd cc (fwR a (wh0 w a m wit own) o nd 8) (spF a (fwR a (wh0 w a m wit own) o nd 8) f h (nI 0) cc nd).1 (spF a (fwR a (wh0 w a m wit own) o nd 8) f h (nI 0) cc nd).2 :=
  have z : ag4 (spF a (fwR a (wh0 w a m wit own) o nd 8) f h (nI 0) cc nd) (spZ a (opN a a m wit own nd) (nI 0) cc nd) := spF_Z (op2 := opN a a m wit own nd) hW hcc (fun _ hj => fwR_op hj) f h (nI 0)
  ⟨fun _ hj => fwR_op hj, z⟩
def fdP (a op : Nat → Int32) (nd here cell : Nat) (left : Int32) (d : Nat) : Bool := ioB op here d (nI 0) && decide ((spZ a op (nI 0) (beN a d here) nd).1 cell = left - nI 1)
def fdC (a op : Nat → Int32) (nd here cell : Nat) (left : Int32) : Int32 := seI (fdP a op nd here cell left) nd 0
theorem fdC_ok {a op : Nat → Int32} {nd here cell : Nat} {left : Int32} (hnd : nd ≤ 10) (h : ¬ fdC a op nd here cell left < 0) : fdC a op nd here cell left = nI (tN (fdC a op nd here cell left)) ∧ tN (fdC a op nd here cell left) < nd := by
  rcases seI_or (P := fdP a op nd here cell left) nd 0 with ⟨h1, -⟩ | ⟨j, -, hj, h1, -⟩
  · exact absurd (by unfold fdC; rw [h1]; decide) h
  · unfold fdC at h ⊢
    rw [h1]
    unfold tN
    rw [nIc (by omega)]
    exact ⟨rfl, by omega⟩
def dwC (a op : Nat → Int32) (nd cell : Nat) (L k : Int32) : Nat → Nat → Nat → Int32
  | 0, _, _ => -4
  | f + 1, done, here => if fdC a op nd here cell (L - nI done) < 0 ∨ nI done = k then fdC a op nd here cell (L - nI done) else dwC a op nd cell L k f (done + 1) (beN a (tN (fdC a op nd here cell (L - nI done))) here)
theorem dwC_on {a op : Nat → Int32} {nd cell : Nat} {L k : Int32} {n done here : Nat} (hd : done < n) (h1 : ¬ fdC a op nd here cell (L - nI done) < 0) (h2 : ¬ nI done = k) : dwC a op nd cell L k (n - done) done here = dwC a op nd cell L k (n - (done + 1)) (done + 1) (beN a (tN (fdC a op nd here cell (L - nI done))) here) := by
  rw [show n - done = (n - (done + 1)) + 1 by omega, dwC, if_neg (by exact fun q => q.elim h1 h2)]
theorem dwC_end {a op : Nat → Int32} {nd cell : Nat} {L k : Int32} {n done here : Nat} (hd : done < n) (h : fdC a op nd here cell (L - nI done) < 0 ∨ nI done = k) : dwC a op nd cell L k (n - done) done here = fdC a op nd here cell (L - nI done) := by
  rw [show n - done = (n - (done + 1)) + 1 by omega, dwC, if_pos h]
theorem len_lt {L : Int32} {ln d : Nat} (h : L = nI ln ∨ (L < 0 ∧ ln = 0)) (hl : ln < 2147483648) (hd : d < 2147483648) (hc : ¬ L ≤ nI d) : d < ln := by
  rcases h with rfl | ⟨h1, h2⟩
  · rw [nI_leI hl hd] at hc; omega
  · exact absurd (by rw [Int32.le_iff_toInt_le, nI_toInt hd]; rw [Int32.lt_iff_toInt_lt, show (0 : Int32).toInt = 0 from rfl] at h1; omega) hc
theorem len_ge {L : Int32} {ln d : Nat} (h : L = nI ln ∨ (L < 0 ∧ ln = 0)) (hl : ln < 2147483648) (hd : d < 2147483648) (hc : L ≤ nI d) : ln ≤ d := by
  rcases h with rfl | ⟨h1, h2⟩
  · rw [nI_leI hl hd] at hc; omega
  · omega
def lcP (a op : Nat → Int32) (nd st cell size s : Nat) : Bool := decide (bcJ (nI s) = nI size) && decide ((spZ a op (nI s) st nd).1 cell < 0)
def lcO (a op : Nat → Int32) (nd st cell : Nat) : Nat → Nat → Int32
  | 0, _ => -4
  | n + 1, size => if seI (lcP a op nd st cell size) (2 ^ nd) 0 = -4 then lcO a op nd st cell n (size + 1) else seI (lcP a op nd st cell size) (2 ^ nd) 0
theorem lcO_on {a op : Nat → Int32} {nd st cell n size : Nat} (hd : size < n) (h : seI (lcP a op nd st cell size) (2 ^ nd) 0 = -4) : lcO a op nd st cell (n - size) size = lcO a op nd st cell (n - (size + 1)) (size + 1) := by
  rw [show n - size = (n - (size + 1)) + 1 by omega, lcO, if_pos h]
theorem lcO_end {a op : Nat → Int32} {nd st cell n size s : Nat} (hd : size < n) (hs : s < 2147483648) (h : seI (lcP a op nd st cell size) (2 ^ nd) 0 = nI s) : lcO a op nd st cell (n - size) size = nI s := by
  rw [show n - size = (n - (size + 1)) + 1 by omega, lcO, if_neg (by rw [h]; exact nI_n4 hs), h]
def lcC (a op : Nat → Int32) (nd st cell : Nat) : Int32 := if cell = st then -4 else lcO a op nd st cell (nd + 1) 0
def brS (a op : Nat → Int32) (nd st cell d : Nat) (b : Int32) : Int32 := if 0 ≤ (spZ a op (bitI d) st nd).1 cell then b else b ||| bitI d
def brC (a op : Nat → Int32) (nd st cell : Nat) (f : Int32) : Int32 := if 0 ≤ f then it (brS a op nd st cell) nd (nI 0) else nI 0
def lwF (f g : Nat → Int32) (c : Nat) : Int32 := if f c < 0 then -4 else if 0 ≤ g c then (if f c < g c then g c else f c) else -4
def mcS (f g : Nat → Int32) (c : Nat) (s : Int32 × Int32) : Int32 × Int32 := if lwF f g c < 0 then s else if s.2 ≤ lwF f g c then s else (nI c, lwF f g c)
def mcF (f g : Nat → Int32) : Int32 × Int32 := it (mcS f g) 8 (-4, nI 8)
def gtB (a op : Nat → Int32) (nd cell : Nat) : Nat → Nat → Int32 → Bool
  | 0, here, _ => decide (here = cell)
  | n + 1, here, sh => decide (here = cell) || it (anyS (fun d => ioB op here d sh && (decide (beN a d here = cell) || (decide (0 < n) && it (allS (fun e => gtB a op nd cell n (beN a d here) (sh ||| bitI e))) nd true)))) nd false
def gsB (a op : Nat → Int32) (nd cell n here : Nat) (sh : Int32) : Bool := decide (here = cell) || (decide (0 < n) && it (allS (fun e => gtB a op nd cell n here (sh ||| bitI e))) nd true)
theorem gtB_s (a op : Nat → Int32) (nd cell n here : Nat) (sh : Int32) : gtB a op nd cell (n + 1) here sh = (decide (here = cell) || it (anyS (fun d => ioB op here d sh && gsB a op nd cell n (beN a d here) sh)) nd false) := rfl
def hsP (a op : Nat → Int32) (nd cell st n : Nat) : Bool := gtB a op nd cell n st (nI 0)
def hsC (a op : Nat → Int32) (nd cell st most : Nat) : Int32 := seI (hsP a op nd cell st) (most + 1) 0
