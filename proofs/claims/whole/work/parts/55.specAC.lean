/-! the class, asked: what one man could do; only its scratch changes -/
def scc (r : Nat) : Prop := r = 19 ∨ r = 20 ∨ (26 ≤ r ∧ r ≤ 32)
def SCI (I I2 : Nat → Nat → Int32) : Prop := ∀ r, ¬ scc r → I2 r = I r
def SCJ (J J2 : Nat → Nat → Int64) : Prop := ∀ r, r ≠ 0 → r ≠ 1 → J2 r = J r
def SCs (st u : jS) : Prop := SCI st.1 u.1 ∧ SCJ st.2.1 u.2.1 ∧ u.2.2 = st.2.2
theorem SCI.rf {I : Nat → Nat → Int32} : SCI I I := fun _ _ => rfl
theorem SCJ.rf {J : Nat → Nat → Int64} : SCJ J J := fun _ _ _ => rfl
theorem SCI.sr {I I2 : Nat → Nat → Int32} {r : Nat} {f : Nat → Int32} (h : SCI I I2) (hr : scc r) : SCI I (sr I2 r f) := fun q hq => by
  rw [sr_ne (show q ≠ r by rintro rfl; exact hq hr)]; exact h q hq
theorem SCJ.sr {I I2 : Nat → Nat → Int64} {r : Nat} {f : Nat → Int64} (h : SCJ I I2) (hr : r = 0 ∨ r = 1) : SCJ I (srJ I2 r f) := fun q hq hq1 => by
  rw [srJ_ne (show q ≠ r by rintro rfl; exact hr.elim hq hq1)]; exact h q hq hq1
theorem scc19 : scc 19 := Or.inl rfl
theorem scc20 : scc 20 := Or.inr (Or.inl rfl)
theorem sccI {r : Nat} (h : 26 ≤ r ∧ r ≤ 32) : scc r := Or.inr (Or.inr h)
/-- what holds while it is spread -/
def spOK (n : Nat) (s : sp4) : Prop := ∀ j, j < 8 → s.1 j = -4 ∨ ∃ v, v ≤ n ∧ s.1 j = nI v
theorem spOK.mono {n k : Nat} {s : sp4} (h : spOK n s) (hk : n ≤ k) : spOK k s := fun j hj => by
  rcases h j hj with h1 | ⟨v, h1, h2⟩
  · exact Or.inl h1
  · exact Or.inr ⟨v, by omega, h2⟩
theorem spOK_D {a op : Nat → Int32} {sh th : Int32} {c d n : Nat} {s : sp4} (h : spOK (n + 1) s) (hth : th = nI (n + 1)) : spOK (n + 1) (spD a op sh c th d s) := by
  unfold spD
  split
  · split
    · split
      · exact h
      · exact h
    · intro j hj
      show upd s.1 _ _ j = -4 ∨ ∃ w, w ≤ n + 1 ∧ upd s.1 _ _ j = nI w
      by_cases e : j = beN a d c
      · rw [e, pk_us]; exact Or.inr ⟨n + 1, Nat.le_refl _, hth⟩
      · rw [pk_un e]; exact h j hj
  · exact h
theorem spOK_C {a op : Nat → Int32} {sh : Int32} {nd n c : Nat} {s : sp4} (h : spOK (n + 1) s) : spOK (n + 1) (spC a op sh nd n c s) := by
  unfold spC
  split
  · rename_i hk
    have hth : s.1 c + nI 1 = nI (n + 1) := by rw [hk, nI_add]
    have hi : ∀ i, spOK (n + 1) (it (spD a op sh c (s.1 c + nI 1)) i s) := by
      intro i
      induction i with
      | zero => exact h
      | succ i ih => exact spOK_D ih hth
    exact hi nd
  · exact h
theorem spOK_K {a op : Nat → Int32} {sh : Int32} {nd n : Nat} {s : sp4} (h : spOK n s) : spOK (n + 1) (spK a op sh nd n s) := by
  have hi : ∀ i, spOK (n + 1) (it (spC a op sh nd n) i s) := by
    intro i
    induction i with
    | zero => exact h.mono (Nat.le_succ n)
    | succ i ih => exact spOK_C ih
  exact hi 8
theorem spOK_I {f h : Nat → Int32} {fr : Nat} : spOK 0 (spI f h fr) := by
  intro j hj
  show upd (filI f (-4) 8) fr (nI 0) j = -4 ∨ ∃ v, v ≤ 0 ∧ upd (filI f (-4) 8) fr (nI 0) j = nI v
  by_cases e : j = fr
  · rw [e, pk_us]; exact Or.inr ⟨0, Nat.le_refl _, rfl⟩
  · rw [pk_un e]; exact Or.inl (if_pos hj)
theorem spZ_OK {a op : Nat → Int32} {sh : Int32} {nd fr : Nat} : spOK 8 (spZ a op sh fr nd) := by
  have hi : ∀ k, spOK k (it (spK a op sh nd) k (spI (fun _ => nI 0) (fun _ => nI 0) fr)) := by
    intro k
    induction k with
    | zero => exact spOK_I
    | succ k ih => rw [it_s]; exact spOK_K ih
  have e : spZ a op sh fr nd = it (spK a op sh nd) 8 (spI (fun _ => nI 0) (fun _ => nI 0) fr) := rfl
  rw [e]
  exact hi 8
theorem spZ_len {a op : Nat → Int32} {sh : Int32} {nd fr j : Nat} (_ : wfD a nd) (_ : nd ≤ 10) (_ : fr < 8) (hj : j < 8) : tN ((spZ a op sh fr nd).1 j) < 2147483647 := by
  rcases spZ_OK (sh := sh) (op := op) (a := a) (nd := nd) (fr := fr) j hj with h | ⟨v, h1, h2⟩
  · rw [h]; decide
  · rw [h2]; unfold tN; rw [nIc (by omega)]; omega
/-- what is open to him, CELL by CELL -/
def opM (a : Nat → Int32) (m nd : Nat) : Nat → Int32 := opN a a m (a (63 + m)) (a (7 + m)) nd
def spM (a : Nat → Int32) (m nd : Nat) : sp4 := spZ a (opM a m nd) (nI 0) (ceF a m) nd
def wayC (a : Nat → Int32) (nd nm : Nat) (man cell k : Int32) : Int32 :=
  if isB man nm && (isB cell 8 && !decide (k < -1)) then
    (if k = -1 then (spM a (tN man) nd).1 (tN cell) else dwC a (opM a (tN man) nd) nd (tN cell) ((spM a (tN man) nd).1 (tN cell)) k (tN ((spM a (tN man) nd).1 (tN cell))) 0 (ceF a (tN man)))
  else -1
def waysC (a : Nat → Int32) (nd nm : Nat) (man cell : Int32) : Int32 := if isB man nm && isB cell 8 then (spM a (tN man) nd).2 (tN cell) else -1
theorem rchC_cong {f f2 : Nat → Int32} : ∀ {n : Nat}, (∀ j, j < n → f j = f2 j) → rchC f n = rchC f2 n
  | 0, _ => rfl
  | n + 1, h => by rw [rchC, rchC, rchC_cong (fun j hj => h j (by omega)), h n (by omega)]
def reachC (a : Nat → Int32) (nd nm : Nat) (man : Int32) : Int32 := if isB man nm then rchC (spM a (tN man) nd).1 8 else -1
def roundC (a : Nat → Int32) (nd nm : Nat) (man cells : Int32) : Int32 := if isB man nm && isB cells 256 then rdC a (opM a (tN man) nd) (tN cells) nd (ceF a (tN man)) else -1
def cuC (a : Nat → Int32) (nd nm : Nat) (man cell what : Int32) : Int32 :=
  if isB man nm && (isB cell 8 && isB what 2) then
    (if lcC a (opM a (tN man) nd) nd (ceF a (tN man)) (tN cell) < 0 ∨ what = nI 1 then lcC a (opM a (tN man) nd) nd (ceF a (tN man)) (tN cell) else bcJ (lcC a (opM a (tN man) nd) nd (ceF a (tN man)) (tN cell)))
  else -1
def brgC (a : Nat → Int32) (nd nm : Nat) (man cell : Int32) : Int32 := if isB man nm && isB cell 8 then brC a (opM a (tN man) nd) nd (ceF a (tN man)) (tN cell) ((spM a (tN man) nd).1 (tN cell)) else -1
def witP (a : Nat → Int32) (m nd cell e : Nat) : Bool := !decide ((spZ a (opN a a m (nI e) (a (7 + m)) nd) (nI 0) (ceF a m) nd).1 cell < 0)
def witC (a : Nat → Int32) (nd nm : Nat) (man cell : Int32) : Int32 := if isB man nm && isB cell 8 then seI (witP a (tN man) nd (tN cell)) 10 0 else -1
def lesQC (a : Nat → Int32) (m nd s : Nat) : Int32 := bcJ (rchC (spZ a (opN a a m (a (63 + m)) (nI s) nd) (nI 0) (ceF a m) nd).1 8)
def lesSC (a : Nat → Int32) (m nd i : Nat) (b : Int32 × Int32) : Int32 × Int32 := if lesQC a m nd i ≤ b.2 then b else (nI i, lesQC a m nd i)
def lesC (a : Nat → Int32) (nd nm : Nat) (man what : Int32) : Int32 :=
  if isB man nm && isB what 2 then (if what = nI 0 then (it (lesSC a (tN man) nd) 4 (nI 0, nI 0)).1 else (it (lesSC a (tN man) nd) 4 (nI 0, nI 0)).2) else -1
theorem lwF_cong {f f2 g g2 : Nat → Int32} {c : Nat} (h : f c = f2 c) (h2 : g c = g2 c) : lwF f g c = lwF f2 g2 c := by unfold lwF; rw [h, h2]
theorem mcF_cong {f f2 g g2 : Nat → Int32} (h : ∀ j, j < 8 → f j = f2 j) (h2 : ∀ j, j < 8 → g j = g2 j) : mcF f g = mcF f2 g2 := it_congr 8 (fun k s hk => by simp only [mcS, lwF_cong (h k hk) (h2 k hk)]) _
theorem mcF_ok (f g : Nat → Int32) : (mcF f g).1 = -4 ∨ ∃ c, c < 8 ∧ (mcF f g).1 = nI c := by
  have hi : ∀ n, n ≤ 8 → (it (mcS f g) n (-4, nI 8)).1 = -4 ∨ ∃ c, c < 8 ∧ (it (mcS f g) n (-4, nI 8)).1 = nI c := by
    intro n
    induction n with
    | zero => exact fun _ => Or.inl rfl
    | succ n ih =>
      intro hn
      rw [it_s]
      unfold mcS
      split
      · exact ih (by omega)
      · split
        · exact ih (by omega)
        · exact Or.inr ⟨n, by omega, rfl⟩
  exact hi 8 (Nat.le_refl _)
theorem mcF_nat {f g : Nat → Int32} (h : ¬ (mcF f g).1 < 0) : ∃ c, c < 8 ∧ (mcF f g).1 = nI c := by
  rcases mcF_ok f g with h1 | h1
  · rw [h1] at h; exact absurd (by decide) h
  · exact h1
def meeC (a : Nat → Int32) (nd nm : Nat) (man other what : Int32) : Int32 :=
  if isB man nm && (isB other nm && (!decide (man = other) && isB what 2)) then
    (if (mcF (spM a (tN man) nd).1 (spM a (tN other) nd).1).1 < 0 ∨ what = nI 0 then (mcF (spM a (tN man) nd).1 (spM a (tN other) nd).1).1 else lwF (spM a (tN man) nd).1 (spM a (tN other) nd).1 (tN (mcF (spM a (tN man) nd).1 (spM a (tN other) nd).1).1))
  else -1
def hunC (a : Nat → Int32) (nd nm : Nat) (man cell n : Int32) : Int32 := if isB man nm && (isB cell 8 && isB n 4) then hsC a (opM a (tN man) nd) nd (tN cell) (ceF a (tN man)) (tN n) else -1
/-- what divides both: as the class goes -/
def cdF : Nat → Int64 → Int64 → Int64
  | 0, a, _ => a
  | f + 1, a, b => if b = 0 then a else cdF f b (a - a / b * b)
theorem cdF_0 (f : Nat) (a : Int64) : cdF f a 0 = a := by cases f <;> simp [cdF]
def wanC (a : Nat → Int32) (nd nm : Nat) (man cell n what : Int32) : Int64 :=
  if isB man nm && (isB cell 8 && (isB n 5 && isB what 2)) then
    (if 0 < cdF 100 (whL (tN n)) (odC a (opM a (tN man) nd) nd (ceF a (tN man)) (tN n) (tN cell)) then
      (if what = nI 0 then odC a (opM a (tN man) nd) nd (ceF a (tN man)) (tN n) (tN cell) / cdF 100 (whL (tN n)) (odC a (opM a (tN man) nd) nd (ceF a (tN man)) (tN n) (tN cell))
       else whL (tN n) / cdF 100 (whL (tN n)) (odC a (opM a (tN man) nd) nd (ceF a (tN man)) (tN n) (tN cell)))
     else -1)
  else -1
theorem ceF_eq {a : Nat → Int32} {m cc : Nat} (hcc : cc < 8) (e : a (51 + m) = nI cc) : ceF a m = cc := by unfold ceF; rw [e]; exact nIc (by omega)
theorem foM {a : Nat → Int32} {m nd cc : Nat} {o f h : Nat → Int32} (hcc : cc < 8) (e : a (51 + m) = nI cc) (hx : foOK a m (a (63 + m)) (a (7 + m)) nd cc o f h) : (∀ j, j < 8 → o j = opM a m nd j) ∧ (∀ j, j < 8 → f j = (spM a m nd).1 j) ∧ ∀ j, j < 8 → h j = (spM a m nd).2 j := by
  have e2 : spM a m nd = spZ a (opN a a m (a (63 + m)) (a (7 + m)) nd) (nI 0) cc nd := by unfold spM opM; rw [ceF_eq hcc e]
  have e3 : opM a m nd = opN a a m (a (63 + m)) (a (7 + m)) nd := rfl
  rw [e2, e3]
  exact ⟨hx.1, fun j hj => (hx.2 j hj).1, fun j hj => (hx.2 j hj).2⟩
theorem cpy8 {f g : Nat → Int32} {j : Nat} (hj : j < 8) : va_cpy f g 0 0 8 j = f j := by rw [pk_cpy_in (Nat.zero_le _) (by omega)]; congr 1; omega
