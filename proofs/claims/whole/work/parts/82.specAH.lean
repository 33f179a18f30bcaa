/-! the tape, as the class reads it: s: where it is, whether it is faulty -/
def tS (o : Nat → Int32) (n : Nat) (s : Nat × Bool) : Nat → Int32 := upd (upd (upd o 0 (nI n)) 1 (nI s.1)) 2 (b2 s.2)
theorem tS_0 {o : Nat → Int32} {n : Nat} {s : Nat × Bool} : tS o n s 0 = nI n := by simp [tS, upd]
theorem tS_1 {o : Nat → Int32} {n : Nat} {s : Nat × Bool} : tS o n s 1 = nI s.1 := by simp [tS, upd]
theorem tS_2 {o : Nat → Int32} {n : Nat} {s : Nat × Bool} : tS o n s 2 = b2 s.2 := by simp [tS, upd]
theorem tS_p {o : Nat → Int32} {n q : Nat} {s : Nat × Bool} : upd (tS o n s) 1 (nI q) = tS o n (q, s.2) := by
  funext j; simp only [tS, upd]; by_cases h2 : j = 2 <;> by_cases h1 : j = 1 <;> simp [h1, h2] <;> omega
theorem tS_f {o : Nat → Int32} {n : Nat} {s : Nat × Bool} {b : Bool} : upd (tS o n s) 2 (b2 b) = tS o n (s.1, b) := by
  funext j; simp only [tS, upd]; by_cases h2 : j = 2 <;> simp [h2]
theorem tS_n {o : Nat → Int32} {n q : Nat} {s : Nat × Bool} : upd (tS o n s) 0 (nI q) = tS o q s := by
  funext j; simp only [tS, upd]; by_cases h2 : j = 2 <;> by_cases h1 : j = 1 <;> by_cases h0 : j = 0 <;> simp [h0, h1, h2] <;> omega
def skN (t : Nat → Int32) : Nat → Nat → Nat
  | 0, p => p
  | f + 1, p => if t p = nI 32 then skN t f (p + 1) else p
def sk (t : Nat → Int32) (n p : Nat) : Nat := skN t (n - p) p
theorem sk_on {t : Nat → Int32} {n p : Nat} (h : p < n) (h2 : t p = nI 32) : sk t n p = sk t n (p + 1) := by
  unfold sk
  rw [show n - p = (n - (p + 1)) + 1 by omega, skN, if_pos h2]
theorem sk_end {t : Nat → Int32} {n p : Nat} (h2 : ¬ t p = nI 32) : sk t n p = p := by
  unfold sk
  cases n - p with
  | zero => rfl
  | succ k => rw [skN, if_neg h2]
theorem sk_ge {t : Nat → Int32} {n p : Nat} (h : n ≤ p) : sk t n p = p := by
  unfold sk
  rw [show n - p = 0 by omega]; rfl
theorem skN_le (t : Nat → Int32) : ∀ f p, p ≤ skN t f p ∧ skN t f p ≤ p + f
  | 0, p => ⟨Nat.le_refl _, Nat.le_refl _⟩
  | f + 1, p => by
    rw [skN]
    split
    · have := skN_le t f (p + 1); omega
    · omega
theorem sk_le {t : Nat → Int32} {n p : Nat} (h : p ≤ n) : p ≤ sk t n p ∧ sk t n p ≤ n := by
  have := skN_le t (n - p) p
  unfold sk
  omega
theorem skN_nb (t : Nat → Int32) : ∀ f p, skN t f p < p + f → ¬ t (skN t f p) = nI 32
  | 0, p, h => by have : skN t 0 p = p := rfl; omega
  | f + 1, p, h => by
    rw [skN] at h ⊢
    split
    · rename_i z
      rw [if_pos z] at h
      exact skN_nb t f (p + 1) (by omega)
    · rename_i z; exact z
theorem sk_nb {t : Nat → Int32} {n p : Nat} (hp : p ≤ n) (h : sk t n p < n) : ¬ t (sk t n p) = nI 32 := skN_nb t (n - p) p (by unfold sk at h; omega)
theorem sk_sk {t : Nat → Int32} {n p : Nat} (hp : p ≤ n) : sk t n (sk t n p) = sk t n p := by
  rcases Nat.lt_or_ge (sk t n p) n with h | h
  · exact sk_end (sk_nb hp h)
  · exact sk_ge h
def skS (t : Nat → Int32) (n : Nat) (s : Nat × Bool) : Nat × Bool := (if s.2 = true then s.1 else sk t n s.1, s.2)
theorem skS_le {t : Nat → Int32} {n : Nat} {s : Nat × Bool} (h : s.1 ≤ n) : (skS t n s).1 ≤ n := by
  unfold skS
  split
  · exact h
  · exact (sk_le h).2
def flS (s : Nat × Bool) (k : Nat) : Nat × Bool := (if s.2 = true then s.1 else k, true)
theorem flS_le {n k : Nat} {s : Nat × Bool} (h : s.1 ≤ n) (hk : k ≤ n) : (flS s k).1 ≤ n := by
  unfold flS
  split
  · exact h
  · exact hk
def pik (t : Nat → Int32) (n i : Nat) (s : Nat × Bool) : Nat × (Nat × Bool) :=
  if (skS t n s).2 = false ∧ (skS t n s).1 < n ∧ 0 ≤ txO i (t (skS t n s).1) then (tN (txO i (t (skS t n s).1)), ((skS t n s).1 + 1, false)) else (0, flS (skS t n s) (skS t n s).1)
theorem pik_le {t : Nat → Int32} {n i : Nat} {s : Nat × Bool} (h : s.1 ≤ n) : (pik t n i s).2.1 ≤ n := by
  unfold pik
  split
  · rename_i z; exact z.2.1
  · exact flS_le (skS_le h) (skS_le h)
theorem pik_1 {t : Nat → Int32} {n i : Nat} {s : Nat × Bool} (h : (pik t n i s).2.2 = false) : 1 ≤ (pik t n i s).2.1 := by
  unfold pik at h ⊢
  split
  · exact Nat.le_add_left _ _
  · rename_i z; rw [if_neg z] at h; exact absurd h (by simp [flS])
theorem sxI_le (P : Nat → Bool) : ∀ n d, d + n ≤ 2147483647 → sxI P n d = -1 ∨ ∃ k, k < d + n ∧ sxI P n d = nI k
  | 0, d, _ => Or.inl rfl
  | n + 1, d, h => by
    rw [sxI]
    split
    · exact Or.inr ⟨d, by omega, rfl⟩
    · rcases sxI_le P n (d + 1) (by omega) with z | ⟨k, hk, z⟩
      · exact Or.inl z
      · exact Or.inr ⟨k, by omega, z⟩
theorem txO_le {i : Nat} {x : Int32} (hi : i < 4) : txO i x = -1 ∨ ∃ k, k < 10 ∧ txO i x = nI k := by
  unfold txO
  have hl := jtL_lt i hi
  split
  · rcases sxI_le (txP i x) (jtL.getD i 0) 0 (by omega) with z | ⟨k, hk, z⟩
    · exact Or.inl z
    · exact Or.inr ⟨k, by omega, z⟩
  · exact Or.inl rfl
theorem txO_nat {i : Nat} {x : Int32} (hi : i < 4) (h : 0 ≤ txO i x) : txO i x = nI (tN (txO i x)) ∧ tN (txO i x) < 10 := by
  rcases txO_le (x := x) hi with z | ⟨k, hk, z⟩
  · rw [z] at h; exact absurd h (by decide)
  · rw [z, show tN (nI k) = k from nIc (by omega)]; exact ⟨rfl, hk⟩
theorem pik_lt {t : Nat → Int32} {n i : Nat} {s : Nat × Bool} (hi : i < 4) : (pik t n i s).1 < 10 := by
  unfold pik
  split
  · rename_i z; exact (txO_nat hi z.2.2).2
  · exact Nat.zero_lt_succ _
def gn (t : Nat → Int32) (n : Nat) (c : Int32) (s : Nat × Bool) : Bool × (Nat × Bool) :=
  if (skS t n s).2 = false ∧ (skS t n s).1 < n ∧ t (skS t n s).1 = c then (true, ((skS t n s).1 + 1, (skS t n s).2)) else (false, skS t n s)
theorem gn_le {t : Nat → Int32} {n : Nat} {c : Int32} {s : Nat × Bool} (h : s.1 ≤ n) : (gn t n c s).2.1 ≤ n := by
  unfold gn
  split
  · rename_i z; exact z.2.1
  · exact skS_le h
/-- the second digit, if there is one -/
def ph1 (t : Nat → Int32) (n : Nat) (a : Nat × (Nat × Bool)) : Nat × (Nat × Bool) := if a.2.2 = false ∧ a.2.1 < n ∧ 0 ≤ txO 2 (t a.2.1) then (a.1 * 10 + tN (txO 2 (t a.2.1)), (a.2.1 + 1, a.2.2)) else a
def ph (t : Nat → Int32) (n : Nat) (s : Nat × Bool) : Nat × (Nat × Bool) :=
  if (ph1 t n (pik t n 2 s)).1 < 1 ∨ 19 < (ph1 t n (pik t n 2 s)).1 then ((ph1 t n (pik t n 2 s)).1, flS (ph1 t n (pik t n 2 s)).2 ((pik t n 2 s).2.1 - 1)) else ph1 t n (pik t n 2 s)
theorem ph1_le {t : Nat → Int32} {n : Nat} {a : Nat × (Nat × Bool)} (h : a.2.1 ≤ n) (h2 : a.1 < 10) : (ph1 t n a).2.1 ≤ n ∧ (ph1 t n a).1 < 100 := by
  unfold ph1
  split
  · rename_i z
    have := (txO_nat (i := 2) (by decide) z.2.2).2
    exact ⟨z.2.1, by omega⟩
  · exact ⟨h, by omega⟩
theorem ph_le {t : Nat → Int32} {n : Nat} {s : Nat × Bool} (h : s.1 ≤ n) : (ph t n s).2.1 ≤ n ∧ (ph t n s).1 < 100 := by
  have h1 := pik_le (t := t) (i := 2) h
  have h2 := ph1_le (t := t) h1 (pik_lt (t := t) (n := n) (s := s) (i := 2) (by decide))
  unfold ph
  split
  · exact ⟨flS_le h2.1 (by omega), h2.2⟩
  · exact h2
/-- a DOOR: its second CELL, and where it stands behind it -/
def pd2 (t : Nat → Int32) (n : Nat) (s : Nat × Bool) : Nat × Bool := if (pik t n 0 (pik t n 0 s).2).1 = (pik t n 0 s).1 then flS (pik t n 0 (pik t n 0 s).2).2 ((pik t n 0 (pik t n 0 s).2).2.1 - 1) else (pik t n 0 (pik t n 0 s).2).2
theorem pd2_le {t : Nat → Int32} {n : Nat} {s : Nat × Bool} (h : s.1 ≤ n) : (pd2 t n s).1 ≤ n := by
  have h1 := pik_le (t := t) (i := 0) (pik_le (t := t) (i := 0) h)
  unfold pd2
  split
  · exact flS_le h1 (by omega)
  · exact h1
def pdS (t : Nat → Int32) (n : Nat) (s : Nat × Bool) : Nat × Bool := (ph t n (pik t n 1 (pd2 t n s)).2).2
def pdR (t : Nat → Int32) (n : Nat) (s : Nat × Bool) (a : Nat → Int32) : Nat → Int32 := adR a (nI (pik t n 0 s).1) (nI (pik t n 0 (pik t n 0 s).2).1) (nI (pik t n 1 (pd2 t n s)).1) (nI (ph t n (pik t n 1 (pd2 t n s)).2).1)
theorem pdS_le {t : Nat → Int32} {n : Nat} {s : Nat × Bool} (h : s.1 ≤ n) : (pdS t n s).1 ≤ n := (ph_le (pik_le (pd2_le h))).1
/-- a MAN -/
def pm3 (t : Nat → Int32) (n : Nat) (s : Nat × Bool) : Nat × Bool := (pik t n 1 (pik t n 2 (pik t n 3 s).2).2).2
def pm4 (t : Nat → Int32) (n : Nat) (s : Nat × Bool) : Nat × (Nat × Bool) := if (gn t n (nI 64) (pm3 t n s)).1 = true then pik t n 0 (gn t n (nI 64) (pm3 t n s)).2 else (0, (gn t n (nI 64) (pm3 t n s)).2)
def pmS (t : Nat → Int32) (n : Nat) (s : Nat × Bool) : Nat × Bool := (pm4 t n s).2
def pmR (t : Nat → Int32) (n : Nat) (s : Nat × Bool) (a : Nat → Int32) : Nat → Int32 := amR a (nI (pik t n 3 s).1) (nI (pik t n 2 (pik t n 3 s).2).1) (nI (pik t n 1 (pik t n 2 (pik t n 3 s).2).2).1) (nI (pm4 t n s).1)
theorem pm3_le {t : Nat → Int32} {n : Nat} {s : Nat × Bool} (h : s.1 ≤ n) : (pm3 t n s).1 ≤ n := pik_le (pik_le (pik_le h))
theorem pmS_le {t : Nat → Int32} {n : Nat} {s : Nat × Bool} (h : s.1 ≤ n) : (pmS t n s).1 ≤ n := by
  unfold pmS pm4
  split
  · exact pik_le (gn_le (pm3_le h))
  · exact gn_le (pm3_le h)
/-- DOORS: the row, where it stands, whether more come -/
def pdsS (t : Nat → Int32) (n j : Nat) (s : (Nat → Int32) × (Nat × Bool) × Bool) : (Nat → Int32) × (Nat × Bool) × Bool :=
  if s.2.2 = true then (if j < 9 then (pdR t n s.2.1 s.1, (gn t n (nI 44) (pdS t n s.2.1)).2, (gn t n (nI 44) (pdS t n s.2.1)).1) else (pdR t n s.2.1 s.1, pdS t n s.2.1, false)) else s
def pds (t : Nat → Int32) (n : Nat) (s : Nat × Bool) (a : Nat → Int32) : (Nat → Int32) × (Nat × Bool) × Bool := it (pdsS t n) 10 (a, s, true)
def pmsS (t : Nat → Int32) (n j : Nat) (s : (Nat → Int32) × (Nat × Bool) × Bool) : (Nat → Int32) × (Nat × Bool) × Bool :=
  if s.2.2 = true then (if j < 3 then (pmR t n s.2.1 s.1, (gn t n (nI 44) (pmS t n s.2.1)).2, (gn t n (nI 44) (pmS t n s.2.1)).1) else (pmR t n s.2.1 s.1, pmS t n s.2.1, false)) else s
def pms (t : Nat → Int32) (n : Nat) (s : Nat × Bool) (a : Nat → Int32) : (Nat → Int32) × (Nat × Bool) × Bool := it (pmsS t n) 4 (a, s, true)
theorem adR_0 {a : Nat → Int32} {c o s h : Int32} {d : Nat} (hd : d < 10) (e : a 0 = nI d) : adR a c o s h 0 = nI (d + 1) ∧ adR a c o s h 1 = a 1 := by
  unfold adR
  rw [e, show tN (nI d) = d from nIc (by omega)]
  exact ⟨pk_us, by rw [pk_un (by omega), pk_un (by omega), pk_un (by omega), pk_un (by omega), pk_un (by omega)]⟩
theorem amR_1 {a : Nat → Int32} {k w s c : Int32} {m : Nat} (hm : m < 4) (e : a 1 = nI m) : amR a k w s c 1 = nI (m + 1) ∧ amR a k w s c 0 = a 0 := by
  unfold amR
  rw [e, show tN (nI m) = m from nIc (by omega)]
  exact ⟨pk_us, by rw [pk_un (by omega), pk_un (by omega), pk_un (by omega), pk_un (by omega), pk_un (by omega), pk_un (by omega), pk_un (by omega)]⟩
theorem pds_stop {t : Nat → Int32} {n k : Nat} {s : (Nat → Int32) × (Nat × Bool) × Bool} (h : (it (pdsS t n) k s).2.2 = false) (hk : k ≤ 10) : it (pdsS t n) 10 s = it (pdsS t n) k s := it_stop (k := k) (fun j => by unfold pdsS; exact if_neg (by unfold pdsS at h; rw [h]; decide)) 10 hk
theorem pms_stop {t : Nat → Int32} {n k : Nat} {s : (Nat → Int32) × (Nat × Bool) × Bool} (h : (it (pmsS t n) k s).2.2 = false) (hk : k ≤ 4) : it (pmsS t n) 4 s = it (pmsS t n) k s := it_stop (k := k) (fun j => by unfold pmsS; exact if_neg (by unfold pmsS at h; rw [h]; decide)) 4 hk
theorem pds_le {t : Nat → Int32} {n : Nat} {s : Nat × Bool} {a : Nat → Int32} (h : s.1 ≤ n) : (pds t n s a).2.1.1 ≤ n := by
  have key : ∀ k, (it (pdsS t n) k (a, s, true)).2.1.1 ≤ n := by
    intro k
    induction k with
    | zero => exact h
    | succ k ih =>
      rw [it_s]
      unfold pdsS
      split
      · split
        · exact gn_le (pdS_le ih)
        · exact pdS_le ih
      · exact ih
  exact key 10
theorem pms_le {t : Nat → Int32} {n : Nat} {s : Nat × Bool} {a : Nat → Int32} (h : s.1 ≤ n) : (pms t n s a).2.1.1 ≤ n := by
  have key : ∀ k, (it (pmsS t n) k (a, s, true)).2.1.1 ≤ n := by
    intro k
    induction k with
    | zero => exact h
    | succ k ih =>
      rw [it_s]
      unfold pmsS
      split
      · split
        · exact gn_le (pmS_le ih)
        · exact pmS_le ih
      · exact ih
  exact key 4
theorem pds_cnt {t : Nat → Int32} {n : Nat} {s : Nat × Bool} {a : Nat → Int32} (h : a 0 = nI 0) : (∃ d, d ≤ 10 ∧ (pds t n s a).1 0 = nI d) ∧ (pds t n s a).1 1 = a 1 := by
  have key : ∀ k, k ≤ 10 → (∃ d, d ≤ k ∧ (it (pdsS t n) k (a, s, true)).1 0 = nI d) ∧ (it (pdsS t n) k (a, s, true)).1 1 = a 1 := by
    intro k
    induction k with
    | zero => exact fun _ => ⟨⟨0, Nat.le_refl _, h⟩, rfl⟩
    | succ k ih =>
      intro hk
      obtain ⟨⟨d, hd, e⟩, e1⟩ := ih (by omega)
      rw [it_s]
      unfold pdsS
      have h2 : ∀ {c o x y : Int32}, (∃ d, d ≤ k + 1 ∧ adR (it (pdsS t n) k (a, s, true)).1 c o x y 0 = nI d) ∧ adR (it (pdsS t n) k (a, s, true)).1 c o x y 1 = a 1 := fun {c o x y} => ⟨⟨d + 1, by omega, (adR_0 (by omega) e).1⟩, ((adR_0 (by omega) e).2).trans e1⟩
      split
      · split
        · exact h2
        · exact h2
      · exact ⟨⟨d, by omega, e⟩, e1⟩
  exact key 10 (Nat.le_refl _)
theorem pms_cnt {t : Nat → Int32} {n : Nat} {s : Nat × Bool} {a : Nat → Int32} (h : a 1 = nI 0) : (∃ d, d ≤ 4 ∧ (pms t n s a).1 1 = nI d) ∧ (pms t n s a).1 0 = a 0 := by
  have key : ∀ k, k ≤ 4 → (∃ d, d ≤ k ∧ (it (pmsS t n) k (a, s, true)).1 1 = nI d) ∧ (it (pmsS t n) k (a, s, true)).1 0 = a 0 := by
    intro k
    induction k with
    | zero => exact fun _ => ⟨⟨0, Nat.le_refl _, h⟩, rfl⟩
    | succ k ih =>
      intro hk
      obtain ⟨⟨d, hd, e⟩, e1⟩ := ih (by omega)
      rw [it_s]
      unfold pmsS
      have h2 : ∀ {c o x y : Int32}, (∃ d, d ≤ k + 1 ∧ amR (it (pmsS t n) k (a, s, true)).1 c o x y 1 = nI d) ∧ amR (it (pmsS t n) k (a, s, true)).1 c o x y 0 = a 0 := fun {c o x y} => ⟨⟨d + 1, by omega, (amR_1 (by omega) e).1⟩, ((amR_1 (by omega) e).2).trans e1⟩
      split
      · split
        · exact h2
        · exact h2
      · exact ⟨⟨d, by omega, e⟩, e1⟩
  exact key 4 (Nat.le_refl _)
/-- what the tape comes to: the row, where it stands, whether it is faulty -/
def prM (t : Nat → Int32) (n : Nat) (a : Nat → Int32) : (Nat → Int32) × (Nat × Bool) :=
  if (gn t n (nI 59) (pds t n (0, false) a).2.1).1 = true then ((pms t n (gn t n (nI 59) (pds t n (0, false) a).2.1).2 (pds t n (0, false) a).1).1, (pms t n (gn t n (nI 59) (pds t n (0, false) a).2.1).2 (pds t n (0, false) a).1).2.1)
  else ((pds t n (0, false) a).1, (gn t n (nI 59) (pds t n (0, false) a).2.1).2)
def prS (t : Nat → Int32) (n : Nat) (a : Nat → Int32) : Nat × Bool := if (skS t n (prM t n a).2).1 < n then flS (skS t n (prM t n a).2) (skS t n (prM t n a).2).1 else skS t n (prM t n a).2
def prA (t : Nat → Int32) (n : Nat) (a : Nat → Int32) : Int32 := if (prS t n a).2 = true then (-20 : Int32) - nI (prS t n a).1 else (prM t n a).1 0
theorem prM_le {t : Nat → Int32} {n : Nat} {a : Nat → Int32} : (prM t n a).2.1 ≤ n := by
  unfold prM
  split
  · exact pms_le (gn_le (pds_le (Nat.zero_le _)))
  · exact gn_le (pds_le (Nat.zero_le _))
theorem prS_le {t : Nat → Int32} {n : Nat} {a : Nat → Int32} : (prS t n a).1 ≤ n := by
  unfold prS
  split
  · exact flS_le (skS_le prM_le) (skS_le prM_le)
  · exact skS_le prM_le
theorem prM_cnt {t : Nat → Int32} {n : Nat} {a : Nat → Int32} (h0 : a 0 = nI 0) (h1 : a 1 = nI 0) : (∃ d, d ≤ 10 ∧ (prM t n a).1 0 = nI d) ∧ ∃ m, m ≤ 4 ∧ (prM t n a).1 1 = nI m := by
  have hd := pds_cnt (t := t) (n := n) (s := (0, false)) h0
  unfold prM
  split
  · have hm := pms_cnt (t := t) (n := n) (s := (gn t n (nI 59) (pds t n (0, false) a).2.1).2) (a := (pds t n (0, false) a).1) (hd.2.trans h1)
    obtain ⟨d, hd1, hd2⟩ := hd.1
    exact ⟨⟨d, hd1, hm.2.trans hd2⟩, hm.1⟩
  · exact ⟨hd.1, 0, by omega, hd.2.trans h1⟩
theorem sr_sw {I : Nat → Nat → Int32} {r q : Nat} {f g : Nat → Int32} (h : r ≠ q) : sr (sr I r f) q g = sr (sr I q g) r f := by
  funext a
  by_cases e : a = q
  · subst e; rw [sr_self, sr_ne (fun z => h z.symm), sr_self]
  · by_cases e2 : a = r
    · subst e2; rw [sr_ne e, sr_self, sr_self]
    · rw [sr_ne e, sr_ne e2, sr_ne e2, sr_ne e]
def a00 (a : Nat → Int32) : Nat → Int32 := upd (upd a 0 (nI 0)) 1 (nI 0)
theorem a00_0 {a : Nat → Int32} : a00 a 0 = nI 0 := by simp [a00, upd]
theorem a00_1 {a : Nat → Int32} : a00 a 1 = nI 0 := by simp [a00, upd]
theorem chr_nat : ∀ k, k < 127 → ((nI k).toUInt32 % 65536).toInt32 = nI k := by decide +kernel
theorem chr_nar : ∀ k, k < 127 → vp_nar .char (nI k) = nI k := by decide +kernel
theorem rng_chr {x : Int32} (h1 : ¬ x < nI 32) (h2 : x ≤ nI 126) : ∃ k, 32 ≤ k ∧ k ≤ 126 ∧ x = nI k := by
  rw [Int32.lt_iff_toInt_lt, nI_toInt (by decide)] at h1
  rw [Int32.le_iff_toInt_le, nI_toInt (by decide)] at h2
  obtain ⟨k, hk, rfl⟩ := isB_nat (x := x) (n := 127) (isB_iff.mpr ⟨by omega, by omega⟩) (by decide)
  rw [nI_toInt (by omega)] at h1 h2
  exact ⟨k, by omega, by omega, rfl⟩
def lt126 (x : Int32) : Bool := !decide (x < nI 32) && decide (x ≤ nI 126)
def tyCA (n : Nat) (letter : Int32) : Int32 := if lt126 letter = true then (if n < 90 then nI (n + 1) else -3) else -1
def tyCI (I : Nat → Nat → Int32) (o : Nat → Int32) (n : Nat) (s : Nat × Bool) (letter : Int32) : Nat → Nat → Int32 := if lt126 letter = true ∧ n < 90 then sr (sr I 22 (upd (I 22) n letter)) 23 (tS o (n + 1) s) else I
/-- what the prison is behind READ -/
def rdC0 (a t d : Nat → Int32) (n : Nat) : Nat → Int32 := pcR a (upd (prM t n (a00 d)).1 67 (a 67)) (tN ((prM t n (a00 d)).1 0)) (tN ((prM t n (a00 d)).1 1))
theorem prA_ok {t a : Nat → Int32} {n : Nat} (hn : n ≤ 90) (h0 : a 0 = nI 0) (h1 : a 1 = nI 0) : 0 ≤ prA t n a ↔ (prS t n a).2 = false := by
  unfold prA
  cases e : (prS t n a).2 with
  | true =>
    rw [if_pos rfl]
    have h := prS_le (t := t) (n := n) (a := a)
    simp only [Bool.true_eq_false, iff_false]
    intro z
    rw [Int32.le_iff_toInt_le, Int32.toInt_sub, nI_toInt (by omega), show (-20 : Int32).toInt = -20 from rfl, show (0 : Int32).toInt = 0 from rfl, Int.bmod_eq_of_le (by omega) (by omega)] at z
    omega
  | false =>
    rw [if_neg (by decide)]
    obtain ⟨⟨d, hd, e2⟩, -⟩ := prM_cnt (t := t) (n := n) h0 h1
    rw [e2]
    exact ⟨fun _ => rfl, fun _ => nI_pos' (by omega)⟩
