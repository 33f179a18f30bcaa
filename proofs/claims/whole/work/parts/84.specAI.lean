/-! the tape, as the reference reads it: q: where it is, the value -/
def uS (o : Nat → Int32) (n : Nat) (q : Nat × Int32) : Nat → Int32 := upd (upd (upd o 2 (nI n)) 3 (nI q.1)) 4 q.2
theorem uS_2 {o : Nat → Int32} {n : Nat} {q : Nat × Int32} : uS o n q 2 = nI n := by simp [uS, upd]
theorem uS_3 {o : Nat → Int32} {n : Nat} {q : Nat × Int32} : uS o n q 3 = nI q.1 := by simp [uS, upd]
theorem uS_4 {o : Nat → Int32} {n : Nat} {q : Nat × Int32} : uS o n q 4 = q.2 := by simp [uS, upd]
theorem uS_p {o : Nat → Int32} {n k : Nat} {q : Nat × Int32} : upd (uS o n q) 3 (nI k) = uS o n (k, q.2) := by
  funext j; simp only [uS, upd]; by_cases h4 : j = 4 <;> by_cases h3 : j = 3 <;> simp [h3, h4] <;> omega
theorem uS_v {o : Nat → Int32} {n : Nat} {q : Nat × Int32} {v : Int32} : upd (uS o n q) 4 v = uS o n (q.1, v) := by
  funext j; simp only [uS, upd]; by_cases h4 : j = 4 <;> simp [h4]
theorem uS_n {o : Nat → Int32} {n k : Nat} {q : Nat × Int32} : upd (uS o n q) 2 (nI k) = uS o k q := by
  funext j; simp only [uS, upd]; by_cases h4 : j = 4 <;> by_cases h3 : j = 3 <;> by_cases h2 : j = 2 <;> simp [h2, h3, h4] <;> omega
def nx (t : Nat → Int32) (n p : Nat) : Int32 := if sk t n p < n then t (sk t n p) else -4
theorem nx_lt {t : Nat → Int32} {n p : Nat} (h : ¬ nx t n p = -4) : sk t n p < n := by
  apply Decidable.byContradiction
  intro z
  exact h (if_neg z)
theorem inR_n4 {x : Int32} {h : Int64} (q : inR x.toInt64 48 h = true) : ¬ x = -4 := by
  rintro rfl
  unfold inR at q
  rw [decide_eq_true (show (-4 : Int32).toInt64 < 48 by decide)] at q
  exact absurd q (by simp)
def rDg (t : Nat → Int32) (n h : Nat) (q : Nat × Int32) : Bool × (Nat × Int32) := if inR (nx t n q.1).toInt64 48 (nI (48 + h)).toInt64 = true then (true, (sk t n q.1 + 1, nx t n q.1 - nI 48)) else (false, (sk t n q.1, q.2))
theorem rDg_le {t : Nat → Int32} {n h : Nat} {q : Nat × Int32} (hq : q.1 ≤ n) : (rDg t n h q).2.1 ≤ n := by
  unfold rDg
  split
  · rename_i z; exact nx_lt (inR_n4 z)
  · exact (sk_le hq).2
def soV (c : Int32) : Int32 := if c = nI 43 then nI 0 else if c = nI 63 then nI 1 else if c = nI 61 then nI 2 else if c = nI 38 then nI 3 else -4
def rSo (t : Nat → Int32) (n : Nat) (q : Nat × Int32) : Bool × (Nat × Int32) := if soV (nx t n q.1) = -4 then (false, (sk t n q.1, -4)) else (true, (sk t n q.1 + 1, soV (nx t n q.1)))
theorem soV_n4 {c : Int32} (h : ¬ soV c = -4) : ¬ c = -4 := by
  rintro rfl
  exact h (by decide)
theorem rSo_le {t : Nat → Int32} {n : Nat} {q : Nat × Int32} (hq : q.1 ≤ n) : (rSo t n q).2.1 ≤ n := by
  unfold rSo
  split
  · exact (sk_le hq).2
  · rename_i z; exact nx_lt (soV_n4 z)
def dgB (c : Int32) : Bool := inR c.toInt64 48 57
/-- the digits of HARD: where it stands, what they say -/
def rH2 (t : Nat → Int32) (n k : Nat) : Nat × Int32 := if k + 1 < n ∧ dgB (t (k + 1)) = true then (k + 1 + 1, nI 10 * (t k - nI 48) + t (k + 1) - nI 48) else (k + 1, t k - nI 48)
def rHa (t : Nat → Int32) (n : Nat) (q : Nat × Int32) : Bool × (Nat × Int32) :=
  if dgB (nx t n q.1) = true then
    (if inR (rH2 t n (sk t n q.1)).2.toInt64 1 19 = true then (decide ((rH2 t n (sk t n q.1)).1 = n) || !dgB (t (rH2 t n (sk t n q.1)).1), rH2 t n (sk t n q.1)) else (false, (sk t n q.1, (rH2 t n (sk t n q.1)).2)))
  else (false, (sk t n q.1, q.2))
theorem rH2_le {t : Nat → Int32} {n k : Nat} (h : k < n) : (rH2 t n k).1 ≤ n := by
  unfold rH2
  split
  · rename_i z; exact z.1
  · exact h
theorem rHa_le {t : Nat → Int32} {n : Nat} {q : Nat × Int32} (hq : q.1 ≤ n) : (rHa t n q).2.1 ≤ n := by
  unfold rHa
  split
  · rename_i z
    split
    · exact rH2_le (nx_lt (inR_n4 z))
    · exact (sk_le hq).2
  · exact (sk_le hq).2
def rNx (t : Nat → Int32) (n : Nat) (c : Int32) (q : Nat × Int32) : Bool × (Nat × Int32) := if nx t n q.1 = c then (true, (sk t n q.1 + 1, q.2)) else (false, (sk t n q.1, q.2))
theorem rNx_le {t : Nat → Int32} {n : Nat} {c : Int32} {q : Nat × Int32} (hc : ¬ c = -4) (hq : q.1 ≤ n) : (rNx t n c q).2.1 ≤ n := by
  unfold rNx
  split
  · rename_i z; exact nx_lt (by rw [z]; exact hc)
  · exact (sk_le hq).2
/-- where the second CELL is looked for -/
def rD1 (t : Nat → Int32) (n : Nat) (q : Nat × Int32) : Nat × Int32 := (sk t n (rDg t n 7 q).2.1, (rDg t n 7 q).2.2)
def rDo (t : Nat → Int32) (n : Nat) (q : Nat × Int32) : Bool × (Nat × Int32) :=
  if (rDg t n 7 q).1 = false then (false, (rDg t n 7 q).2)
  else if nx t n (rDg t n 7 q).2.1 = nI 48 + (rDg t n 7 q).2.2 then (false, rD1 t n q)
  else if (rDg t n 7 (rD1 t n q)).1 = false then (false, (rDg t n 7 (rD1 t n q)).2)
  else if (rSo t n (rDg t n 7 (rD1 t n q)).2).1 = false then (false, (rSo t n (rDg t n 7 (rD1 t n q)).2).2)
  else ((rHa t n (rSo t n (rDg t n 7 (rD1 t n q)).2).2).1, (rHa t n (rSo t n (rDg t n 7 (rD1 t n q)).2).2).2)
def rDoR (t : Nat → Int32) (n : Nat) (q : Nat × Int32) (g : Nat → Int32) : Nat → Int32 := if (rDo t n q).1 = true then layDoorR g (rDg t n 7 q).2.2 (rDg t n 7 (rD1 t n q)).2.2 (rSo t n (rDg t n 7 (rD1 t n q)).2).2.2 (rHa t n (rSo t n (rDg t n 7 (rD1 t n q)).2).2).2.2 else g
theorem rD1_le {t : Nat → Int32} {n : Nat} {q : Nat × Int32} (hq : q.1 ≤ n) : (rD1 t n q).1 ≤ n := (sk_le (rDg_le hq)).2
theorem rDo_le {t : Nat → Int32} {n : Nat} {q : Nat × Int32} (hq : q.1 ≤ n) : (rDo t n q).2.1 ≤ n := by
  unfold rDo
  split
  · exact rDg_le hq
  · split
    · exact rD1_le hq
    · split
      · exact rDg_le (rD1_le hq)
      · split
        · exact rSo_le (rDg_le (rD1_le hq))
        · exact rHa_le (rSo_le (rDg_le (rD1_le hq)))
def kdV (c : Int32) : Int32 := if c = nI 112 then nI 0 else if c = nI 115 then nI 1 else if c = nI 119 then nI 2 else if c = nI 117 then nI 3 else if c = nI 99 then nI 4 else -4
theorem kdV_n4 {c : Int32} (h : ¬ kdV c = -4) : ¬ c = -4 := by
  rintro rfl
  exact h (by decide)
def rM1 (t : Nat → Int32) (n : Nat) (q : Nat × Int32) : Nat × Int32 := (sk t n q.1 + 1, q.2)
def rM2 (t : Nat → Int32) (n : Nat) (q : Nat × Int32) : Bool × (Nat × Int32) := rDg t n 9 (rM1 t n q)
def rM3 (t : Nat → Int32) (n : Nat) (q : Nat × Int32) : Bool × (Nat × Int32) := rSo t n (rM2 t n q).2
def rM4 (t : Nat → Int32) (n : Nat) (q : Nat × Int32) : Bool × (Nat × Int32) := rNx t n (nI 64) (rM3 t n q).2
def rM5 (t : Nat → Int32) (n : Nat) (q : Nat × Int32) : Bool × (Nat × Int32) := rDg t n 7 (rM4 t n q).2
def rMa (t : Nat → Int32) (n : Nat) (q : Nat × Int32) : Bool × (Nat × Int32) :=
  if kdV (nx t n q.1) = -4 then (false, (sk t n q.1, q.2))
  else if (rM2 t n q).1 = false then (false, (rM2 t n q).2)
  else if (rM3 t n q).1 = false then (false, (rM3 t n q).2)
  else if (rM4 t n q).1 = false then (true, (rM4 t n q).2)
  else if (rM5 t n q).1 = false then (false, (rM5 t n q).2) else (true, (rM5 t n q).2)
def rMaR (t : Nat → Int32) (n : Nat) (q : Nat × Int32) (g : Nat → Int32) : Nat → Int32 := if (rMa t n q).1 = true then layManR g (kdV (nx t n q.1)) (rM2 t n q).2.2 (rM3 t n q).2.2 (if (rM4 t n q).1 = false then nI 0 else (rM5 t n q).2.2) else g
theorem rMa_le {t : Nat → Int32} {n : Nat} {q : Nat × Int32} (hq : q.1 ≤ n) : (rMa t n q).2.1 ≤ n := by
  unfold rMa
  split
  · exact (sk_le hq).2
  · rename_i z
    have h1 : (rM1 t n q).1 ≤ n := nx_lt (kdV_n4 z)
    have h2 : (rM2 t n q).2.1 ≤ n := rDg_le h1
    have h3 : (rM3 t n q).2.1 ≤ n := rSo_le h2
    have h4 : (rM4 t n q).2.1 ≤ n := rNx_le (by decide) h3
    have h5 : (rM5 t n q).2.1 ≤ n := rDg_le h4
    split
    · exact h2
    · split
      · exact h3
      · split
        · exact h4
        · split
          · exact h5
          · exact h5
theorem layD_01 {g : Nat → Int32} {a b c h : Int32} {d : Nat} (hd : d < 10) (e : g 0 = nI d) : layDoorR g a b c h 0 = nI (d + 1) ∧ layDoorR g a b c h 1 = g 1 := by
  refine ⟨layDoorR_0 hd e, ?_⟩
  unfold layDoorR
  rw [e, nIc (by omega), pk_un (by omega), pk_un (by omega), pk_un (by omega), pk_un (by omega), pk_un (by omega), pk_un (by omega)]
theorem layM_01 {g : Nat → Int32} {a b c h : Int32} {d : Nat} (hd : d < 4) (e : g 1 = nI d) : layManR g a b c h 1 = nI (d + 1) ∧ layManR g a b c h 0 = g 0 := by
  refine ⟨layManR_1 hd e, ?_⟩
  unfold layManR
  rw [e, nIc (by omega), pk_un (by omega), pk_un (by omega), pk_un (by omega), pk_un (by omega), pk_un (by omega), pk_un (by omega), pk_un (by omega), pk_un (by omega)]
/-- DOORS: the row, where it stands, whether it is well so far and more came -/
abbrev rPt : Type := (Nat → Int32) × (Nat × Int32) × Bool
/-- one more DOOR, behind a comma: f: how many may come -/
def rDs (t : Nat → Int32) (n : Nat) : Nat → rPt → rPt
  | 0, s => s
  | f + 1, s => if s.2.2 = true then (if (rNx t n (nI 44) s.2.1).1 = true then rDs t n f (rDoR t n (rNx t n (nI 44) s.2.1).2 s.1, (rDo t n (rNx t n (nI 44) s.2.1).2).2, (rDo t n (rNx t n (nI 44) s.2.1).2).1) else (s.1, (rNx t n (nI 44) s.2.1).2, s.2.2)) else s
def rMs (t : Nat → Int32) (n : Nat) : Nat → rPt → rPt
  | 0, s => s
  | f + 1, s => if s.2.2 = true then (if (rNx t n (nI 44) s.2.1).1 = true then rMs t n f (rMaR t n (rNx t n (nI 44) s.2.1).2 s.1, (rMa t n (rNx t n (nI 44) s.2.1).2).2, (rMa t n (rNx t n (nI 44) s.2.1).2).1) else (s.1, (rNx t n (nI 44) s.2.1).2, s.2.2)) else s
def rP1 (t : Nat → Int32) (n : Nat) (q : Nat × Int32) (g : Nat → Int32) : rPt := rDs t n 9 (rDoR t n q g, (rDo t n q).2, (rDo t n q).1)
def rP2 (t : Nat → Int32) (n : Nat) (q : Nat × Int32) (g : Nat → Int32) : rPt :=
  if (rP1 t n q g).2.2 = true then
    (if (rNx t n (nI 59) (rP1 t n q g).2.1).1 = true then rMs t n 3 (rMaR t n (rNx t n (nI 59) (rP1 t n q g).2.1).2 (rP1 t n q g).1, (rMa t n (rNx t n (nI 59) (rP1 t n q g).2.1).2).2, (rMa t n (rNx t n (nI 59) (rP1 t n q g).2.1).2).1)
     else ((rP1 t n q g).1, (rNx t n (nI 59) (rP1 t n q g).2.1).2, (rP1 t n q g).2.2))
  else rP1 t n q g
def rP3 (t : Nat → Int32) (n : Nat) (q : Nat × Int32) (g : Nat → Int32) : Bool × (Nat × Int32) :=
  if (rP2 t n q g).2.2 = true then (decide (nx t n (rP2 t n q g).2.1.1 = -4), (sk t n (rP2 t n q g).2.1.1, (rP2 t n q g).2.1.2)) else (false, (rP2 t n q g).2.1)
theorem rDs_le {t : Nat → Int32} {n : Nat} : ∀ f s, s.2.1.1 ≤ n → (rDs t n f s).2.1.1 ≤ n
  | 0, s, h => h
  | f + 1, s, h => by
    rw [rDs]
    split
    · split
      · exact rDs_le f _ (rDo_le (rNx_le (by decide) h))
      · exact rNx_le (by decide) h
    · exact h
theorem rMs_le {t : Nat → Int32} {n : Nat} : ∀ f s, s.2.1.1 ≤ n → (rMs t n f s).2.1.1 ≤ n
  | 0, s, h => h
  | f + 1, s, h => by
    rw [rMs]
    split
    · split
      · exact rMs_le f _ (rMa_le (rNx_le (by decide) h))
      · exact rNx_le (by decide) h
    · exact h
theorem rP1_le {t : Nat → Int32} {n : Nat} {q : Nat × Int32} {g : Nat → Int32} (h : q.1 ≤ n) : (rP1 t n q g).2.1.1 ≤ n := rDs_le 9 _ (rDo_le h)
theorem rP2_le {t : Nat → Int32} {n : Nat} {q : Nat × Int32} {g : Nat → Int32} (h : q.1 ≤ n) : (rP2 t n q g).2.1.1 ≤ n := by
  have h1 := rP1_le (t := t) (g := g) h
  unfold rP2
  split
  · split
    · exact rMs_le 3 _ (rMa_le (rNx_le (by decide) h1))
    · exact rNx_le (by decide) h1
  · exact h1
theorem rP3_le {t : Nat → Int32} {n : Nat} {q : Nat × Int32} {g : Nat → Int32} (h : q.1 ≤ n) : (rP3 t n q g).2.1 ≤ n := by
  have h1 := rP2_le (t := t) (g := g) h
  unfold rP3
  split
  · exact (sk_le h1).2
  · exact h1
def a000 (g : Nat → Int32) : Nat → Int32 := upd (upd (upd g 0 (nI 0)) 1 (nI 0)) 2 (nI 0)
theorem a000_0 {a : Nat → Int32} : a000 a 0 = nI 0 := by simp [a000, upd]
theorem a000_1 {a : Nat → Int32} : a000 a 1 = nI 0 := by simp [a000, upd]
/-- READ's answer; what the prison is behind it -/
def rdFt (t : Nat → Int32) (n : Nat) (v : Int32) (g : Nat → Int32) : Nat := if nx t n (rP3 t n (0, v) (a000 g)).2.1 = -4 then n else sk t n (rP3 t n (0, v) (a000 g)).2.1
def rdAn (t : Nat → Int32) (n : Nat) (v : Int32) (g : Nat → Int32) : Int32 := if (rP3 t n (0, v) (a000 g)).1 = true then (rP2 t n (0, v) (a000 g)).1 0 else (-20 : Int32) - nI (rdFt t n v g)
def cp67 (f g : Nat → Int32) (k : Nat) : Nat → Int32 := fun j => if j < k ∧ ¬ j = 67 then f j else g j
theorem cp67_0 (f g : Nat → Int32) : cp67 f g 0 = g := funext fun j => if_neg (by omega)
theorem cp67_step (f g : Nat → Int32) (k : Nat) : upd (cp67 f g k) k (if k = 67 then cp67 f g k k else f k) = cp67 f g (k + 1) := by
  funext j
  by_cases hj : j = k
  · subst hj
    rw [pk_us]
    simp only [cp67]
    by_cases h : j = 67
    · rw [if_pos h, if_neg (by omega), if_neg (by omega)]
    · rw [if_neg h, if_pos (by omega)]
  · rw [pk_un hj]
    simp only [cp67]
    by_cases h2 : j < k ∧ ¬ j = 67
    · rw [if_pos h2, if_pos (by omega)]
    · rw [if_neg h2, if_neg (by omega)]
theorem sr_id2 {I : Nat → Nat → Int32} {r q : Nat} {f : Nat → Int32} (h : r ≠ q) : sr (sr I r f) q (I q) = sr I r f := by
  funext a
  by_cases e : a = q
  · subst e; rw [sr_self, sr_ne (fun z => h z.symm)]
  · rw [sr_ne e]
theorem rDoR_0 {t g : Nat → Int32} {n d : Nat} {q : Nat × Int32} (hd : d < 10) (e : g 0 = nI d) : ((rDo t n q).1 = true → rDoR t n q g 0 = nI (d + 1)) ∧ rDoR t n q g 1 = g 1 := by
  unfold rDoR
  refine ⟨fun h => by rw [if_pos h]; exact (layD_01 hd e).1, ?_⟩
  split
  · exact (layD_01 hd e).2
  · rfl
theorem rMaR_1 {t g : Nat → Int32} {n d : Nat} {q : Nat × Int32} (hd : d < 4) (e : g 1 = nI d) : ((rMa t n q).1 = true → rMaR t n q g 1 = nI (d + 1)) ∧ rMaR t n q g 0 = g 0 := by
  unfold rMaR
  refine ⟨fun h => by rw [if_pos h]; exact (layM_01 hd e).1, ?_⟩
  split
  · exact (layM_01 hd e).2
  · rfl
theorem rDs_stop {t : Nat → Int32} {n : Nat} : ∀ f s, s.2.2 = false → rDs t n f s = s
  | 0, s, _ => rfl
  | f + 1, s, h => by rw [rDs, if_neg (by rw [h]; decide)]
theorem rMs_stop {t : Nat → Int32} {n : Nat} : ∀ f s, s.2.2 = false → rMs t n f s = s
  | 0, s, _ => rfl
  | f + 1, s, h => by rw [rMs, if_neg (by rw [h]; decide)]
theorem rDs_on {t : Nat → Int32} {n f : Nat} {s : rPt} (hf : 0 < f) (h : s.2.2 = true) (h2 : (rNx t n (nI 44) s.2.1).1 = true) : rDs t n f s = rDs t n (f - 1) (rDoR t n (rNx t n (nI 44) s.2.1).2 s.1, (rDo t n (rNx t n (nI 44) s.2.1).2).2, (rDo t n (rNx t n (nI 44) s.2.1).2).1) := by
  rw [show f = (f - 1) + 1 by omega, rDs, if_pos h, if_pos h2, show f - 1 + 1 - 1 = f - 1 by omega]
theorem rDs_no {t : Nat → Int32} {n f : Nat} {s : rPt} (hf : 0 < f) (h : s.2.2 = true) (h2 : (rNx t n (nI 44) s.2.1).1 = false) : rDs t n f s = (s.1, (rNx t n (nI 44) s.2.1).2, s.2.2) := by
  rw [show f = (f - 1) + 1 by omega, rDs, if_pos h, if_neg (by rw [h2]; decide)]
theorem rMs_on {t : Nat → Int32} {n f : Nat} {s : rPt} (hf : 0 < f) (h : s.2.2 = true) (h2 : (rNx t n (nI 44) s.2.1).1 = true) : rMs t n f s = rMs t n (f - 1) (rMaR t n (rNx t n (nI 44) s.2.1).2 s.1, (rMa t n (rNx t n (nI 44) s.2.1).2).2, (rMa t n (rNx t n (nI 44) s.2.1).2).1) := by
  rw [show f = (f - 1) + 1 by omega, rMs, if_pos h, if_pos h2, show f - 1 + 1 - 1 = f - 1 by omega]
theorem rMs_no {t : Nat → Int32} {n f : Nat} {s : rPt} (hf : 0 < f) (h : s.2.2 = true) (h2 : (rNx t n (nI 44) s.2.1).1 = false) : rMs t n f s = (s.1, (rNx t n (nI 44) s.2.1).2, s.2.2) := by
  rw [show f = (f - 1) + 1 by omega, rMs, if_pos h, if_neg (by rw [h2]; decide)]
theorem rDs_eta {t : Nat → Int32} {n f : Nat} {a : Nat → Int32} {x : Nat × Int32} {b : Bool} : rDs t n f (a, (x.1, x.2), b) = rDs t n f (a, x, b) := rfl
theorem rMs_eta {t : Nat → Int32} {n f : Nat} {a : Nat → Int32} {x : Nat × Int32} {b : Bool} : rMs t n f (a, (x.1, x.2), b) = rMs t n f (a, x, b) := rfl
