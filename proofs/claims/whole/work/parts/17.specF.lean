/-! more of what is foretold -/
theorem it_congr {α : Type} {F F2 : Nat → α → α} (n : Nat) (h : ∀ k s, k < n → F k s = F2 k s) (s : α) : it F n s = it F2 n s := by
  induction n with
  | zero => rfl
  | succ n ih => show F n _ = F2 n _; rw [ih (fun k s hk => h k s (by omega)), h n _ (by omega)]
theorem meeF_cong {a a2 b b2 : Nat → Int32} (ha : ∀ j, j < 8 → a j = a2 j) (hb : ∀ j, j < 8 → b j = b2 j) : meeF a b = meeF a2 b2 := it_congr 8 (fun k s hk => by simp only [meeS, ha k hk, hb k hk]) _
theorem upd_upd (f : Nat → Int32) (j : Nat) (v w : Int32) : upd (upd f j v) j w = upd f j w := funext fun k => by by_cases h : k = j <;> simp [upd, h]
theorem upd_same (f : Nat → Int32) (j : Nat) : upd f j (f j) = f := funext fun k => by by_cases h : k = j <;> simp [upd, h]
theorem wfD_upd {g : Nat → Int32} {nd j : Nat} {v : Int32} (hW : wfD g nd) (hnd : nd ≤ 10) (hj : 31 ≤ j) : wfD (upd g j v) nd := by
  intro d hd
  rw [pk_un (by omega), pk_un (by omega)]
  exact hW d hd
def witS (g : Nat → Int32) (m fr nd cell i : Nat) (b : Int32) : Int32 := if rbB (upd g (63 + m) (nI (9 - i))) m (nI 0) fr nd cell then nI (9 - i) else b
def witA (g : Nat → Int32) (nd nm : Nat) (man cell : Int32) : Int32 := if isB man nm && isB cell 8 then it (witS g (tN man) (ceF g (tN man)) nd (tN cell)) 10 (-4) else -1
def lesQ (g : Nat → Int32) (m fr nd i : Nat) : Int32 := bitsF (rchF (lsZ (upd g (7 + m) (nI i)) m (nI 0) fr nd).1 8)
def lesS (g : Nat → Int32) (m fr nd i : Nat) (b : Int32 × Int32) : Int32 × Int32 := (if lesQ g m fr nd i ≤ b.2 then b.1 else nI i, if lesQ g m fr nd i ≤ b.2 then b.2 else lesQ g m fr nd i)
def lesF (g : Nat → Int32) (m fr nd : Nat) : Int32 × Int32 := it (lesS g m fr nd) 4 (nI 0, nI 0)
def lesA (g : Nat → Int32) (nd nm : Nat) (man what : Int32) : Int32 :=
  if isB man nm && isB what 2 then (if what = nI 0 then (lesF g (tN man) (ceF g (tN man)) nd).1 else (lesF g (tN man) (ceF g (tN man)) nd).2) else -1
theorem k_neg {k : Nat} (hk : k ≤ 10) (h : nI k + (-1 : Int32) < 0) : k = 0 := by
  rcases Nat.eq_zero_or_pos k with q | q
  · exact q
  · rw [sb_m1 q] at h
    exact absurd h (nI_pos (by omega))
theorem k_pos {k : Nat} (h : ¬ nI k + (-1 : Int32) < 0) : 1 ≤ k := by
  rcases Nat.eq_zero_or_pos k with rfl | q
  · exact absurd (by decide) h
  · exact q
theorem wfD_upd7 {g : Nat → Int32} {nd nm m : Nat} {v : Int32} (hW : wfD g nd) (hnd : nd ≤ 10) (hm : m < nm) (hnm : nm ≤ 4) : wfD (upd g (7 + m) v) nd := by
  intro d hd
  rw [pk_un (by omega), pk_un (by omega)]
  exact hW d hd
