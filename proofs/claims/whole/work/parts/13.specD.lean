/-! what was in the rows before doesn't matter; bits; reaching -/
theorem it_rel {α β : Type} (R : α → β → Prop) {F : Nat → α → α} {F2 : Nat → β → β} {a : α} {b : β} (n : Nat) (h : ∀ k x y, k < n → R x y → R (F k x) (F2 k y)) (h0 : R a b) : R (it F n a) (it F2 n b) := by
  induction n with
  | zero => exact h0
  | succ n ih => exact h n _ _ (Nat.lt_succ_self n) (ih (fun k x y hk => h k x y (by omega)))
def ag8 (s t : rr2) : Prop := ∀ j, j < 8 → s.1 j = t.1 j ∧ s.2 j = t.2 j
theorem ag8_lsD {g : Nat → Int32} {m : Nat} {sh : Int32} {nd n c d : Nat} (hW : wfD g nd) (hd : d < nd) (hc : c < 8) {s t : rr2} (h : ag8 s t) : ag8 (lsD g m sh n c d s) (lsD g m sh n c d t) := by
  unfold lsD
  rw [(h c hc).1]
  split
  · split
    · rename_i hp
      have hb := (ps_ok hW hd hp.2).2
      rw [(h _ hb).1, (h _ hb).2, (h c hc).2]
      intro j hj
      dsimp only
      constructor
      · by_cases q : j = btF g d c
        · subst q; rw [pk_us, pk_us]
        · rw [pk_un q, pk_un q]; exact (h j hj).1
      · by_cases q : j = btF g d c
        · subst q; rw [pk_us, pk_us]
        · rw [pk_un q, pk_un q]; exact (h j hj).2
    · exact h
  · exact h
def lsZ (g : Nat → Int32) (m : Nat) (sh : Int32) (fr nd : Nat) : rr2 := lsF g (fun _ => nI 0) (fun _ => nI 0) m sh fr nd
theorem lsF_Z {g : Nat → Int32} {nd : Nat} (hW : wfD g nd) (f h : Nat → Int32) (m : Nat) (sh : Int32) (fr : Nat) : ag8 (lsF g f h m sh fr nd) (lsZ g m sh fr nd) := by
  refine it_rel ag8 8 (fun n s t _ hs => it_rel ag8 8 (fun c s t hc hs => it_rel ag8 nd (fun d s t hd hs => ag8_lsD hW hd hc hs) hs) hs) ?_
  intro j hj
  simp [inR8, hj]
/-- whether he gets to a CELL while some DOORS are shut -/
def rbB (g : Nat → Int32) (m : Nat) (sh : Int32) (fr nd cell : Nat) : Bool := !decide (nI 1000000 ≤ (lsZ g m sh fr nd).1 cell)
def rchF (f : Nat → Int32) : Nat → Int32
  | 0 => nI 0
  | c + 1 => rchF f c ||| (if nI 1000000 ≤ f c then nI 0 else bitI c)
theorem rchF_cong {f f2 : Nat → Int32} : ∀ {n : Nat}, (∀ j, j < n → f j = f2 j) → rchF f n = rchF f2 n
  | 0, _ => rfl
  | n + 1, h => by rw [rchF, rchF, rchF_cong (fun j hj => h j (by omega)), h n (by omega)]
/-- the reference's count of bits -/
def pcF : Nat → Nat → Int32 → Int32
  | 0, _, n => n
  | f + 1, r, n => if r = 0 then n else pcF f (r / 2) (n + (nI r &&& nI 1))
theorem pcF_0 (f : Nat) (n : Int32) : pcF f 0 n = n := by cases f <;> simp [pcF]
def bitsF (x : Int32) : Int32 := pcF 31 x.toNatClampNeg (nI 0)
theorem shl1 : ∀ k, k ≤ 10 → nI 1 <<< (nI k &&& 31) = nI (2 ^ k) := by decide +kernel
theorem two_le : ∀ k, k ≤ 10 → 2 ^ k ≤ 1024 := by decide +kernel
theorem x32_rng (x : Int32) : -2147483648 ≤ x.toInt ∧ x.toInt < 2147483648 := ⟨Int32.le_toInt x, Int32.toInt_lt x⟩
theorem toNat_lt (x : Int32) : x.toNatClampNeg < 2 ^ 31 := by
  have := x32_rng x
  have h : x.toNatClampNeg = x.toInt.toNat := rfl
  omega
theorem toNat_or (x : Int32) : x = nI x.toNatClampNeg ∨ (x < 0 ∧ x.toNatClampNeg = 0) := by
  by_cases h : x < 0
  · right
    refine ⟨h, ?_⟩
    have h2 : x.toInt < 0 := by rw [Int32.lt_iff_toInt_lt] at h; exact h
    have h3 : x.toNatClampNeg = x.toInt.toNat := rfl
    omega
  · left
    obtain ⟨j, hj, rfl⟩ := nI_of h
    rw [nI_clamp hj]
theorem pos_of {rest : Int32} {r : Nat} (he : rest = nI r ∨ (rest < 0 ∧ r = 0)) (h : ¬ rest ≤ 0) : 0 < r := by
  rcases he with rfl | ⟨h1, rfl⟩
  · rcases Nat.eq_zero_or_pos r with rfl | q
    · exact absurd (by decide) h
    · exact q
  · exact absurd (by rw [Int32.le_iff_toInt_le]; rw [Int32.lt_iff_toInt_lt] at h1; omega) h
theorem half_lt {r f : Nat} (h : 0 < r) (hr : r < 2 ^ f) : r / 2 < 2 ^ (f - 1) := by
  obtain ⟨f, rfl⟩ : ∃ k, f = k + 1 := ⟨f - 1, by rcases f with _ | f; · simp at hr; omega
                                                 · rfl⟩
  rw [Nat.pow_succ] at hr
  show _ < 2 ^ f
  omega
theorem rest_eq {rest : Int32} {r : Nat} (h : 0 < r) (he : rest = nI r ∨ (rest < 0 ∧ r = 0)) : rest = nI r := by
  rcases he with h1 | ⟨-, h1⟩
  · exact h1
  · omega
theorem half_eq {rest : Int32} {r f : Nat} (h : 0 < r) (hr : r < 2 ^ f) (hf : f ≤ 31) (he : rest = nI r ∨ (rest < 0 ∧ r = 0)) : rest >>> (nI 1 &&& 31) = nI (r / 2) := by
  have h2 : 2 ^ f ≤ 2 ^ 31 := Nat.pow_le_pow_right (by decide) hf
  rw [rest_eq h he]
  exact pk_shrN (by omega) (nI 1 &&& 31) 1 (by decide)
theorem pcF_step {rest n x : Int32} {r f : Nat} (h : 0 < r) (hr : r < 2 ^ f) (he : rest = nI r ∨ (rest < 0 ∧ r = 0)) (hn : pcF f r n = bitsF x) : pcF (f - 1) (r / 2) (n + (rest &&& nI 1)) = bitsF x := by
  rcases f with _ | f
  · simp at hr; omega
  · rw [← hn, rest_eq h he]
    show _ = if r = 0 then _ else _
    rw [if_neg (by omega)]
    rfl
theorem zero_of {rest : Int32} {r f : Nat} (hr : r < 2 ^ f) (hf : f ≤ 31) (he : rest = nI r ∨ (rest < 0 ∧ r = 0)) (h : rest ≤ 0) : r = 0 := by
  have h2 : 2 ^ f ≤ 2 ^ 31 := Nat.pow_le_pow_right (by decide) hf
  rcases he with rfl | ⟨-, h1⟩
  · exact Nat.le_zero.mp ((nI_leI (by omega) (by decide)).mp h)
  · exact h1
