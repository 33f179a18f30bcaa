/-! the reference: DRIFT, RESTORE, sheets, HEARD, FILM -/
theorem inR_rng {x : Int32} {l h : Int64} {lo hi : Nat} (hl : l.toInt = (lo : Int)) (hh : h.toInt = (hi : Int)) (h31 : hi < 2147483647) (q : inR x.toInt64 l h = true) : ∃ n : Nat, lo ≤ n ∧ n ≤ hi ∧ x = nI n := by
  simp only [inR, Bool.and_eq_true, Bool.not_eq_true', decide_eq_false_iff_not, Int64.lt_iff_toInt_lt, Int32.toInt_toInt64, hl, hh] at q
  obtain ⟨n, hn, rfl⟩ := isB_nat (x := x) (n := hi + 1) (isB_iff.mpr ⟨by omega, by omega⟩) (by omega)
  rw [nI_toInt (by omega)] at q
  exact ⟨n, by omega, by omega, rfl⟩
theorem drStep_lo {g : Nat → Int32} {nd nm j : Nat} (hj : j = 0 ∨ j = 1) (hnm : nm ≤ 4) : drStep g nd nm j = g j := by
  unfold drStep
  split
  · rename_i h
    rw [triesR_lo _ _ _ (by omega) (Nat.lt_of_lt_of_le (Nat.mod_lt _ h.1) hnm), pk_un (by omega), keepR_lo _ (by omega) (by omega)]
  · rw [pk_un (by omega), keepR_lo _ (by omega) (by omega)]
theorem drStep_2 {g : Nat → Int32} {nd nm h : Nat} (hnm : nm ≤ 4) (hh : h ≤ 8) (hH : g 2 = nI h) : drStep g nd nm 2 = nI (if h = 8 then 8 else h + 1) := by
  unfold drStep
  split
  · rename_i h
    rw [triesR_lo _ _ _ (by omega) (Nat.lt_of_lt_of_le (Nat.mod_lt _ h.1) hnm), pk_un (by omega), keepR_2 _ hh hH]
  · rw [pk_un (by omega), keepR_2 _ hh hH]
/-- what refuses items -/
def rfF (ln sz : Nat → Int32) (s : Nat) (lane i n : Int32) : Int32 := if ln s = -4 then -11 else if ln s = lane then (if i < 0 then -13 else if inR (i.toInt64 + n.toInt64) 0 (sz s).toInt64 then nI 0 else -13) else -12
theorem i64_add {a b : Int32} : (a.toInt64 + b.toInt64).toInt = a.toInt + b.toInt := by
  have h1 := x32_rng a
  have h2 := x32_rng b
  rw [Int64.toInt_add, Int32.toInt_toInt64, Int32.toInt_toInt64]
  exact Int.bmod_eq_of_le (by omega) (by omega)
theorem rfF_nat {ln sz : Nat → Int32} {s z k : Nat} {lane i : Int32} (hz : sz s = nI z) (hz24 : z ≤ 24) (hk : k < 2147483648) (h : rfF ln sz s lane i (nI k) = 0) : ln s = lane ∧ ¬ ln s = -4 ∧ ∃ j, j + k ≤ z ∧ i = nI j := by
  unfold rfF at h
  split at h
  · exact absurd h (by decide)
  · rename_i h4
    split at h
    · rename_i hl
      split at h
      · exact absurd h (by decide)
      · rename_i h0
        split at h
        · rename_i hr
          refine ⟨hl, h4, ?_⟩
          obtain ⟨j, hj, rfl⟩ := nI_of h0
          refine ⟨j, ?_, rfl⟩
          simp only [inR, Bool.and_eq_true, Bool.not_eq_true', decide_eq_false_iff_not, Int64.lt_iff_toInt_lt, i64_add, Int32.toInt_toInt64, hz, nI_toInt hj, nI_toInt hk, nI_toInt (show z < 2147483648 by omega)] at hr
          omega
        · exact absurd h (by decide)
    · exact absurd h (by decide)
def ctF (lane : Int32) (v : Int64) : Int64 :=
  if lane = 0 then (v <<< ((nI 56).toInt64 &&& 63)) >>> ((nI 56).toInt64 &&& 63) else if lane = nI 1 then (v <<< ((nI 48).toInt64 &&& 63)) >>> ((nI 48).toInt64 &&& 63)
  else if lane = nI 2 then (v <<< ((nI 32).toInt64 &&& 63)) >>> ((nI 32).toInt64 &&& 63) else (v <<< ((nI 0).toInt64 &&& 63)) >>> ((nI 0).toInt64 &&& 63)
def shRok (sheet lane n : Int32) : Bool := isB sheet 4 && (isB lane 4 && decide (n ≤ nI 24))
def shRA (sheet lane n : Int32) : Int32 := if shRok sheet lane n then (if 0 ≤ n then n else -14) else -1
/-- nothing in n places from b on -/
def zrF (f : Nat → Int64) (b n : Nat) : Nat → Int64 := fun j => if b ≤ j ∧ j < b + n then 0 else f j
theorem zrF_0 (f : Nat → Int64) (b : Nat) : zrF f b 0 = f := funext fun j => if_neg (by omega)
theorem zrF_step (f : Nat → Int64) (b k : Nat) : vp_updL (zrF f b k) (b + k) 0 = zrF f b (k + 1) := by
  funext j
  by_cases hj : j = b + k
  · subst hj; rw [pk_uLs]; simp only [zrF]; rw [if_pos (by omega)]
  · rw [pk_uLn hj]; simp only [zrF]
    by_cases h2 : b ≤ j ∧ j < b + k
    · rw [if_pos h2, if_pos (by omega)]
    · rw [if_neg h2, if_neg (by omega)]
def shRS (I : Nat → Nat → Int32) (J : Nat → Nat → Int64) (O : Nat → Nat → Nat) (sheet lane n : Int32) : jS :=
  if shRok sheet lane n = true ∧ 0 ≤ n then (sr (sr I 50 (upd (I 50) (tN sheet) lane)) 51 (upd (I 51) (tN sheet) n), srJ J 12 (zrF (J 12) (24 * tN sheet) (tN n)), O) else (I, J, O)
theorem rng24 {n : Int32} (h1 : n ≤ nI 24) (h2 : 0 ≤ n) : ∃ k, k ≤ 24 ∧ n = nI k := by
  obtain ⟨k, hk, rfl⟩ := nI_of (Int32.not_lt.mpr h2)
  exact ⟨k, (nI_leI hk (by decide)).mp h1, rfl⟩
def drRA (ln sz : Nat → Int32) (sheet : Int32) : Int32 := if isB sheet 4 then (if ln (tN sheet) = -4 then -11 else sz (tN sheet)) else -1
def drRI (I : Nat → Nat → Int32) (sheet : Int32) : Nat → Nat → Int32 := if isB sheet 4 = true ∧ ¬ I 50 (tN sheet) = -4 then sr I 50 (upd (I 50) (tN sheet) (-4)) else I
def itRA (ln sz : Nat → Int32) (sheet lane i : Int32) : Int32 := if isB sheet 4 && isB lane 4 then (if rfF ln sz (tN sheet) lane i (nI 1) = 0 then nI 1 else rfF ln sz (tN sheet) lane i (nI 1)) else -1
def itRJ (I : Nat → Nat → Int32) (J : Nat → Nat → Int64) (sheet lane i : Int32) (v : Int64) : Nat → Nat → Int64 :=
  if (isB sheet 4 && isB lane 4) = true ∧ rfF (I 50) (I 51) (tN sheet) lane i (nI 1) = 0 then srJ J 12 (vp_updL (J 12) (24 * tN sheet + tN i) (ctF lane v)) else J
theorem cpyL_step {α : Type} {f g : Nat → α} (sp dp k : Nat) : (fun j => if j = dp + k then f (sp + k) else va_cpy f g sp dp k j) = va_cpy f g sp dp (k + 1) := by
  funext j
  by_cases hj : j = dp + k
  · subst hj
    rw [if_pos rfl, pk_cpy_in (by omega) (by omega)]; congr 1; omega
  · rw [if_neg hj]
    by_cases h2 : dp ≤ j ∧ j < dp + k
    · rw [pk_cpy_in h2.1 h2.2, pk_cpy_in h2.1 (by omega)]
    · show (if _ then _ else _) = (if _ then _ else _)
      rw [if_neg h2, if_neg (by omega)]
theorem cpJ_step {f g : Nat → Int64} (sp dp k : Nat) : vp_updL (va_cpy f g sp dp k) (dp + k) (f (sp + k)) = va_cpy f g sp dp (k + 1) := by
  rw [← cpyL_step]
  funext j
  simp only [vp_updL]
theorem cpJ_step0 {f g : Nat → Int64} (sp k : Nat) : vp_updL (va_cpy f g sp 0 k) k (f (sp + k)) = va_cpy f g sp 0 (k + 1) := by
  have h := cpJ_step (f := f) (g := g) sp 0 k
  rw [Nat.zero_add] at h
  exact h
theorem cpJ_0 {α : Type} {f g : Nat → α} (sp dp : Nat) : va_cpy f g sp dp 0 = g := funext fun j => if_neg (by omega)
def cpRf (ln sz : Nat → Int32) (fr i to_ j n : Int32) : Int32 :=
  if ln (tN fr) = -4 ∨ ln (tN to_) = -4 then -11 else if ln (tN fr) = ln (tN to_) then
    (if 0 ≤ n ∧ rfF ln sz (tN fr) (ln (tN fr)) i n = 0 ∧ rfF ln sz (tN to_) (ln (tN to_)) j n = 0 then n else -13) else -12
def cpRok (ln sz : Nat → Int32) (fr i to_ j n : Int32) : Bool := (isB fr 4 && isB to_ 4) && decide (¬ (ln (tN fr) = -4 ∨ ln (tN to_) = -4) ∧ ln (tN fr) = ln (tN to_) ∧ 0 ≤ n ∧ rfF ln sz (tN fr) (ln (tN fr)) i n = 0 ∧ rfF ln sz (tN to_) (ln (tN to_)) j n = 0)
def cpRA (ln sz : Nat → Int32) (fr i to_ j n : Int32) : Int32 := if isB fr 4 && isB to_ 4 then cpRf ln sz fr i to_ j n else -1
def cpRJ (J : Nat → Nat → Int64) (f i t j n : Nat) : Nat → Nat → Int64 := srJ (srJ J 13 (va_cpy (J 12) (J 13) (24 * f + i) 0 n)) 12 (va_cpy (va_cpy (J 12) (J 13) (24 * f + i) 0 n) (J 12) 0 (24 * t + j) n)
/-- one who was heard: his CELL, how often he FAILED, whether it fits so far -/
def heS (g hd hp : Nat → Int32) (m : Nat) (kind wit : Int32) (k : Nat) (s : Int32 × Int32 × Bool) : Int32 × Int32 × Bool :=
  if s.2.2 = true then
    (if (decide (¬ bhF g (tN (hd k)) s.1 = -4) && (hasB (g (55 + m)) (tN (hd k)) || !decide (pwF kind wit (g (7 + m)) s.1 s.2.1 (g (31 + tN (hd k))) < g (41 + tN (hd k))))) = true
     then (bhF g (tN (hd k)) s.1, s.2.1 + nI 0, decide (hp k = nI 1))
     else (s.1, s.2.1 + (if bhF g (tN (hd k)) s.1 = -4 then nI 0 else if nI 99 ≤ s.2.1 then nI 0 else nI 1), !decide (hp k = nI 1)))
  else s
def heB (g hd hp : Nat → Int32) (m : Nat) (kind wit : Int32) (n : Nat) : Bool := (it (heS g hd hp m kind wit) n (g (51 + m), g (59 + m), true)).2.2
theorem heS_stop {g hd hp : Nat → Int32} {m : Nat} {kind wit : Int32} {k n : Nat} {c f : Int32} {s : Int32 × Int32 × Bool} (hk : k ≤ n) (h : (c, f, false) = it (heS g hd hp m kind wit) k s) : (it (heS g hd hp m kind wit) n s).2.2 = false := by
  rw [it_stop (k := k) (fun j => by rw [← h]; unfold heS; exact if_neg (fun z => absurd z Bool.false_ne_true)) n hk, ← h]
/-- what the sheet says: the first k pairs are DOORS and 0 or 1 -/
def hpB (y : Nat → Int64) (b nd : Nat) : Nat → Bool
  | 0 => true
  | k + 1 => hpB y b nd k && (inR (y (b + 2 * k)) 0 (nI nd - nI 1).toInt64 && inR (y (b + 2 * k + 1)) 0 1)
def hdF (y : Nat → Int64) (b : Nat) (o : Nat → Int32) (k : Nat) : Nat → Int32 := fun j => if j < k then (y (b + 2 * j)).toInt32 else o j
def hqF (y : Nat → Int64) (b : Nat) (o : Nat → Int32) (k : Nat) : Nat → Int32 := fun j => if j < k then (y (b + 2 * j + 1)).toInt32 else o j
theorem hdF_0 (y : Nat → Int64) (b : Nat) (o : Nat → Int32) : hdF y b o 0 = o := funext fun j => if_neg (by omega)
theorem hqF_0 (y : Nat → Int64) (b : Nat) (o : Nat → Int32) : hqF y b o 0 = o := funext fun j => if_neg (by omega)
theorem hdF_step (y : Nat → Int64) (b : Nat) (o : Nat → Int32) (k : Nat) : upd (hdF y b o k) k (y (b + 2 * k)).toInt32 = hdF y b o (k + 1) := by
  funext j
  by_cases hj : j = k
  · subst hj; rw [pk_us]; simp only [hdF]; rw [if_pos (by omega)]
  · rw [pk_un hj]; simp only [hdF]
    by_cases h2 : j < k
    · rw [if_pos h2, if_pos (by omega)]
    · rw [if_neg h2, if_neg (by omega)]
theorem hqF_step (y : Nat → Int64) (b : Nat) (o : Nat → Int32) (k : Nat) : upd (hqF y b o k) k (y (b + 2 * k + 1)).toInt32 = hqF y b o (k + 1) := by
  funext j
  by_cases hj : j = k
  · subst hj; rw [pk_us]; simp only [hqF]; rw [if_pos (by omega)]
  · rw [pk_un hj]; simp only [hqF]
    by_cases h2 : j < k
    · rw [if_pos h2, if_pos (by omega)]
    · rw [if_neg h2, if_neg (by omega)]
theorem hpB_at {y : Nat → Int64} {b nd : Nat} : ∀ {n : Nat}, hpB y b nd n = true → ∀ k, k < n → inR (y (b + 2 * k)) 0 (nI nd - nI 1).toInt64 = true ∧ inR (y (b + 2 * k + 1)) 0 1 = true
  | 0, _, k, hk => absurd hk (by omega)
  | n + 1, h, k, hk => by
    rw [hpB, Bool.and_eq_true, Bool.and_eq_true] at h
    by_cases e : k = n
    · subst e; exact h.2
    · exact hpB_at h.1 k (by omega)
theorem hpB_stop {y : Nat → Int64} {b nd k : Nat} (h : hpB y b nd k = false) : ∀ n, k ≤ n → hpB y b nd n = false := by
  intro n hn
  induction n with
  | zero => rw [show k = 0 by omega] at h; exact h
  | succ n ih =>
    by_cases e : k = n + 1
    · rw [← e]; exact h
    · rw [hpB, ih (by omega)]; rfl
theorem dn_nat {x : Int64} {nd : Nat} (hnd : nd ≤ 10) (h : inR x 0 (nI nd - nI 1).toInt64 = true) : ∃ d, d < nd ∧ x.toInt32 = nI d := by
  simp only [inR, Bool.and_eq_true, Bool.not_eq_true', decide_eq_false_iff_not, Int64.lt_iff_toInt_lt, Int32.toInt_toInt64, show (0 : Int64).toInt = 0 from rfl] at h
  have hd : (nI nd - nI 1).toInt = (nd : Int) - 1 := by
    rcases nd with _ | n
    · decide
    · rw [show nI (n + 1) - nI 1 = nI n from pk_sub (by omega), nI_toInt (by omega)]; omega
  rw [hd] at h
  refine ⟨x.toInt.toNat, by omega, ?_⟩
  apply Int32.toInt_inj.mp
  rw [Int64.toInt_toInt32, nI_toInt (by omega)]
  rw [Int.bmod_eq_of_le (by omega) (by omega)]
  omega
/-- HEARD, over what the sheet says -/
def heAs (g hd hp : Nat → Int32) (m n what : Nat) (v : Nat) (set : Int32) : Int32 := set ||| (if (if what = 0 then heB g hd hp m (nI v) (g (63 + m)) n else heB g hd hp m (g (3 + m)) (nI v) n) = true then bitI v else nI 0)
theorem heB_cong {g hd hp hd2 hp2 : Nat → Int32} {m n : Nat} {kind wit : Int32} (h1 : ∀ k, k < n → hd k = hd2 k) (h2 : ∀ k, k < n → hp k = hp2 k) : heB g hd hp m kind wit n = heB g hd2 hp2 m kind wit n := by
  unfold heB
  rw [it_congr (F2 := heS g hd2 hp2 m kind wit) n (fun k s hk => by unfold heS; rw [h1 k hk, h2 k hk])]
theorem heA_cong {g hd hp hd2 hp2 : Nat → Int32} {m n what : Nat} (h1 : ∀ k, k < n → hd k = hd2 k) (h2 : ∀ k, k < n → hp k = hp2 k) (v : Nat) (s : Int32) : it (heAs g hd hp m n what) v s = it (heAs g hd2 hp2 m n what) v s := it_congr v (fun k s _ => by unfold heAs; rw [heB_cong h1 h2, heB_cong h1 h2]) s
def heaF (g : Nat → Int32) (y : Nat → Int64) (m b n what : Nat) : Int32 := it (heAs g (hdF y b (fun _ => nI 0) n) (hqF y b (fun _ => nI 0) n) m n what) (if what = 0 then 5 else 10) (nI 0)
def heaA (g ln sz : Nat → Int32) (y : Nat → Int64) (nd nm : Nat) (man sheet lane i n what : Int32) : Int32 :=
  if isB man nm && (isB sheet 4 && (isB lane 4 && (inR n.toInt64 1 8 && isB what 2))) then
    (if rfF ln sz (tN sheet) lane i (nI (2 * tN n)) = 0 then
      (if hpB y (24 * tN sheet + tN i) nd (tN n) = true then heaF g y (tN man) (24 * tN sheet + tN i) (tN n) (tN what) else -2)
     else rfF ln sz (tN sheet) lane i (nI (2 * tN n)))
  else -1
/-- FILM -/
def flR (f : Nat → Int32) (y : Nat → Int64) (b n : Nat) : Nat → Int64 := fun j => if b ≤ j ∧ j < b + n then (if f (j - b) = nI 1000000 then -4 else (f (j - b)).toInt64) else y j
theorem flR_0 (f : Nat → Int32) (y : Nat → Int64) (b : Nat) : flR f y b 0 = y := funext fun j => if_neg (by omega)
theorem flR_step (f : Nat → Int32) (y : Nat → Int64) (b k : Nat) : vp_updL (flR f y b k) (b + k) (if f k = nI 1000000 then -4 else (f k).toInt64) = flR f y b (k + 1) := by
  funext j
  by_cases hj : j = b + k
  · subst hj; rw [pk_uLs]; simp only [flR]; rw [if_pos (show b ≤ b + k ∧ b + k < b + (k + 1) by omega), show b + k - b = k by omega]
  · rw [pk_uLn hj]; simp only [flR]
    by_cases h2 : b ≤ j ∧ j < b + k
    · rw [if_pos h2, if_pos (show b ≤ j ∧ j < b + (k + 1) by omega)]
    · rw [if_neg h2, if_neg (show ¬ (b ≤ j ∧ j < b + (k + 1)) by omega)]
theorem flR_cong {f f2 : Nat → Int32} {y : Nat → Int64} {b n : Nat} (hn : n ≤ 8) (h : ∀ j, j < 8 → f j = f2 j) : flR f y b n = flR f2 y b n := by
  funext j
  simp only [flR]
  by_cases h2 : b ≤ j ∧ j < b + n
  · rw [if_pos h2, if_pos h2, h _ (by omega)]
  · rw [if_neg h2, if_neg h2]
def flOk (nm : Nat) (man n sheet lane : Int32) : Bool := isB man nm && (inR n.toInt64 1 8 && (isB sheet 4 && isB lane 4))
def filA (ln sz : Nat → Int32) (nm : Nat) (man n sheet lane i : Int32) : Int32 := if flOk nm man n sheet lane then (if rfF ln sz (tN sheet) lane i n = 0 then n else rfF ln sz (tN sheet) lane i n) else -1
def filJR (g ln sz : Nat → Int32) (J : Nat → Nat → Int64) (nd nm : Nat) (man n sheet lane i : Int32) : Nat → Nat → Int64 :=
  if flOk nm man n sheet lane = true ∧ rfF ln sz (tN sheet) lane i n = 0 then srJ J 12 (flR (lsZ g (tN man) (nI 0) (ceF g (tN man)) nd).1 (J 12) (24 * tN sheet + tN i) (tN n)) else J
def tyA (n : Nat) (letter : Int32) : Int32 := if inR letter.toInt64 32 126 then (if n = 90 then -3 else nI (n + 1)) else -1
def tyI (I : Nat → Nat → Int32) (n : Nat) (letter : Int32) : Nat → Nat → Int32 := if inR letter.toInt64 32 126 = true ∧ ¬ n = 90 then sr (sr I 48 (upd (I 48) n letter)) 40 (upd (I 40) 2 (nI (n + 1))) else I
