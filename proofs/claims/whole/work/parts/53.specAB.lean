/-! odds; the shortest round: how the class goes -/
def soD (a op : Nat → Int32) (share : Int64) (c d : Nat) (y : Nat → Int64) : Nat → Int64 := if ioB op c d (nI 0) = true then vp_updL y (beN a d c) (y (beN a d c) + share) else y
def soC (a op : Nat → Int32) (x : Nat → Int64) (nd c : Nat) (y : Nat → Int64) : Nat → Int64 := if 0 < bcJ (op c) then it (soD a op (x c * (nI 2520 / bcJ (op c)).toInt64) c) nd y else vp_updL y c (y c + x c * 2520)
def soK (a op : Nat → Int32) (nd : Nat) (_ : Nat) (s : (Nat → Int64) × (Nat → Int64)) : (Nat → Int64) × (Nat → Int64) := (va_cpy (it (soC a op s.1 nd) 8 (filJ s.2 0 8)) s.1 0 0 8, it (soC a op s.1 nd) 8 (filJ s.2 0 8))
def soI (x : Nat → Int64) (st : Nat) : Nat → Int64 := vp_updL (filJ x 0 8) st 1
def odC (a op : Nat → Int32) (nd st n : Nat) : Nat → Int64 := (it (soK a op nd) n (soI (fun _ => 0) st, fun _ => 0)).1
def whL (n : Nat) : Int64 := it (fun _ w => w * 2520) n 1
def ag8L (x y : Nat → Int64) : Prop := ∀ j, j < 8 → x j = y j
theorem ag8L_upd {x y : Nat → Int64} {v w : Int64} {c : Nat} (h : ag8L x y) (hv : v = w) : ag8L (vp_updL x c v) (vp_updL y c w) := by
  intro j hj
  by_cases q : j = c
  · subst q; rw [pk_uLs, pk_uLs, hv]
  · rw [pk_uLn q, pk_uLn q]; exact h j hj
theorem ag8L_soC {a op : Nat → Int32} {nd c : Nat} (hW : wfD a nd) (hc : c < 8) {x x2 y y2 : Nat → Int64} (hx : ag8L x x2) (hy : ag8L y y2) : ag8L (soC a op x nd c y) (soC a op x2 nd c y2) := by
  unfold soC
  rw [hx c hc]
  split
  · refine it_rel ag8L nd (fun d s t hd hs => ?_) hy
    unfold soD
    split
    · exact ag8L_upd hs (by rw [hs _ (be_ok (c := c) hW hd).2])
    · exact hs
  · exact ag8L_upd hy (by rw [hy c hc])
theorem ag8L_fil {x y : Nat → Int64} : ag8L (filJ x 0 8) (filJ y 0 8) := fun j hj => by simp [filJ, hj]
theorem soK_rel {a op : Nat → Int32} {nd st : Nat} (hW : wfD a nd) (x y : Nat → Int64) (n : Nat) : ag8L (it (soK a op nd) n (soI x st, y)).1 (odC a op nd st n) := by
  refine it_rel (fun (s t : (Nat → Int64) × (Nat → Int64)) => ag8L s.1 t.1) n (fun k s t _ hs => ?_) ?_
  · intro j hj
    show va_cpy _ _ 0 0 8 j = va_cpy _ _ 0 0 8 j
    rw [pk_cpy_in (Nat.zero_le _) (by omega), pk_cpy_in (Nat.zero_le _) (by omega)]
    exact it_rel ag8L 8 (fun c y y2 hc hy => ag8L_soC hW hc hs hy) ag8L_fil _ (by omega)
  · exact ag8L_upd ag8L_fil rfl
/-- how many of the first n aren't negative -/
def cntP (f : Nat → Int32) : Nat → Nat
  | 0 => 0
  | n + 1 => cntP f n + (if 0 ≤ f n then 1 else 0)
theorem cntP_le (f : Nat → Int32) : ∀ n, cntP f n ≤ n
  | 0 => Nat.le_refl _
  | n + 1 => by have := cntP_le f n; rw [cntP]; split <;> omega
theorem cntP_lt {f : Nat → Int32} {t : Nat} (ht : ¬ 0 ≤ f t) : ∀ n, t < n → cntP f n < n
  | 0, h => absurd h (Nat.not_lt_zero _)
  | n + 1, h => by
    rw [cntP]
    by_cases e : t = n
    · subst e; rw [if_neg ht]; have := cntP_le f t; omega
    · have := cntP_lt ht n (by omega); split <;> omega
theorem cntP_ge {f : Nat → Int32} {t : Nat} {v : Int32} : ∀ n, n ≤ t → cntP (upd f t v) n = cntP f n
  | 0, _ => rfl
  | n + 1, h => by rw [cntP, cntP, cntP_ge n (by omega), pk_un (show n ≠ t by omega)]
theorem cntP_upd {f : Nat → Int32} {t : Nat} {v : Int32} (ht : ¬ 0 ≤ f t) (hv : 0 ≤ v) : ∀ n, t < n → cntP (upd f t v) n = cntP f n + 1
  | 0, h => absurd h (Nat.not_lt_zero _)
  | n + 1, h => by
    rw [cntP, cntP]
    by_cases e : t = n
    · subst e; rw [cntP_ge _ (Nat.le_refl _), pk_us, if_pos hv, if_neg ht]
    · rw [cntP_upd ht hv n (by omega), pk_un (show n ≠ t by omega)]; omega
/-- the state behind a DOOR, of a round -/
def rdN (a : Nat → Int32) (cs x d : Nat) : Nat := beN a d (x / 256) * 256 + (x % 256 ||| (2 ^ beN a d (x / 256) &&& cs))
abbrev rd3 : Type := (Nat → Int32) × (Nat → Int32) × Nat
def rdD (a op : Nat → Int32) (cs x d : Nat) (s : rd3) : rd3 :=
  if ioB op (x / 256) d (nI 0) = true then (if 0 ≤ s.1 (rdN a cs x d) then s else (upd s.1 (rdN a cs x d) (s.1 x + nI 1), upd s.2.1 s.2.2 (nI (rdN a cs x d)), s.2.2 + 1)) else s
def rdR (a op : Nat → Int32) (cs nd : Nat) : Nat → Nat → rd3 → Int32
  | 0, _, _ => -4
  | f + 1, k, s => if s.2.2 ≤ k then -4 else if tN (s.2.1 k) % 256 = cs then s.1 (tN (s.2.1 k)) else rdR a op cs nd f (k + 1) (it (rdD a op cs (tN (s.2.1 k))) nd s)
def rdF (cs st : Nat) : Nat := st * 256 + (2 ^ st &&& cs)
def rdI (dep q : Nat → Int32) (cs st : Nat) : rd3 := (upd (filI dep (-4) 2048) (rdF cs st) (nI 0), upd q 0 (nI (rdF cs st)), 1)
def rdC (a op : Nat → Int32) (cs nd st : Nat) : Int32 := rdR a op cs nd 2048 0 (rdI (fun _ => nI 0) (fun _ => nI 0) cs st)
theorem or_lt256 {x y : Nat} (hx : x < 256) (hy : y < 256) : x ||| y < 256 := Nat.or_lt_two_pow (n := 8) hx hy
theorem and_lt256 {x y : Nat} (hy : y < 256) : x &&& y < 256 := Nat.lt_of_le_of_lt Nat.and_le_right hy
theorem rdN_lt {a : Nat → Int32} {cs x d nd : Nat} (hW : wfD a nd) (hd : d < nd) (hcs : cs < 256) : rdN a cs x d < 2048 := by
  have h1 := (be_ok (c := x / 256) hW hd).2
  have h2 : (x % 256 ||| (2 ^ beN a d (x / 256) &&& cs)) < 256 := or_lt256 (by omega) (and_lt256 hcs)
  unfold rdN
  omega
theorem rdF_lt {cs st : Nat} (hst : st < 8) (hcs : cs < 256) : rdF cs st < 2048 := by
  have : 2 ^ st &&& cs < 256 := and_lt256 hcs
  unfold rdF
  omega
/-- what holds of the search -/
def rdOK (s : rd3) : Prop := cntP s.1 2048 = s.2.2 ∧ ∀ j, j < s.2.2 → ∃ x v, x < 2048 ∧ v ≤ s.2.2 ∧ s.2.1 j = nI x ∧ s.1 x = nI v
theorem rdOK_push {f q : Nat → Int32} {fo x v t : Nat} (h : rdOK (f, q, fo)) (hx : f x = nI v) (hv : v ≤ fo) (ht : t < 2048) (hn : ¬ 0 ≤ f t) : rdOK (upd f t (f x + nI 1), upd q fo (nI t), fo + 1) := by
  have hfo : fo < 2048 := by have h0 := cntP_lt hn 2048 ht; have h1 : cntP f 2048 = fo := h.1; omega
  rw [hx, nI_add]
  refine ⟨?_, fun j hj => ?_⟩
  · show cntP (upd f t (nI (v + 1))) 2048 = fo + 1
    rw [cntP_upd hn (nI_pos' (by omega)) 2048 ht]
    exact congrArg (· + 1) h.1
  · by_cases e : j = fo
    · exact ⟨t, v + 1, ht, by show v + 1 ≤ fo + 1; omega, by show upd q fo (nI t) j = _; rw [e, pk_us], by show upd f t _ t = _; rw [pk_us]⟩
    · obtain ⟨y, w, h1, h2, h3, h4⟩ := h.2 j (by show j < fo; have : j < fo + 1 := hj; omega)
      refine ⟨y, w, h1, Nat.le_succ_of_le h2, by show upd q fo (nI t) j = _; rw [pk_un e]; exact h3, ?_⟩
      have hne : y ≠ t := by
        rintro rfl
        apply hn
        have h4' : f y = nI w := h4
        have h2' : w ≤ fo := h2
        rw [h4']; exact nI_pos' (by omega)
      show upd f t _ y = _
      rw [pk_un hne]; exact h4
theorem rdOK_fo {s : rd3} (h : rdOK s) : s.2.2 ≤ 2048 := by rw [← h.1]; exact cntP_le _ _
theorem cntP_fil (dep : Nat → Int32) : ∀ n, n ≤ 2048 → cntP (filI dep (-4) 2048) n = 0
  | 0, _ => rfl
  | n + 1, h => by rw [cntP, cntP_fil dep n (by omega), show filI dep (-4) 2048 n = -4 from if_pos (by omega)]; decide
theorem rdOK_I {dep q : Nat → Int32} {cs st : Nat} (hst : st < 8) (hcs : cs < 256) : rdOK (rdI dep q cs st) := by
  have ht := rdF_lt hst hcs
  refine ⟨?_, fun j hj => ⟨rdF cs st, 0, ht, Nat.zero_le _, ?_, ?_⟩⟩
  · show cntP (upd (filI dep (-4) 2048) (rdF cs st) (nI 0)) 2048 = 1
    rw [cntP_upd (by rw [show filI dep (-4) 2048 (rdF cs st) = -4 from if_pos ht]; decide) (by decide) 2048 ht, cntP_fil _ _ (Nat.le_refl _)]
  · have e : j = 0 := Nat.lt_one_iff.mp hj
    rw [e]
    show upd q 0 (nI (rdF cs st)) 0 = _
    exact pk_us
  · exact pk_us
/-- old rows don't matter -/
def rdA (s t : rd3) : Prop := s.2.2 = t.2.2 ∧ (∀ j, j < 2048 → s.1 j = t.1 j) ∧ ∀ j, j < s.2.2 → s.2.1 j = t.2.1 j
theorem rdA_D {a op op2 : Nat → Int32} {cs nd x d : Nat} (hW : wfD a nd) (hcs : cs < 256) (hx : x < 2048) (hd : d < nd) (ho : ∀ j, j < 8 → op j = op2 j) {s t : rd3} (h : rdA s t) : rdA (rdD a op cs x d s) (rdD a op2 cs x d t) := by
  obtain ⟨h1, h2, h3⟩ := h
  have ht := rdN_lt (x := x) hW hd hcs
  unfold rdD
  rw [ioB_cong (ho (x / 256) (by omega)), h2 _ ht, h2 _ hx]
  split
  · split
    · exact ⟨h1, h2, h3⟩
    · refine ⟨by show s.2.2 + 1 = t.2.2 + 1; rw [h1], fun j hj => ?_, fun j hj => ?_⟩
      · show upd s.1 _ _ j = upd t.1 _ _ j
        by_cases q : j = rdN a cs x d
        · rw [q, pk_us, pk_us]
        · rw [pk_un q, pk_un q]; exact h2 j hj
      · show upd s.2.1 s.2.2 _ j = upd t.2.1 t.2.2 _ j
        rw [← h1]
        by_cases q : j = s.2.2
        · rw [q, pk_us, pk_us]
        · rw [pk_un q, pk_un q]; exact h3 j (by have : j < s.2.2 + 1 := hj; omega)
  · exact ⟨h1, h2, h3⟩
theorem rdOK_D {a op : Nat → Int32} {cs nd x d v : Nat} (hW : wfD a nd) (hcs : cs < 256) (hd : d < nd) {s : rd3} (h : rdOK s) (hx : s.1 x = nI v) (hv : v ≤ s.2.2) : rdOK (rdD a op cs x d s) ∧ (rdD a op cs x d s).1 x = nI v ∧ v ≤ (rdD a op cs x d s).2.2 := by
  unfold rdD
  split
  · split
    · exact ⟨h, hx, hv⟩
    · rename_i hn
      refine ⟨rdOK_push h hx hv (rdN_lt hW hd hcs) hn, ?_, Nat.le_succ_of_le hv⟩
      show upd s.1 _ _ x = _
      have h2 := rdOK_fo h
      rw [pk_un (show x ≠ rdN a cs x d by intro e; rw [← e, hx] at hn; exact hn (nI_pos' (by omega)))]
      exact hx
  · exact ⟨h, hx, hv⟩
theorem rdR_cong {a op op2 : Nat → Int32} {cs nd : Nat} (hW : wfD a nd) (hcs : cs < 256) (ho : ∀ j, j < 8 → op j = op2 j) : ∀ (f k : Nat) (s t : rd3), rdOK s → rdA s t → rdR a op cs nd f k s = rdR a op2 cs nd f k t := by
  intro f
  induction f with
  | zero => intro k s t _ _; rfl
  | succ f ih =>
    intro k s t hs h
    rw [rdR, rdR, ← h.1]
    split
    · rfl
    · rename_i hk
      have hk2 : k < s.2.2 := by omega
      obtain ⟨x, v, hx, hv, ex, ev⟩ := hs.2 k hk2
      rw [← h.2.2 k hk2, ex, show tN (nI x) = x from nIc (by omega), h.2.1 x hx]
      split
      · rfl
      · have hi : ∀ n, n ≤ nd → rdOK (it (rdD a op cs x) n s) ∧ ((it (rdD a op cs x) n s).1 x = nI v ∧ v ≤ (it (rdD a op cs x) n s).2.2) := by
          intro n
          induction n with
          | zero => exact fun _ => ⟨hs, ev, hv⟩
          | succ n ih2 => exact fun hn => rdOK_D hW hcs (show n < nd by omega) (ih2 (by omega)).1 (ih2 (by omega)).2.1 (ih2 (by omega)).2.2
        exact ih (k + 1) _ _ (hi nd (Nat.le_refl _)).1 (it_rel rdA nd (fun d s t hd hst => rdA_D hW hcs hx hd ho hst) h)
theorem rdI_A (dep q dep2 q2 : Nat → Int32) (cs st : Nat) : rdA (rdI dep q cs st) (rdI dep2 q2 cs st) := by
  refine ⟨rfl, fun j hj => ?_, fun j hj => ?_⟩
  · show upd (filI dep (-4) 2048) _ _ j = upd (filI dep2 (-4) 2048) _ _ j
    by_cases e : j = rdF cs st
    · rw [e, pk_us, pk_us]
    · rw [pk_un e, pk_un e]; simp [filI, hj]
  · have e : j = 0 := Nat.lt_one_iff.mp hj
    rw [e]
    show upd q 0 (nI (rdF cs st)) 0 = upd q2 0 (nI (rdF cs st)) 0
    rw [pk_us, pk_us]
theorem rdR_end {a op : Nat → Int32} {cs nd k : Nat} {s : rd3} (h : s.2.2 ≤ k) : ∀ f, rdR a op cs nd f k s = -4
  | 0 => rfl
  | f + 1 => by rw [rdR, if_pos h]
theorem zq_and (a b : Nat) : nI a &&& nI b = nI (a &&& b) := by
  apply Int32.toBitVec_inj.1
  show BitVec.ofNat 32 a &&& BitVec.ofNat 32 b = BitVec.ofNat 32 (a &&& b)
  apply BitVec.eq_of_getLsbD_eq
  intro i hi
  simp [hi]
theorem zq_or (a b : Nat) : nI a ||| nI b = nI (a ||| b) := by
  apply Int32.toBitVec_inj.1
  show BitVec.ofNat 32 a ||| BitVec.ofNat 32 b = BitVec.ofNat 32 (a ||| b)
  apply BitVec.eq_of_getLsbD_eq
  intro i hi
  simp [hi]
