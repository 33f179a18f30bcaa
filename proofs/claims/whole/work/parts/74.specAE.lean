/-! the way back, as the reference lays it: how far each node is from one, going there -/
def zbB (E : zbE) (nd to_ : Nat) (F : Nat → Option Nat) : Prop := F to_ = some 0 ∧ (∀ a e t k, e < nd → E a e = some t → F t = some k → ∃ j, j ≤ k + 1 ∧ F a = some j) ∧ ∀ t k, F t = some k → (k = 0 ∧ t = to_) ∨ ∃ e t2 j, e < nd ∧ E t e = some t2 ∧ F t2 = some j ∧ k = j + 1
theorem zbB_to {E : zbE} {nd to_ : Nat} {F : Nat → Option Nat} (h : zbB E nd to_ F) : ∀ n a, F a = some n → zbW E nd n a to_
  | 0, a, ha => by
    rcases h.2.2 a 0 ha with ⟨-, e⟩ | ⟨e, t, j, -, -, -, z⟩
    · exact e
    · omega
  | n + 1, a, ha => by
    rcases h.2.2 a (n + 1) ha with ⟨e, -⟩ | ⟨e, t, j, he, hE, hj, z⟩
    · omega
    · have z2 : j = n := by omega
      subst z2
      exact (zbW_first j a to_).mpr ⟨t, e, he, hE, zbB_to h j t hj⟩
theorem zbB_of {E : zbE} {nd to_ : Nat} {F : Nat → Option Nat} (h : zbB E nd to_ F) : ∀ n a, zbW E nd n a to_ → ∃ k, k ≤ n ∧ F a = some k
  | 0, a, hw => ⟨0, Nat.le_refl _, by have e : a = to_ := hw; rw [e]; exact h.1⟩
  | n + 1, a, hw => by
    obtain ⟨t, e, he, hE, hw⟩ := (zbW_first n a to_).mp hw
    obtain ⟨k, hk, hF⟩ := zbB_of h n t hw
    obtain ⟨j, hj, hF2⟩ := h.2.1 a e t k he hE hF
    exact ⟨j, by omega, hF2⟩
theorem zbB_D {E : zbE} {nd a to_ : Nat} {F D : Nat → Option Nat} (hD : zbD E nd a D) (hB : zbB E nd to_ F) : D to_ = F a := by
  cases e : F a with
  | none =>
    refine (zbD_none hD).mpr (fun n hw => ?_)
    obtain ⟨k, -, h⟩ := zbB_of hB n a hw
    rw [e] at h
    cases h
  | some n =>
    refine (zbD_iff hD).mpr ⟨zbB_to hB n a e, fun k hk hw => ?_⟩
    obtain ⟨j, hj, h⟩ := zbB_of hB k a hw
    rw [e] at h
    injection h with h
    omega
def zbG (E : zbE) (N nd to_ n c d : Nat) (F : Nat → Option Nat) : Prop :=
  F to_ = some 0 ∧ (∀ t, F t ≠ none → t < N) ∧ (∀ t k, F t = some k → k ≤ n + 1) ∧ (∀ t k, F t = some k → (k = 0 ∧ t = to_) ∨ ∃ e t2 j, e < nd ∧ E t e = some t2 ∧ F t2 = some j ∧ k = j + 1) ∧
  ∀ a e t k, e < nd → E a e = some t → F t = some k → (k < n ∨ (k = n ∧ (a < c ∨ (a = c ∧ e < d)))) → ∃ j, j ≤ k + 1 ∧ F a = some j
theorem zbG_0 {E : zbE} {N nd to_ : Nat} (hto : to_ < N) : zbG E N nd to_ 0 0 0 (zbF0 to_) := by
  refine ⟨if_pos rfl, fun t ht => ?_, fun t k ht => ?_, fun t k ht => ?_, fun a e t k _ _ ht h => ?_⟩
  · cases e : zbF0 to_ t with
    | none => exact absurd e ht
    | some k => rw [(zbF0_or e).1]; exact hto
  · have := zbF0_or ht; omega
  · have := zbF0_or ht; exact Or.inl ⟨this.2, this.1⟩
  · omega
theorem zbG_new {E : zbE} {N nd to_ n c d t : Nat} {F : Nat → Option Nat} (h : zbG E N nd to_ n c d F) (hc : c < N) (hd : d < nd) (hn : F c = none) (hE : E c d = some t) (ht : F t = some n) : zbG E N nd to_ n c (d + 1) (fun j => if j = c then some (n + 1) else F j) := by
  obtain ⟨h1, h2, h3, h4, h5⟩ := h
  have hk : ∀ {a k : Nat}, F a = some k → (if a = c then some (n + 1) else F a) = some k := fun {a k} ha => by
    rw [if_neg (show a ≠ c by rintro rfl; rw [hn] at ha; cases ha)]; exact ha
  have ho : ∀ {a k : Nat}, (if a = c then some (n + 1) else F a) = some k → (a = c ∧ k = n + 1) ∨ F a = some k := fun {a k} ha => by
    by_cases e : a = c
    · rw [if_pos e] at ha; injection ha with ha; exact Or.inl ⟨e, ha.symm⟩
    · rw [if_neg e] at ha; exact Or.inr ha
  refine ⟨hk h1, fun a ha => ?_, fun a k ha => ?_, fun a k ha => ?_, fun a e b k he hE2 hb hq => ?_⟩
  · by_cases e : a = c
    · rw [e]; exact hc
    · have ha2 : (if a = c then some (n + 1) else F a) ≠ none := ha
      rw [if_neg e] at ha2; exact h2 a ha2
  · rcases ho ha with ⟨-, e⟩ | e
    · omega
    · exact h3 a k e
  · rcases ho ha with ⟨e, e2⟩ | e
    · subst e; exact Or.inr ⟨d, t, n, hd, hE, hk ht, e2⟩
    · rcases h4 a k e with e2 | ⟨e', t2, j, q1, q2, q3, q4⟩
      · exact Or.inl e2
      · exact Or.inr ⟨e', t2, j, q1, q2, hk q3, q4⟩
  · rcases ho hb with ⟨e1, e2⟩ | e1
    · omega
    · by_cases ec : a = c
      · subst ec
        by_cases ed : k = n ∧ e = d
        · exact ⟨n + 1, by omega, if_pos rfl⟩
        · obtain ⟨j, -, hj⟩ := h5 a e b k he hE2 e1 (by omega)
          rw [hn] at hj
          cases hj
      · obtain ⟨j, hj, hj2⟩ := h5 a e b k he hE2 e1 (by omega)
        exact ⟨j, hj, hk hj2⟩
theorem zbG_old {E : zbE} {N nd to_ n c d : Nat} {F : Nat → Option Nat} (h : zbG E N nd to_ n c d F) (hq : ∀ t, F c = none → E c d = some t → ¬ F t = some n) : zbG E N nd to_ n c (d + 1) F := by
  obtain ⟨h1, h2, h3, h4, h5⟩ := h
  refine ⟨h1, h2, h3, h4, fun a e t k he hE ht hk => ?_⟩
  by_cases z : k = n ∧ a = c ∧ e = d
  · obtain ⟨rfl, rfl, rfl⟩ := z
    cases e2 : F a with
    | none => exact absurd ht (hq t e2 hE)
    | some j => exact ⟨j, h3 a j e2, rfl⟩
  · exact h5 a e t k he hE ht (by omega)
theorem zbG_c {E : zbE} {N nd to_ n c : Nat} {F : Nat → Option Nat} (h : zbG E N nd to_ n c nd F) : zbG E N nd to_ n (c + 1) 0 F :=
  ⟨h.1, h.2.1, h.2.2.1, h.2.2.2.1, fun a e t k he hE ht hk => h.2.2.2.2 a e t k he hE ht (by omega)⟩
theorem zbG_n {E : zbE} {N nd to_ n : Nat} {F : Nat → Option Nat} (hN : ∀ a e t, E a e = some t → a < N) (h : zbG E N nd to_ n N 0 F) : zbG E N nd to_ (n + 1) 0 0 F :=
  ⟨h.1, h.2.1, fun t k ht => by have := h.2.2.1 t k ht; omega, h.2.2.2.1, fun a e t k he hE ht hk => h.2.2.2.2 a e t k he hE ht (by have := hN a e t hE; omega)⟩
theorem zbG_lt {E : zbE} {N nd to_ n c d : Nat} {F : Nat → Option Nat} (h : zbG E N nd to_ n c d F) {t k : Nat} (ht : F t = some k) : k < N := by
  have h1 := zb_card h.2.1 (fun t n ht => by
    rcases h.2.2.2.1 t (n + 1) ht with ⟨e, -⟩ | ⟨e, t2, j, -, -, h3, h4⟩
    · omega
    · exact ⟨t2, by rw [h3, show j = n by omega]⟩) k t ht
  have h2 := zbC_le F k N
  omega
theorem zbG_B {E : zbE} {N nd to_ : Nat} {F : Nat → Option Nat} (h : zbG E N nd to_ N 0 0 F) : zbB E nd to_ F :=
  ⟨h.1, fun a e t k he hE ht => h.2.2.2.2 a e t k he hE ht (Or.inl (zbG_lt h ht)), h.2.2.2.1⟩
theorem zl_D {g : Nat → Int32} {m nd n c d : Nat} {f : Nat → Int32} {F : Nat → Option Nat} {to_ : Nat} (hW : wfD g nd) (hn : n < 8) (hc : c < 8) (hd : d < nd) (hnd : nd ≤ 10) (hr : ∀ j, j < 8 → f j = zeR (F j)) (h : zbG (zbEr g m (nI 0) nd) 8 nd to_ n c d F) : ∃ F2, (∀ j, j < 8 → llD g m n c d f j = zeR (F2 j)) ∧ zbG (zbEr g m (nI 0) nd) 8 nd to_ n c (d + 1) F2 := by
  have hb : ∀ t k, F t = some k → k < 8 := fun t k ht => zbG_lt h ht
  unfold llD
  by_cases hF : F c = none
  · have hfc : f c = nI 1000000 := by rw [hr c hc, hF]; rfl
    rw [if_pos hfc]
    by_cases q : psB g m d (nI c) = true ∧ f (btF g d c) = nI n
    · rw [if_pos q]
      have ht := (ps_ok hW hd q.1).2
      have hE : zbEr g m (nI 0) nd c d = some (btF g d c) := if_pos ⟨hc, hd, zh_has0 (by omega), q.1⟩
      have hFt : F (btF g d c) = some n := by
        have h1 := q.2
        rw [hr _ ht] at h1
        exact (zr_eq hn (hb _)).mp h1
      refine ⟨_, fun j hj => ?_, zbG_new h hc hd hF hE hFt⟩
      show upd f c (nI (n + 1)) j = zeR (if j = c then some (n + 1) else F j)
      by_cases e : j = c
      · rw [e, pk_us, if_pos rfl]; rfl
      · rw [pk_un e, if_neg e]; exact hr j hj
    · rw [if_neg q]
      refine ⟨F, fun j hj => ?_, zbG_old h (fun t _ hE hFt => q ?_)⟩
      · by_cases e : j = c
        · rw [e, pk_us]; exact hr c hc
        · rw [pk_un e]; exact hr j hj
      · unfold zbEr at hE
        split at hE
        · rename_i z
          injection hE with hE
          refine ⟨z.2.2.2, ?_⟩
          rw [hr _ (ps_ok hW hd z.2.2.2).2, hE]
          exact (zr_eq hn (hb t)).mpr hFt
        · cases hE
  · have hfc : ¬ f c = nI 1000000 := by
      rw [hr c hc]
      intro z
      exact hF ((zr_far (hb c)).mp (by rw [z]; exact Int32.le_refl _))
    rw [if_neg hfc]
    exact ⟨F, hr, zbG_old h (fun t e _ => absurd e hF)⟩
theorem zl_ref {g f : Nat → Int32} {m nd to_ : Nat} (hW : wfD g nd) (hnd : nd ≤ 10) (hto : to_ < 8) : ∃ F, zbB (zbEr g m (nI 0) nd) nd to_ F ∧ (∀ t k, F t = some k → k < 8) ∧ (∀ t, F t ≠ none → t < 8) ∧ ∀ j, j < 8 → llF g f m to_ nd j = zeR (F j) := by
  have hQ : ∀ n s, n < 8 → (∃ F, (∀ j, j < 8 → s j = zeR (F j)) ∧ zbG (zbEr g m (nI 0) nd) 8 nd to_ n 0 0 F) → ∃ F, (∀ j, j < 8 → llN g m nd n s j = zeR (F j)) ∧ zbG (zbEr g m (nI 0) nd) 8 nd to_ (n + 1) 0 0 F := by
    intro n s hn hs
    obtain ⟨F, h1, h2⟩ := zb_it (F := llC g m nd n) (fun c s => ∃ F, (∀ j, j < 8 → s j = zeR (F j)) ∧ zbG (zbEr g m (nI 0) nd) 8 nd to_ n c 0 F) 8 (fun c s hc hs => by
      obtain ⟨F, h1, h2⟩ := zb_it (F := llD g m n c) (fun d s => ∃ F, (∀ j, j < 8 → s j = zeR (F j)) ∧ zbG (zbEr g m (nI 0) nd) 8 nd to_ n c d F) nd (fun d s hd hs => by
        obtain ⟨F, h1, h2⟩ := hs
        exact zl_D hW hn hc hd hnd h1 h2) hs
      exact ⟨F, h1, zbG_c h2⟩) hs
    exact ⟨F, h1, zbG_n (fun a e t z => by unfold zbEr at z; split at z; (rename_i y; exact y.1); cases z) h2⟩
  have h0 : ∃ F, (∀ j, j < 8 → inR8 f to_ (nI 0) (nI 1000000) 8 j = zeR (F j)) ∧ zbG (zbEr g m (nI 0) nd) 8 nd to_ 0 0 0 F := by
    refine ⟨_, fun j hj => ?_, zbG_0 hto⟩
    unfold inR8 zbF0
    rw [if_pos hj]
    split <;> rfl
  have e : llF g f m to_ nd = it (llN g m nd) 8 (inR8 f to_ (nI 0) (nI 1000000) 8) := rfl
  rw [e]
  obtain ⟨F, h1, h2⟩ := zb_it (F := llN g m nd) (fun n s => ∃ F, (∀ j, j < 8 → s j = zeR (F j)) ∧ zbG (zbEr g m (nI 0) nd) 8 nd to_ n 0 0 F) 8 (fun n s hn hs => hQ n s hn hs) h0
  exact ⟨F, zbG_B h2, fun t k ht => zbG_lt h2 ht, h2.2.1, h1⟩
/-- the way back, whatever stood there -/
def llZ (g : Nat → Int32) (m to_ nd : Nat) : Nat → Int32 := llF g (fun _ => nI 0) m to_ nd
theorem zbB_eq {E : zbE} {nd to_ : Nat} {F F2 : Nat → Option Nat} (h : zbB E nd to_ F) (h2 : zbB E nd to_ F2) : F = F2 := by
  have hle : ∀ {F F2 : Nat → Option Nat}, zbB E nd to_ F → zbB E nd to_ F2 → ∀ a n, F a = some n → ∃ k, k ≤ n ∧ F2 a = some k := fun h h2 a n e => zbB_of h2 n a (zbB_to h n a e)
  funext a
  cases e : F a with
  | none =>
    cases e2 : F2 a with
    | none => rfl
    | some n =>
      obtain ⟨k, -, z⟩ := hle h2 h a n e2
      rw [e] at z
      cases z
  | some n =>
    obtain ⟨k, hk, z⟩ := hle h h2 a n e
    obtain ⟨j, hj, z2⟩ := hle h2 h a k z
    rw [e] at z2
    injection z2 with z2
    rw [z, show k = n by omega]
theorem llF_Z {g f : Nat → Int32} {m nd to_ : Nat} (hW : wfD g nd) (hnd : nd ≤ 10) (hto : to_ < 8) : ∀ j, j < 8 → llF g f m to_ nd j = llZ g m to_ nd j := by
  obtain ⟨F, h1, -, -, h2⟩ := zl_ref (f := f) (m := m) hW hnd hto
  obtain ⟨F2, h3, -, -, h4⟩ := zl_ref (f := fun _ => nI 0) (m := m) hW hnd hto
  intro j hj
  unfold llZ
  rw [h2 j hj, h4 j hj, zbB_eq h1 h3]
/-! WAY, as the reference says it -/
def wyP (g L : Nat → Int32) (m c d : Nat) : Bool := psB g m d (nI c) && decide (L (btF g d c) = L c - nI 1)
def wyD (g L : Nat → Int32) (m nd c : Nat) : Int32 := seI (wyP g L m c) nd 0
def wyS (g L : Nat → Int32) (m nd : Nat) (_ : Nat) (s : Nat × Int32) : Nat × Int32 := (btF g (tN (wyD g L m nd s.1)) s.1, wyD g L m nd s.1)
def wayA (g : Nat → Int32) (nd nm : Nat) (man cell k : Int32) : Int32 :=
  if isB man nm && (isB cell 8 && !decide (k < -1)) then
    (if llZ g (tN man) (tN cell) nd (ceF g (tN man)) = nI 1000000 ∨ llZ g (tN man) (tN cell) nd (ceF g (tN man)) ≤ k then -4
     else (it (wyS g (llZ g (tN man) (tN cell) nd) (tN man) nd) (k.toInt + 1).toNat (ceF g (tN man), llZ g (tN man) (tN cell) nd (ceF g (tN man)))).2)
  else -1
/-- where it is not there yet, a DOOR goes on -/
theorem wy_on {g : Nat → Int32} {m nd to_ c n : Nat} (hW : wfD g nd) (hnd : nd ≤ 10) (hto : to_ < 8) (hc : c < 8) (hn : n < 8) (h : llZ g m to_ nd c = nI (n + 1)) : ∃ d, d < nd ∧ wyP g (llZ g m to_ nd) m c d = true := by
  obtain ⟨F, h1, h2, h3, h4⟩ := zl_ref (f := fun _ => nI 0) (m := m) hW hnd hto
  have hF : F c = some (n + 1) := by
    have h5 := h4 c hc
    have h6 : llF g (fun _ => nI 0) m to_ nd c = nI (n + 1) := h
    rw [h6] at h5
    cases e : F c with
    | none =>
      rw [e] at h5
      have h7 : nI (n + 1) = nI 1000000 := h5
      exact absurd ((nI_eq (by omega) (by decide)).mp h7) (by omega)
    | some v =>
      have := h2 c v e
      rw [e] at h5
      rw [(nI_eq (by omega) (by omega)).mp h5]
  rcases h1.2.2 c (n + 1) hF with ⟨z, -⟩ | ⟨e, t, j, he, hE, hj, z⟩
  · omega
  · unfold zbEr at hE
    split at hE
    · rename_i y
      injection hE with hE
      refine ⟨e, he, ?_⟩
      unfold wyP
      have ht8 := (ps_ok hW he y.2.2.2).2
      rw [y.2.2.2, hE, h]
      have h7 : llZ g m to_ nd t = nI j := by
        show llF g (fun _ => nI 0) m to_ nd t = nI j
        rw [h4 t (by omega), hj]; rfl
      rw [h7, show nI (n + 1) - nI 1 = nI n from pk_sub (by omega), show j = n by omega]
      simp
    · cases hE
theorem wyP_at {g L : Nat → Int32} {m nd c d n : Nat} (hW : wfD g nd) (hd : d < nd) (h : wyP g L m c d = true) (hL : L c = nI (n + 1)) : btF g d c < 8 ∧ L (btF g d c) = nI n := by
  unfold wyP at h
  rw [Bool.and_eq_true, decide_eq_true_iff] at h
  refine ⟨(ps_ok hW hd h.1).2, ?_⟩
  rw [h.2, hL]
  exact pk_sub (by omega)
theorem ll_val {g : Nat → Int32} {m nd to_ c : Nat} (hW : wfD g nd) (hnd : nd ≤ 10) (hto : to_ < 8) (hc : c < 8) : llZ g m to_ nd c = nI 1000000 ∨ ∃ v, v < 8 ∧ llZ g m to_ nd c = nI v := by
  obtain ⟨F, h1, h2, h3, h4⟩ := zl_ref (f := fun _ => nI 0) (m := m) hW hnd hto
  unfold llZ
  rw [h4 c hc]
  cases e : F c with
  | none => exact Or.inl rfl
  | some v => exact Or.inr ⟨v, h2 c v e, rfl⟩
/-! rounds, as the reference goes -/
def grN (g : Nat → Int32) (cs x d : Nat) : Nat := 256 * btF g d (x / 256) + (x % 256 ||| (cs &&& 2 ^ btF g d (x / 256)))
theorem grN_lt {g : Nat → Int32} {cs x d nd m : Nat} (hW : wfD g nd) (hd : d < nd) (hcs : cs < 256) (h : psB g m d (nI (x / 256)) = true) : grN g cs x d < 2048 := by
  have h1 := (ps_ok hW hd h).2
  have h2 : (x % 256 ||| (cs &&& 2 ^ btF g d (x / 256))) < 256 := or_lt256 (by omega) (Nat.lt_of_le_of_lt Nat.and_le_left hcs)
  unfold grN
  omega
def grD (g : Nat → Int32) (m cs x n d : Nat) (r : Nat → Int32) : Nat → Int32 := if psB g m d (nI (x / 256)) = true then upd r (grN g cs x d) (if r (grN g cs x d) = nI 1000000 then nI (n + 1) else r (grN g cs x d)) else r
def zbEv (g : Nat → Int32) (m cs nd : Nat) : zbE := fun x d => if x < 2048 ∧ d < nd ∧ psB g m d (nI (x / 256)) = true then some (grN g cs x d) else none
theorem zbEv_lt {g : Nat → Int32} {m cs nd : Nat} (hW : wfD g nd) (hcs : cs < 256) : ∀ c d t, zbEv g m cs nd c d = some t → t < 2048 := by
  intro c d t h
  unfold zbEv at h
  split at h
  · rename_i q
    injection h with h
    rw [← h]; exact grN_lt hW q.2.1 hcs q.2.2
  · cases h
/-- the shortest round's answer -/
def isRd (E : zbE) (nd fr cs : Nat) (r : Int32) : Prop := (∃ n x, n < 2048 ∧ r = nI n ∧ zbW E nd n fr x ∧ x % 256 = cs ∧ ∀ k y, k < n → zbW E nd k fr y → ¬ y % 256 = cs) ∨ (r = -4 ∧ ∀ k y, zbW E nd k fr y → ¬ y % 256 = cs)
theorem isRd_eq {E : zbE} {nd fr cs : Nat} {r r2 : Int32} (h : isRd E nd fr cs r) (h2 : isRd E nd fr cs r2) : r = r2 := by
  rcases h with ⟨n, x, hn, rfl, hw, hx, hm⟩ | ⟨rfl, hm⟩
  · rcases h2 with ⟨n2, x2, hn2, rfl, hw2, hx2, hm2⟩ | ⟨rfl, hm2⟩
    · rcases Nat.lt_trichotomy n n2 with z | z | z
      · exact absurd hx (hm2 n x z hw)
      · rw [z]
      · exact absurd hx2 (hm n2 x2 z hw2)
    · exact absurd hx (hm2 n x hw)
  · rcases h2 with ⟨n2, x2, hn2, rfl, hw2, hx2, hm2⟩ | ⟨rfl, hm2⟩
    · exact absurd hx2 (hm n2 x2 hw2)
    · rfl
theorem zbF_to {E : zbE} {N nd fr : Nat} {P : Nat → Nat → Bool} {F : Nat → Option Nat} (h : zbF E N nd fr P F) : ∀ n b, F b = some n → zbW E nd n fr b
  | 0, b, hb => by
    rcases h.2.2.2 b 0 hb with ⟨-, e⟩ | ⟨c, d, k, -, -, -, -, e⟩
    · exact e.symm
    · omega
  | n + 1, b, hb => by
    rcases h.2.2.2 b (n + 1) hb with ⟨e, -⟩ | ⟨c, d, k, hd, -, he, hk, e⟩
    · omega
    · have e2 : k = n := by omega
      subst e2
      exact ⟨c, d, hd, zbF_to h k c hk, he⟩
/-- all that is nearer than n is found, if what is nearer is done -/
theorem zbF_near {E : zbE} {N nd fr n : Nat} {P : Nat → Nat → Bool} {F : Nat → Option Nat} (h : zbF E N nd fr P F) (hP : ∀ c d k, F c = some k → k < n → d < nd → P c d = true) : ∀ k b, k ≤ n → zbW E nd k fr b → ∃ j, j ≤ k ∧ F b = some j
  | 0, b, _, hw => ⟨0, Nat.le_refl _, by have e : fr = b := hw; rw [← e]; exact h.1⟩
  | k + 1, b, hk, hw => by
    obtain ⟨c, d, hd, hw, he⟩ := hw
    obtain ⟨j, hj, hF⟩ := zbF_near h hP k c (by omega) hw
    obtain ⟨v, hv, h2⟩ := h.2.2.1 c d (hP c d j hF (by omega) hd)
    rw [hF] at hv
    injection hv with hv
    obtain ⟨i, hi, hFi⟩ := h2 b he
    exact ⟨i, by omega, hFi⟩
def zvJ (g : Nat → Int32) (m cs nd fr n k : Nat) (b : Bool) (r : Nat → Int32) : Prop := ∃ P F, (∀ j, j < 2048 → r j = zeR (F j)) ∧ zbM (zbEv g m cs nd) 2048 nd fr n k 0 P F ∧ (∀ x j, F x = some j → (j < n ∨ (j = n ∧ x < k)) → ¬ x % 256 = cs) ∧ (b = true ↔ ∃ x, x < k ∧ F x = some n)
theorem zv_eq {F : Nat → Option Nat} {c n : Nat} (hn : n ≤ 2048) (hb : ∀ k, F c = some k → k < 2048) : zeR (F c) = nI n ↔ F c = some n := by
  cases e : F c with
  | none =>
    simp only [zeR, reduceCtorEq, iff_false]
    exact fun z => absurd ((nI_eq (by decide) (by omega)).mp z) (by omega)
  | some v =>
    have := hb v e
    simp only [zeR, Option.some.injEq]
    exact nI_eq (by omega) (by omega)
theorem zvJ_0 {g r : Nat → Int32} {m cs nd fr : Nat} (hfr : fr < 2048) (hr : ∀ j, j < 2048 → r j = if j = fr then nI 0 else nI 1000000) : zvJ g m cs nd fr 0 0 false r := by
  refine ⟨_, _, fun j hj => ?_, zbM_0 hfr, fun x j _ h => by omega, ⟨fun z => absurd z Bool.false_ne_true, fun ⟨x, hx, _⟩ => by omega⟩⟩
  rw [hr j hj]
  unfold zbF0
  split <;> rfl
theorem zvJ_no {g r : Nat → Int32} {m cs nd fr n k : Nat} {b : Bool} (hk : k < 2048) (hn : n ≤ 2048) (h : zvJ g m cs nd fr n k b r) (hne : ¬ r k = nI n) : zvJ g m cs nd fr n (k + 1) b r := by
  obtain ⟨P, F, h1, h2, h3, h4⟩ := h
  have hb : ∀ j, F k = some j → j < 2048 := fun j hj => zbF_lt h2.1 hj
  have hF : ¬ F k = some n := fun z => hne (by rw [h1 k hk]; exact (zv_eq hn hb).mpr z)
  refine ⟨P, F, h1, ⟨h2.1, h2.2.1, fun a e => ?_⟩, fun x j hx hq => ?_, ?_⟩
  · rw [h2.2.2]
    constructor
    · rintro ⟨a1, j, a2, a3⟩
      exact ⟨a1, j, a2, by omega⟩
    · rintro ⟨a1, j, a2, a3⟩
      refine ⟨a1, j, a2, ?_⟩
      have : ¬ (a = k ∧ j = n) := fun z => hF (by rw [← z.1, ← z.2]; exact a2)
      omega
  · have : ¬ (x = k ∧ j = n) := fun z => hF (by rw [← z.1, ← z.2]; exact hx)
    exact h3 x j hx (by omega)
  · rw [h4]
    constructor
    · rintro ⟨x, hx, hF2⟩; exact ⟨x, by omega, hF2⟩
    · rintro ⟨x, hx, hF2⟩
      have : ¬ x = k := fun z => hF (by rw [← z]; exact hF2)
      exact ⟨x, by omega, hF2⟩
theorem zvJ_hit {g r : Nat → Int32} {m cs nd fr n k : Nat} {b : Bool} (hk : k < 2048) (hn : n ≤ 2048) (h : zvJ g m cs nd fr n k b r) (he : r k = nI n) (ht : k % 256 = cs) : isRd (zbEv g m cs nd) nd fr cs (nI n) := by
  obtain ⟨P, F, h1, h2, h3, h4⟩ := h
  have hb : ∀ j, F k = some j → j < 2048 := fun j hj => zbF_lt h2.1 hj
  have hF : F k = some n := (zv_eq hn hb).mp (by rw [← h1 k hk]; exact he)
  refine Or.inl ⟨n, k, hb n hF, rfl, zbF_to h2.1 n k hF, ht, fun j y hj hw => ?_⟩
  obtain ⟨i, hi, hFy⟩ := zbF_near (n := n) h2.1 (fun c d v hv hvn hd => (h2.2.2 c d).mpr ⟨hd, v, hv, Or.inl hvn⟩) j y (by omega) hw
  exact h3 y i hFy (by omega)
theorem zv_D {g r : Nat → Int32} {m cs nd x d n : Nat} {F : Nat → Option Nat} (hW : wfD g nd) (hcs : cs < 256) (hx : x < 2048) (hd : d < nd) (hr : ∀ j, j < 2048 → r j = zeR (F j)) (hb : ∀ t k, F t = some k → k < 2048) : ∀ j, j < 2048 → grD g m cs x n d r j = zeR (zbT (zbEv g m cs nd) n x d F j) := by
  unfold grD
  by_cases hi : psB g m d (nI (x / 256)) = true
  · have hE : zbEv g m cs nd x d = some (grN g cs x d) := if_pos ⟨hx, hd, hi⟩
    have ht := grN_lt hW hd hcs hi
    rw [if_pos hi]
    generalize grN g cs x d = t at ht hE
    cases eF : F t with
    | none =>
      have hst : r t = nI 1000000 := by rw [hr t ht, eF]; rfl
      rw [hst, if_pos rfl, zbT_new hE eF]
      intro j hj
      show upd r t (nI (n + 1)) j = zeR (if j = t then some (n + 1) else F j)
      by_cases e : j = t
      · rw [e, pk_us, if_pos rfl]; rfl
      · rw [pk_un e, if_neg e]; exact hr j hj
    | some v =>
      have hv := hb t v eF
      have hst : r t = nI v := by rw [hr t ht, eF]; rfl
      have hne : ¬ nI v = nI 1000000 := fun z => absurd ((nI_eq (by omega) (by decide)).mp z) (by omega)
      rw [hst, if_neg hne, zbT_old hE (by rw [eF]; simp)]
      intro j hj
      by_cases e : j = t
      · rw [e, pk_us, eF]; rfl
      · rw [pk_un e]; exact hr j hj
  · have hE : zbEv g m cs nd x d = none := if_neg (fun z => hi z.2.2)
    rw [if_neg hi, zbT_none hE]
    exact hr
theorem zvJ_go {g r : Nat → Int32} {m cs nd fr n k : Nat} {b : Bool} (hW : wfD g nd) (hcs : cs < 256) (hk : k < 2048) (hn : n ≤ 2048) (h : zvJ g m cs nd fr n k b r) (he : r k = nI n) (ht : ¬ k % 256 = cs) : zvJ g m cs nd fr n (k + 1) true (it (grD g m cs k n) nd r) := by
  obtain ⟨P, F, h1, h2, h3, h4⟩ := h
  have hb : ∀ j, F k = some j → j < 2048 := fun j hj => zbF_lt h2.1 hj
  have hF : F k = some n := (zv_eq hn hb).mp (by rw [← h1 k hk]; exact he)
  have hi := zb_it (F := grD g m cs k n) (s := r) (fun d s => ∃ P F, (∀ j, j < 2048 → s j = zeR (F j)) ∧ zbM (zbEv g m cs nd) 2048 nd fr n k d P F ∧ F k = some n ∧ ∀ x j, F x = some j → (j < n ∨ (j = n ∧ x < k)) → ¬ x % 256 = cs) nd (fun d s hd hs => by
    obtain ⟨P, F, h1, h2, h5, h3⟩ := hs
    refine ⟨_, _, zv_D hW hcs hk hd h1 (fun t j hj => zbF_lt h2.1 hj), zbM_step h2 (zbEv_lt hW hcs) h5 hd, zbT_keep h5, fun x j hx hq => ?_⟩
    rcases zbT_or hx with z | ⟨z, -, -⟩
    · exact h3 x j z hq
    · omega) ⟨P, F, h1, h2, hF, h3⟩
  obtain ⟨P2, F2, q1, q2, q3, q4⟩ := hi
  refine ⟨P2, F2, q1, zbM_c q2, fun x j hx hq => ?_, ⟨fun _ => ⟨k, by omega, q3⟩, fun _ => rfl⟩⟩
  by_cases e : x = k
  · subst e; exact ht
  · exact q4 x j hx (by omega)
theorem zvJ_next {g r : Nat → Int32} {m cs nd fr n : Nat} (h : zvJ g m cs nd fr n 2048 true r) : n < 2048 ∧ zvJ g m cs nd fr (n + 1) 0 false r := by
  obtain ⟨P, F, h1, h2, h3, h4⟩ := h
  obtain ⟨x, hx, hF⟩ := h4.mp rfl
  refine ⟨zbF_lt h2.1 hF, P, F, h1, zbM_n h2, fun y j hy hq => ?_, ⟨fun z => absurd z Bool.false_ne_true, fun ⟨y, hy, _⟩ => by omega⟩⟩
  have := h2.1.2.1 y (by rw [hy]; simp)
  exact h3 y j hy (by omega)
theorem zvJ_end {g r : Nat → Int32} {m cs nd fr n : Nat} (h : zvJ g m cs nd fr n 2048 false r) : isRd (zbEv g m cs nd) nd fr cs (-4) := by
  obtain ⟨P, F, h1, h2, h3, h4⟩ := h
  have hno : ∀ x, ¬ F x = some n := fun x hx => absurd (h4.mpr ⟨x, h2.1.2.1 x (by rw [hx]; simp), hx⟩) Bool.false_ne_true
  have hlt : ∀ c k, F c = some k → k < n := fun c k hc => by
    have h5 := h2.2.1.1 c k hc
    have h6 : ¬ k = n := fun z => hno c (by rw [← z]; exact hc)
    have h7 : ¬ k = n + 1 := fun z => by
      rcases h2.1.2.2.2 c k hc with ⟨e, -⟩ | ⟨a, d, j, -, -, -, h8, h9⟩
      · omega
      · exact hno a (by rw [h8, show j = n by omega])
    omega
  have hD : zbD (zbEv g m cs nd) nd fr F := zbD_all h2.1 (fun c d hc hd => by
    cases e : F c with
    | none => exact absurd e hc
    | some k => exact (h2.2.2 c d).mpr ⟨hd, k, e, Or.inl (hlt c k e)⟩)
  refine Or.inr ⟨rfl, fun k y hw => ?_⟩
  obtain ⟨j, -, hy⟩ := zbD_of hD k y hw
  exact h3 y j hy (Or.inl (hlt y j hy))
